set_option maxRecDepth 100000 in
set_option maxHeartbeats 4000000 in
theorem lc_36 {p : Program} {l : Launch} {e : Env} {s : State} {m : MethodId} {below : List Frame} {meth : Method} {c : Code} {b L : Nat} {xs : Nat → Int32} {D : DD} {G : Nat → Nat} {H : Heap} {locs : List Loc} {ls : Array Slot} {i : Int32} {k x mo o : Nat} {Q : State → Prop} (hl0 : l.stackTraces = false) (C : Cx D G p s m #[.ref b] meth c RL code 7) (hX : va_X b L xs s s.heap) (hbl : b < s.heap.size) (I : Iv D G s.heap H locs x mo o) (tp : tln D H x = (fI D H 11 mo 9).toInt ∧ BQ D H x mo ∧ RQ D H x ∧ VQ D H x mo) (hi : 0 ≤ i.toInt ∧ i.toInt + 6 ≤ L) (hL : L ≤ 3072) (hk : k ≤ 511) (hl : lv_has ls 7 [(0, .ref b), (1, .ref x), (2, .ref mo), (3, .ref o), (4, .int i)])
    (Fin : ∀ G' H' locs' ls', Iv D G' s.heap H' locs' x mo o → tln D H' x = (fI D H' 11 mo 9).toInt ∧ BQ D H' x mo ∧ RQ D H' x ∧ VQ D H' x mo → lv_has ls' 7 [(0, .ref b), (1, .ref x), (2, .ref mo), (3, .ref o), (4, .int i)] → W p l e room_1 s m #[.ref b] below meth c H' locs' (450 + 5 * k + 5) (30000 + 455 * k + 455) Q (F0 m 1653 ls' [])) : W p l e room_1 s m #[.ref b] below meth c H locs (450 + 5 * k) (30000 + 455 * k) Q (F0 m 1318 ls []) := by
  have hx := C.1
  have hb := C.2.1
  have hbA : ¬ s.heap.size ≤ b := by omega
  have tp0 := tp
  obtain ⟨tp, bq0, rq0, vq0⟩ := tp
  obtain ⟨⟨V, K, ci0, mi0, pv0, pk0⟩, ⟨wf0, if0⟩, rp0⟩ := vq0
  refine lv_aload_n hx hb dL_law__1318 rfl (lv_at hl 1 rfl) ?_
  refine lv_aload_n hx hb dL_law__1319 rfl (lv_at hl 0 rfl) ?_
  refine lv_iload hx hb dL_law__1320 (lv_at hl 4 rfl) ?_
  refine lv_iconst (v := 1) hx hb dL_law__1322 (by decide) ?_
  refine lv_iadd hx hb dL_law__1323 ?_
  refine lv_topi (fun v1 ev1 => ?_)
  have kv1 : (1 : Int32).toInt = 1 := by decide
  have fv1 : v1.toInt = i.toInt + 1 := by rw [ev1]; exact i_addc kv1 (by omega) (by omega)
  refine va_sld (A := fun q => s.heap.size ≤ q) hx hb hX hbl hbA I.S (i_vin (by omega) (by omega)) dL_law__1324 ?_
  refine lv_topi (fun v2 ev2 => ?_)
  refine lv_aload_n hx hb dL_law__1325 rfl (lv_at hl 0 rfl) ?_
  refine lv_iload hx hb dL_law__1326 (lv_at hl 4 rfl) ?_
  refine lv_iconst (v := 2) hx hb dL_law__1328 (by decide) ?_
  refine lv_iadd hx hb dL_law__1329 ?_
  refine lv_topi (fun v3 ev3 => ?_)
  have kv3 : (2 : Int32).toInt = 2 := by decide
  have fv3 : v3.toInt = i.toInt + 2 := by rw [ev3]; exact i_addc kv3 (by omega) (by omega)
  refine va_sld (A := fun q => s.heap.size ≤ q) hx hb hX hbl hbA I.S (i_vin (by omega) (by omega)) dL_law__1330 ?_
  refine lv_topi (fun v4 ev4 => ?_)
  refine lv_aload_n hx hb dL_law__1331 rfl (lv_at hl 3 rfl) ?_
  refine l_W (As := [.ref x, .int v2, .int v4, .ref o]) hl0 C I (c_L_ahead l D G x v2 v4 o I.2.1.1 I.2.1.2.2) kw_250 I.2.2.2.2.2.2.2.1 (by decide +kernel) (by decide +kernel) dL_law__1332 hl.1 cdL_ahead ⟨Nat.le_of_ble_eq_true rfl, Nat.le_of_ble_eq_true rfl, (by show 450 + 5 * k + 2 ≤ 601024; omega), (by show 30000 + 455 * k + 12 ≤ 7293034; omega), Nat.le_of_ble_eq_true rfl⟩ (fun r5 G5 H5 L5 I5 C m5 t5 K5 => ?_)
  have m5 := congrArg Int32.toInt m5
  obtain ⟨t5, rw5⟩ := t5
  have a9_5 : (fI D H5 10 x 9).toInt = (fI D H 10 x 9).toInt := ko_x K5 I.2.1.1 (by decide) (by decide +kernel)
  have a8_5 : (fI D H5 10 x 8).toInt = (fI D H 10 x 8).toInt := ko_x K5 I.2.1.1 (by decide) (by decide +kernel)
  have b4_5 : (fI D H5 11 mo 14).toInt = (fI D H 11 mo 14).toInt := ko_m K5 I.2.1.2.1 (by decide) (by decide +kernel)
  have b6_5 : (fI D H5 11 mo 6).toInt = (fI D H 11 mo 6).toInt := ko_m K5 I.2.1.2.1 (by decide) (by decide +kernel)
  have rp5 : RP6 D H5 x := rp0.keep I.1 I.2.1.1 K5 (by decide +kernel)
  have mi5 := mi0.keepO I.1 I.2.1.2.1 I.2.1.2.2 I.2.2.1.lt K5
  have ci5 := rw5 V K ci0
  have bq5 : BQ D H5 x mo := bq0.keep I.1 I.2.1.1 I.2.1.2.1 K5 (by decide +kernel) (by decide +kernel)
  have rq5 : RQ D H5 x := rq0.keep I.1 I.2.1.1 K5 (by decide +kernel)
  have t5 : tln D H5 x = tln D H x := t5
  refine lv_istore (lv' := [(5, .int r5), (0, .ref b), (1, .ref x), (2, .ref mo), (3, .ref o), (4, .int i)]) hx hb dL_law__1335 hl (by decide) rfl (fun ls hl => ?_)
  refine lv_aload_n hx hb dL_law__1337 rfl (lv_at hl 3 rfl) ?_
  refine lv_aload_n hx hb dL_law__1338 rfl (lv_at hl 1 rfl) ?_
  refine lv_iload hx hb dL_law__1339 (lv_at hl 5 rfl) ?_
  refine lv_iconst (v := 1) hx hb dL_law__1341 (by decide) ?_
  refine lv_iadd hx hb dL_law__1342 ?_
  refine lv_topi (fun v6 ev6 => ?_)
  have kv6 : (1 : Int32).toInt = 1 := by decide
  have fv6 : v6.toInt = i.toInt + 1 := by rw [ev6]; exact i_addc kv6 (by omega) (by omega)
  refine va_sld (A := fun q => s.heap.size ≤ q) hx hb hX hbl hbA I5.S (i_vin (by omega) (by omega)) dL_law__1343 ?_
  refine lv_topi (fun v7 ev7 => ?_)
  refine lv_aload_n hx hb dL_law__1344 rfl (lv_at hl 1 rfl) ?_
  refine lv_iload hx hb dL_law__1345 (lv_at hl 5 rfl) ?_
  refine lv_iconst (v := 2) hx hb dL_law__1347 (by decide) ?_
  refine lv_iadd hx hb dL_law__1348 ?_
  refine lv_topi (fun v8 ev8 => ?_)
  have kv8 : (2 : Int32).toInt = 2 := by decide
  have fv8 : v8.toInt = i.toInt + 2 := by rw [ev8]; exact i_addc kv8 (by omega) (by omega)
  refine va_sld (A := fun q => s.heap.size ≤ q) hx hb hX hbl hbA I5.S (i_vin (by omega) (by omega)) dL_law__1349 ?_
  refine lv_topi (fun v9 ev9 => ?_)
  refine l_E (T := TX12) (As := [.int v7, .int v9]) C I5 (c_X12_ahead l D G5 mo v7 v9 I5.2.1.2.1) kV_L_252 I5.2.1.2.1 trivial (by decide +kernel) dL_law__1350 hl.1 rfl rfl (by decide) cd_X12_ahead ⟨Nat.le_of_ble_eq_true rfl, Nat.le_of_ble_eq_true rfl, (by show 450 + 5 * k + 2 ≤ 601024; omega), (by show 30000 + 455 * k + 12 ≤ 7293034; omega), Nat.le_of_ble_eq_true rfl⟩ (fun v10 H10 L10 I10 K10 q10 => ?_)
  have t10 : tln D H10 x = tln D H5 x := tlW I5.1 I5.2.1.1 K10 (by decide +kernel) (by decide +kernel)
  have m10 : (fI D H10 11 mo 9).toInt = (fI D H5 11 mo 9).toInt := congrArg Int32.toInt (K10.fI I5.2.1.2.1 rfl (by decide) (by decide +kernel))
  have bq10 : BQ D H10 x mo := bq5.keep I5.1 I5.2.1.1 I5.2.1.2.1 (Keep.o K10 o) (by decide +kernel) (by decide +kernel)
  have rq10 : RQ D H10 x := rq5.keep I5.1 I5.2.1.1 (Keep.o K10 o) (by decide +kernel)
  have a9_10 : (fI D H10 10 x 9).toInt = (fI D H5 10 x 9).toInt := ko_x (Keep.o K10 o) I5.2.1.1 (by decide) (by decide +kernel)
  have a8_10 : (fI D H10 10 x 8).toInt = (fI D H5 10 x 8).toInt := ko_x (Keep.o K10 o) I5.2.1.1 (by decide) (by decide +kernel)
  have b4_10 : (fI D H10 11 mo 14).toInt = (fI D H5 11 mo 14).toInt := ko_m (Keep.o K10 o) I5.2.1.2.1 (by decide) (by decide +kernel)
  have b6_10 : (fI D H10 11 mo 6).toInt = (fI D H5 11 mo 6).toInt := ko_m (Keep.o K10 o) I5.2.1.2.1 (by decide) (by decide +kernel)
  have rp10 : RP6 D H10 x := rp5.keep I5.1 I5.2.1.1 (Keep.o K10 o) (by decide +kernel)
  have ci10 := ci5.keep I5.1 I5.2.1.1 K10 (by decide +kernel)
  obtain ⟨r10, rfl, q10⟩ := q10
  have mi10 := q10.2 V K mi5
  refine lv_istore (lv' := [(6, .int r10), (5, .int r5), (0, .ref b), (1, .ref x), (2, .ref mo), (3, .ref o), (4, .int i)]) hx hb dL_law__1353 hl (by decide) rfl (fun ls hl => ?_)
  refine lv_goto (tgt := 1653) hx hb dL_law__1355 (by decide) ?_
  exact W.widen (by show 450 + 5 * k + 2 ≤ 450 + 5 * k + 5; omega) (by show 30000 + 455 * k + 12 ≤ 30000 + 455 * k + 455; omega) (Fin _ _ _ _ I10 (⟨by unfold tln at *; omega, bq10, rq10, ⟨⟨V, K, ci10, mi10, pv0, fun h9 => pk0 (by omega)⟩, ⟨by omega, by omega⟩, rp10⟩⟩) (lv_sub hl [2, 3, 4, 5, 6] rfl))

set_option maxRecDepth 100000 in
set_option maxHeartbeats 4000000 in
theorem lc_37 {p : Program} {l : Launch} {e : Env} {s : State} {m : MethodId} {below : List Frame} {meth : Method} {c : Code} {b L : Nat} {xs : Nat → Int32} {D : DD} {G : Nat → Nat} {H : Heap} {locs : List Loc} {ls : Array Slot} {i : Int32} {k x mo o : Nat} {Q : State → Prop} (hl0 : l.stackTraces = false) (C : Cx D G p s m #[.ref b] meth c RL code 7) (hX : va_X b L xs s s.heap) (hbl : b < s.heap.size) (I : Iv D G s.heap H locs x mo o) (tp : tln D H x = (fI D H 11 mo 9).toInt ∧ BQ D H x mo ∧ RQ D H x ∧ VQ D H x mo) (hi : 0 ≤ i.toInt ∧ i.toInt + 6 ≤ L) (hL : L ≤ 3072) (hk : k ≤ 511) (hl : lv_has ls 7 [(0, .ref b), (1, .ref x), (2, .ref mo), (3, .ref o), (4, .int i)])
    (Fin : ∀ G' H' locs' ls', Iv D G' s.heap H' locs' x mo o → tln D H' x = (fI D H' 11 mo 9).toInt ∧ BQ D H' x mo ∧ RQ D H' x ∧ VQ D H' x mo → lv_has ls' 7 [(0, .ref b), (1, .ref x), (2, .ref mo), (3, .ref o), (4, .int i)] → W p l e room_1 s m #[.ref b] below meth c H' locs' (450 + 5 * k + 5) (30000 + 455 * k + 455) Q (F0 m 1653 ls' [])) : W p l e room_1 s m #[.ref b] below meth c H locs (450 + 5 * k) (30000 + 455 * k) Q (F0 m 1358 ls []) := by
  have hx := C.1
  have hb := C.2.1
  have hbA : ¬ s.heap.size ≤ b := by omega
  have tp0 := tp
  obtain ⟨tp, bq0, rq0, vq0⟩ := tp
  obtain ⟨⟨V, K, ci0, mi0, pv0, pk0⟩, ⟨wf0, if0⟩, rp0⟩ := vq0
  refine lv_aload_n hx hb dL_law__1358 rfl (lv_at hl 1 rfl) ?_
  refine lv_aload_n hx hb dL_law__1359 rfl (lv_at hl 0 rfl) ?_
  refine lv_iload hx hb dL_law__1360 (lv_at hl 4 rfl) ?_
  refine lv_iconst (v := 1) hx hb dL_law__1362 (by decide) ?_
  refine lv_iadd hx hb dL_law__1363 ?_
  refine lv_topi (fun v1 ev1 => ?_)
  have kv1 : (1 : Int32).toInt = 1 := by decide
  have fv1 : v1.toInt = i.toInt + 1 := by rw [ev1]; exact i_addc kv1 (by omega) (by omega)
  refine va_sld (A := fun q => s.heap.size ≤ q) hx hb hX hbl hbA I.S (i_vin (by omega) (by omega)) dL_law__1364 ?_
  refine lv_topi (fun v2 ev2 => ?_)
  refine lv_aload_n hx hb dL_law__1365 rfl (lv_at hl 0 rfl) ?_
  refine lv_iload hx hb dL_law__1366 (lv_at hl 4 rfl) ?_
  refine lv_iconst (v := 2) hx hb dL_law__1368 (by decide) ?_
  refine lv_iadd hx hb dL_law__1369 ?_
  refine lv_topi (fun v3 ev3 => ?_)
  have kv3 : (2 : Int32).toInt = 2 := by decide
  have fv3 : v3.toInt = i.toInt + 2 := by rw [ev3]; exact i_addc kv3 (by omega) (by omega)
  refine va_sld (A := fun q => s.heap.size ≤ q) hx hb hX hbl hbA I.S (i_vin (by omega) (by omega)) dL_law__1370 ?_
  refine lv_topi (fun v4 ev4 => ?_)
  refine lv_if_eq (tgt := 1378) hx hb dL_law__1371 (by decide) (fun c9 => ?_) (fun c9 => ?_)
  · skip
    refine lv_iconst (v := 0) hx hb dL_law__1378 (by decide) ?_
    refine lv_aload_n hx hb dL_law__1379 rfl (lv_at hl 3 rfl) ?_
    have k0_5 : (0 : Int32).toInt = 0 := by decide
    refine l_W (As := [.ref x, .int v2, .int (0 : Int32), .ref o]) hl0 C I (c_L_trial l D G x v2 (0 : Int32) o I.2.1.1 (by omega) I.2.1.2.2) kw_253 I.2.2.2.2.2.2.2.1 (by decide +kernel) (by decide +kernel) dL_law__1380 hl.1 cdL_trial ⟨Nat.le_of_ble_eq_true rfl, Nat.le_of_ble_eq_true rfl, (by show 450 + 5 * k + 1 ≤ 601024; omega), (by show 30000 + 455 * k + 6 ≤ 7293034; omega), Nat.le_of_ble_eq_true rfl⟩ (fun r5 G5 H5 L5 I5 C m5 t5 K5 => ?_)
    have m5 := congrArg Int32.toInt m5
    obtain ⟨t5, rw5⟩ := t5
    have a9_5 : (fI D H5 10 x 9).toInt = (fI D H 10 x 9).toInt := ko_x K5 I.2.1.1 (by decide) (by decide +kernel)
    have a8_5 : (fI D H5 10 x 8).toInt = (fI D H 10 x 8).toInt := ko_x K5 I.2.1.1 (by decide) (by decide +kernel)
    have b4_5 : (fI D H5 11 mo 14).toInt = (fI D H 11 mo 14).toInt := ko_m K5 I.2.1.2.1 (by decide) (by decide +kernel)
    have b6_5 : (fI D H5 11 mo 6).toInt = (fI D H 11 mo 6).toInt := ko_m K5 I.2.1.2.1 (by decide) (by decide +kernel)
    have rp5 : RP6 D H5 x := rp0.keep I.1 I.2.1.1 K5 (by decide +kernel)
    have mi5 := mi0.keepO I.1 I.2.1.2.1 I.2.1.2.2 I.2.2.1.lt K5
    have ci5 := rw5 V K ci0
    have bq5 : BQ D H5 x mo := bq0.keep I.1 I.2.1.1 I.2.1.2.1 K5 (by decide +kernel) (by decide +kernel)
    have rq5 : RQ D H5 x := rq0.keep I.1 I.2.1.1 K5 (by decide +kernel)
    have t5 : tln D H5 x = tln D H x := t5
    refine lv_istore (lv' := [(5, .int r5), (0, .ref b), (1, .ref x), (2, .ref mo), (3, .ref o), (4, .int i)]) hx hb dL_law__1383 hl (by decide) rfl (fun ls hl => ?_)
    refine lv_aload_n hx hb dL_law__1385 rfl (lv_at hl 3 rfl) ?_
    refine lv_aload_n hx hb dL_law__1386 rfl (lv_at hl 1 rfl) ?_
    refine lv_iload hx hb dL_law__1387 (lv_at hl 5 rfl) ?_
    refine lv_iconst (v := 1) hx hb dL_law__1389 (by decide) ?_
    refine lv_iadd hx hb dL_law__1390 ?_
    refine lv_topi (fun v6 ev6 => ?_)
    have kv6 : (1 : Int32).toInt = 1 := by decide
    have fv6 : v6.toInt = i.toInt + 1 := by rw [ev6]; exact i_addc kv6 (by omega) (by omega)
    refine va_sld (A := fun q => s.heap.size ≤ q) hx hb hX hbl hbA I5.S (i_vin (by omega) (by omega)) dL_law__1391 ?_
    refine lv_topi (fun v7 ev7 => ?_)
    refine lv_aload_n hx hb dL_law__1392 rfl (lv_at hl 1 rfl) ?_
    refine lv_iload hx hb dL_law__1393 (lv_at hl 5 rfl) ?_
    refine lv_iconst (v := 2) hx hb dL_law__1395 (by decide) ?_
    refine lv_iadd hx hb dL_law__1396 ?_
    refine lv_topi (fun v8 ev8 => ?_)
    have kv8 : (2 : Int32).toInt = 2 := by decide
    have fv8 : v8.toInt = i.toInt + 2 := by rw [ev8]; exact i_addc kv8 (by omega) (by omega)
    refine va_sld (A := fun q => s.heap.size ≤ q) hx hb hX hbl hbA I5.S (i_vin (by omega) (by omega)) dL_law__1397 ?_
    refine lv_topi (fun v9 ev9 => ?_)
    refine lv_if_eq (tgt := 1405) hx hb dL_law__1398 (by decide) (fun c9 => ?_) (fun c9 => ?_)
    · skip
      refine lv_iconst (v := 0) hx hb dL_law__1405 (by decide) ?_
      have k0_10 : (0 : Int32).toInt = 0 := by decide
      refine l_E (T := TX12) (As := [.int v7, .int (0 : Int32)]) C I5 (c_X12_trial l D G5 mo v7 (0 : Int32) I5.2.1.2.1 (by omega)) kV_L_255 I5.2.1.2.1 trivial (by decide +kernel) dL_law__1406 hl.1 rfl rfl (by decide) cd_X12_trial ⟨Nat.le_of_ble_eq_true rfl, Nat.le_of_ble_eq_true rfl, (by show 450 + 5 * k + 1 ≤ 601024; omega), (by show 30000 + 455 * k + 6 ≤ 7293034; omega), Nat.le_of_ble_eq_true rfl⟩ (fun v10 H10 L10 I10 K10 q10 => ?_)
      have t10 : tln D H10 x = tln D H5 x := tlW I5.1 I5.2.1.1 K10 (by decide +kernel) (by decide +kernel)
      have m10 : (fI D H10 11 mo 9).toInt = (fI D H5 11 mo 9).toInt := congrArg Int32.toInt (K10.fI I5.2.1.2.1 rfl (by decide) (by decide +kernel))
      have bq10 : BQ D H10 x mo := bq5.keep I5.1 I5.2.1.1 I5.2.1.2.1 (Keep.o K10 o) (by decide +kernel) (by decide +kernel)
      have rq10 : RQ D H10 x := rq5.keep I5.1 I5.2.1.1 (Keep.o K10 o) (by decide +kernel)
      have a9_10 : (fI D H10 10 x 9).toInt = (fI D H5 10 x 9).toInt := ko_x (Keep.o K10 o) I5.2.1.1 (by decide) (by decide +kernel)
      have a8_10 : (fI D H10 10 x 8).toInt = (fI D H5 10 x 8).toInt := ko_x (Keep.o K10 o) I5.2.1.1 (by decide) (by decide +kernel)
      have b4_10 : (fI D H10 11 mo 14).toInt = (fI D H5 11 mo 14).toInt := ko_m (Keep.o K10 o) I5.2.1.2.1 (by decide) (by decide +kernel)
      have b6_10 : (fI D H10 11 mo 6).toInt = (fI D H5 11 mo 6).toInt := ko_m (Keep.o K10 o) I5.2.1.2.1 (by decide) (by decide +kernel)
      have rp10 : RP6 D H10 x := rp5.keep I5.1 I5.2.1.1 (Keep.o K10 o) (by decide +kernel)
      have ci10 := ci5.keep I5.1 I5.2.1.1 K10 (by decide +kernel)
      obtain ⟨r10, rfl, q10⟩ := q10
      have mi10 := q10.2 V K mi5
      refine lv_istore (lv' := [(6, .int r10), (5, .int r5), (0, .ref b), (1, .ref x), (2, .ref mo), (3, .ref o), (4, .int i)]) hx hb dL_law__1409 hl (by decide) rfl (fun ls hl => ?_)
      refine lv_goto (tgt := 1653) hx hb dL_law__1411 (by decide) ?_
      exact W.widen (by show 450 + 5 * k + 1 ≤ 450 + 5 * k + 5; omega) (by show 30000 + 455 * k + 6 ≤ 30000 + 455 * k + 455; omega) (Fin _ _ _ _ I10 (⟨by unfold tln at *; omega, bq10, rq10, ⟨⟨V, K, ci10, mi10, pv0, fun h9 => pk0 (by omega)⟩, ⟨by omega, by omega⟩, rp10⟩⟩) (lv_sub hl [2, 3, 4, 5, 6] rfl))
    · skip
      refine lv_iconst (v := 1) hx hb dL_law__1401 (by decide) ?_
      refine lv_goto (tgt := 1406) hx hb dL_law__1402 (by decide) ?_
      have k1_11 : (1 : Int32).toInt = 1 := by decide
      refine l_E (T := TX12) (As := [.int v7, .int (1 : Int32)]) C I5 (c_X12_trial l D G5 mo v7 (1 : Int32) I5.2.1.2.1 (by omega)) kV_L_255 I5.2.1.2.1 trivial (by decide +kernel) dL_law__1406 hl.1 rfl rfl (by decide) cd_X12_trial ⟨Nat.le_of_ble_eq_true rfl, Nat.le_of_ble_eq_true rfl, (by show 450 + 5 * k + 1 ≤ 601024; omega), (by show 30000 + 455 * k + 6 ≤ 7293034; omega), Nat.le_of_ble_eq_true rfl⟩ (fun v11 H11 L11 I11 K11 q11 => ?_)
      have t11 : tln D H11 x = tln D H5 x := tlW I5.1 I5.2.1.1 K11 (by decide +kernel) (by decide +kernel)
      have m11 : (fI D H11 11 mo 9).toInt = (fI D H5 11 mo 9).toInt := congrArg Int32.toInt (K11.fI I5.2.1.2.1 rfl (by decide) (by decide +kernel))
      have bq11 : BQ D H11 x mo := bq5.keep I5.1 I5.2.1.1 I5.2.1.2.1 (Keep.o K11 o) (by decide +kernel) (by decide +kernel)
      have rq11 : RQ D H11 x := rq5.keep I5.1 I5.2.1.1 (Keep.o K11 o) (by decide +kernel)
      have a9_11 : (fI D H11 10 x 9).toInt = (fI D H5 10 x 9).toInt := ko_x (Keep.o K11 o) I5.2.1.1 (by decide) (by decide +kernel)
      have a8_11 : (fI D H11 10 x 8).toInt = (fI D H5 10 x 8).toInt := ko_x (Keep.o K11 o) I5.2.1.1 (by decide) (by decide +kernel)
      have b4_11 : (fI D H11 11 mo 14).toInt = (fI D H5 11 mo 14).toInt := ko_m (Keep.o K11 o) I5.2.1.2.1 (by decide) (by decide +kernel)
      have b6_11 : (fI D H11 11 mo 6).toInt = (fI D H5 11 mo 6).toInt := ko_m (Keep.o K11 o) I5.2.1.2.1 (by decide) (by decide +kernel)
      have rp11 : RP6 D H11 x := rp5.keep I5.1 I5.2.1.1 (Keep.o K11 o) (by decide +kernel)
      have ci11 := ci5.keep I5.1 I5.2.1.1 K11 (by decide +kernel)
      obtain ⟨r11, rfl, q11⟩ := q11
      have mi11 := q11.2 V K mi5
      refine lv_istore (lv' := [(6, .int r11), (5, .int r5), (0, .ref b), (1, .ref x), (2, .ref mo), (3, .ref o), (4, .int i)]) hx hb dL_law__1409 hl (by decide) rfl (fun ls hl => ?_)
      refine lv_goto (tgt := 1653) hx hb dL_law__1411 (by decide) ?_
      exact W.widen (by show 450 + 5 * k + 1 ≤ 450 + 5 * k + 5; omega) (by show 30000 + 455 * k + 6 ≤ 30000 + 455 * k + 455; omega) (Fin _ _ _ _ I11 (⟨by unfold tln at *; omega, bq11, rq11, ⟨⟨V, K, ci11, mi11, pv0, fun h9 => pk0 (by omega)⟩, ⟨by omega, by omega⟩, rp11⟩⟩) (lv_sub hl [2, 3, 4, 5, 6] rfl))
  · skip
    refine lv_iconst (v := 1) hx hb dL_law__1374 (by decide) ?_
    refine lv_goto (tgt := 1379) hx hb dL_law__1375 (by decide) ?_
    refine lv_aload_n hx hb dL_law__1379 rfl (lv_at hl 3 rfl) ?_
    have k1_12 : (1 : Int32).toInt = 1 := by decide
    refine l_W (As := [.ref x, .int v2, .int (1 : Int32), .ref o]) hl0 C I (c_L_trial l D G x v2 (1 : Int32) o I.2.1.1 (by omega) I.2.1.2.2) kw_253 I.2.2.2.2.2.2.2.1 (by decide +kernel) (by decide +kernel) dL_law__1380 hl.1 cdL_trial ⟨Nat.le_of_ble_eq_true rfl, Nat.le_of_ble_eq_true rfl, (by show 450 + 5 * k + 1 ≤ 601024; omega), (by show 30000 + 455 * k + 6 ≤ 7293034; omega), Nat.le_of_ble_eq_true rfl⟩ (fun r12 G12 H12 L12 I12 C m12 t12 K12 => ?_)
    have m12 := congrArg Int32.toInt m12
    obtain ⟨t12, rw12⟩ := t12
    have a9_12 : (fI D H12 10 x 9).toInt = (fI D H 10 x 9).toInt := ko_x K12 I.2.1.1 (by decide) (by decide +kernel)
    have a8_12 : (fI D H12 10 x 8).toInt = (fI D H 10 x 8).toInt := ko_x K12 I.2.1.1 (by decide) (by decide +kernel)
    have b4_12 : (fI D H12 11 mo 14).toInt = (fI D H 11 mo 14).toInt := ko_m K12 I.2.1.2.1 (by decide) (by decide +kernel)
    have b6_12 : (fI D H12 11 mo 6).toInt = (fI D H 11 mo 6).toInt := ko_m K12 I.2.1.2.1 (by decide) (by decide +kernel)
    have rp12 : RP6 D H12 x := rp0.keep I.1 I.2.1.1 K12 (by decide +kernel)
    have mi12 := mi0.keepO I.1 I.2.1.2.1 I.2.1.2.2 I.2.2.1.lt K12
    have ci12 := rw12 V K ci0
    have bq12 : BQ D H12 x mo := bq0.keep I.1 I.2.1.1 I.2.1.2.1 K12 (by decide +kernel) (by decide +kernel)
    have rq12 : RQ D H12 x := rq0.keep I.1 I.2.1.1 K12 (by decide +kernel)
    have t12 : tln D H12 x = tln D H x := t12
    refine lv_istore (lv' := [(5, .int r12), (0, .ref b), (1, .ref x), (2, .ref mo), (3, .ref o), (4, .int i)]) hx hb dL_law__1383 hl (by decide) rfl (fun ls hl => ?_)
    refine lv_aload_n hx hb dL_law__1385 rfl (lv_at hl 3 rfl) ?_
    refine lv_aload_n hx hb dL_law__1386 rfl (lv_at hl 1 rfl) ?_
    refine lv_iload hx hb dL_law__1387 (lv_at hl 5 rfl) ?_
    refine lv_iconst (v := 1) hx hb dL_law__1389 (by decide) ?_
    refine lv_iadd hx hb dL_law__1390 ?_
    refine lv_topi (fun v13 ev13 => ?_)
    have kv13 : (1 : Int32).toInt = 1 := by decide
    have fv13 : v13.toInt = i.toInt + 1 := by rw [ev13]; exact i_addc kv13 (by omega) (by omega)
    refine va_sld (A := fun q => s.heap.size ≤ q) hx hb hX hbl hbA I12.S (i_vin (by omega) (by omega)) dL_law__1391 ?_
    refine lv_topi (fun v14 ev14 => ?_)
    refine lv_aload_n hx hb dL_law__1392 rfl (lv_at hl 1 rfl) ?_
    refine lv_iload hx hb dL_law__1393 (lv_at hl 5 rfl) ?_
    refine lv_iconst (v := 2) hx hb dL_law__1395 (by decide) ?_
    refine lv_iadd hx hb dL_law__1396 ?_
    refine lv_topi (fun v15 ev15 => ?_)
    have kv15 : (2 : Int32).toInt = 2 := by decide
    have fv15 : v15.toInt = i.toInt + 2 := by rw [ev15]; exact i_addc kv15 (by omega) (by omega)
    refine va_sld (A := fun q => s.heap.size ≤ q) hx hb hX hbl hbA I12.S (i_vin (by omega) (by omega)) dL_law__1397 ?_
    refine lv_topi (fun v16 ev16 => ?_)
    refine lv_if_eq (tgt := 1405) hx hb dL_law__1398 (by decide) (fun c9 => ?_) (fun c9 => ?_)
    · skip
      refine lv_iconst (v := 0) hx hb dL_law__1405 (by decide) ?_
      have k0_17 : (0 : Int32).toInt = 0 := by decide
      refine l_E (T := TX12) (As := [.int v14, .int (0 : Int32)]) C I12 (c_X12_trial l D G12 mo v14 (0 : Int32) I12.2.1.2.1 (by omega)) kV_L_255 I12.2.1.2.1 trivial (by decide +kernel) dL_law__1406 hl.1 rfl rfl (by decide) cd_X12_trial ⟨Nat.le_of_ble_eq_true rfl, Nat.le_of_ble_eq_true rfl, (by show 450 + 5 * k + 1 ≤ 601024; omega), (by show 30000 + 455 * k + 6 ≤ 7293034; omega), Nat.le_of_ble_eq_true rfl⟩ (fun v17 H17 L17 I17 K17 q17 => ?_)
      have t17 : tln D H17 x = tln D H12 x := tlW I12.1 I12.2.1.1 K17 (by decide +kernel) (by decide +kernel)
      have m17 : (fI D H17 11 mo 9).toInt = (fI D H12 11 mo 9).toInt := congrArg Int32.toInt (K17.fI I12.2.1.2.1 rfl (by decide) (by decide +kernel))
      have bq17 : BQ D H17 x mo := bq12.keep I12.1 I12.2.1.1 I12.2.1.2.1 (Keep.o K17 o) (by decide +kernel) (by decide +kernel)
      have rq17 : RQ D H17 x := rq12.keep I12.1 I12.2.1.1 (Keep.o K17 o) (by decide +kernel)
      have a9_17 : (fI D H17 10 x 9).toInt = (fI D H12 10 x 9).toInt := ko_x (Keep.o K17 o) I12.2.1.1 (by decide) (by decide +kernel)
      have a8_17 : (fI D H17 10 x 8).toInt = (fI D H12 10 x 8).toInt := ko_x (Keep.o K17 o) I12.2.1.1 (by decide) (by decide +kernel)
      have b4_17 : (fI D H17 11 mo 14).toInt = (fI D H12 11 mo 14).toInt := ko_m (Keep.o K17 o) I12.2.1.2.1 (by decide) (by decide +kernel)
      have b6_17 : (fI D H17 11 mo 6).toInt = (fI D H12 11 mo 6).toInt := ko_m (Keep.o K17 o) I12.2.1.2.1 (by decide) (by decide +kernel)
      have rp17 : RP6 D H17 x := rp12.keep I12.1 I12.2.1.1 (Keep.o K17 o) (by decide +kernel)
      have ci17 := ci12.keep I12.1 I12.2.1.1 K17 (by decide +kernel)
      obtain ⟨r17, rfl, q17⟩ := q17
      have mi17 := q17.2 V K mi12
      refine lv_istore (lv' := [(6, .int r17), (5, .int r12), (0, .ref b), (1, .ref x), (2, .ref mo), (3, .ref o), (4, .int i)]) hx hb dL_law__1409 hl (by decide) rfl (fun ls hl => ?_)
      refine lv_goto (tgt := 1653) hx hb dL_law__1411 (by decide) ?_
      exact W.widen (by show 450 + 5 * k + 1 ≤ 450 + 5 * k + 5; omega) (by show 30000 + 455 * k + 6 ≤ 30000 + 455 * k + 455; omega) (Fin _ _ _ _ I17 (⟨by unfold tln at *; omega, bq17, rq17, ⟨⟨V, K, ci17, mi17, pv0, fun h9 => pk0 (by omega)⟩, ⟨by omega, by omega⟩, rp17⟩⟩) (lv_sub hl [2, 3, 4, 5, 6] rfl))
    · skip
      refine lv_iconst (v := 1) hx hb dL_law__1401 (by decide) ?_
      refine lv_goto (tgt := 1406) hx hb dL_law__1402 (by decide) ?_
      have k1_18 : (1 : Int32).toInt = 1 := by decide
      refine l_E (T := TX12) (As := [.int v14, .int (1 : Int32)]) C I12 (c_X12_trial l D G12 mo v14 (1 : Int32) I12.2.1.2.1 (by omega)) kV_L_255 I12.2.1.2.1 trivial (by decide +kernel) dL_law__1406 hl.1 rfl rfl (by decide) cd_X12_trial ⟨Nat.le_of_ble_eq_true rfl, Nat.le_of_ble_eq_true rfl, (by show 450 + 5 * k + 1 ≤ 601024; omega), (by show 30000 + 455 * k + 6 ≤ 7293034; omega), Nat.le_of_ble_eq_true rfl⟩ (fun v18 H18 L18 I18 K18 q18 => ?_)
      have t18 : tln D H18 x = tln D H12 x := tlW I12.1 I12.2.1.1 K18 (by decide +kernel) (by decide +kernel)
      have m18 : (fI D H18 11 mo 9).toInt = (fI D H12 11 mo 9).toInt := congrArg Int32.toInt (K18.fI I12.2.1.2.1 rfl (by decide) (by decide +kernel))
      have bq18 : BQ D H18 x mo := bq12.keep I12.1 I12.2.1.1 I12.2.1.2.1 (Keep.o K18 o) (by decide +kernel) (by decide +kernel)
      have rq18 : RQ D H18 x := rq12.keep I12.1 I12.2.1.1 (Keep.o K18 o) (by decide +kernel)
      have a9_18 : (fI D H18 10 x 9).toInt = (fI D H12 10 x 9).toInt := ko_x (Keep.o K18 o) I12.2.1.1 (by decide) (by decide +kernel)
      have a8_18 : (fI D H18 10 x 8).toInt = (fI D H12 10 x 8).toInt := ko_x (Keep.o K18 o) I12.2.1.1 (by decide) (by decide +kernel)
      have b4_18 : (fI D H18 11 mo 14).toInt = (fI D H12 11 mo 14).toInt := ko_m (Keep.o K18 o) I12.2.1.2.1 (by decide) (by decide +kernel)
      have b6_18 : (fI D H18 11 mo 6).toInt = (fI D H12 11 mo 6).toInt := ko_m (Keep.o K18 o) I12.2.1.2.1 (by decide) (by decide +kernel)
      have rp18 : RP6 D H18 x := rp12.keep I12.1 I12.2.1.1 (Keep.o K18 o) (by decide +kernel)
      have ci18 := ci12.keep I12.1 I12.2.1.1 K18 (by decide +kernel)
      obtain ⟨r18, rfl, q18⟩ := q18
      have mi18 := q18.2 V K mi12
      refine lv_istore (lv' := [(6, .int r18), (5, .int r12), (0, .ref b), (1, .ref x), (2, .ref mo), (3, .ref o), (4, .int i)]) hx hb dL_law__1409 hl (by decide) rfl (fun ls hl => ?_)
      refine lv_goto (tgt := 1653) hx hb dL_law__1411 (by decide) ?_
      exact W.widen (by show 450 + 5 * k + 1 ≤ 450 + 5 * k + 5; omega) (by show 30000 + 455 * k + 6 ≤ 30000 + 455 * k + 455; omega) (Fin _ _ _ _ I18 (⟨by unfold tln at *; omega, bq18, rq18, ⟨⟨V, K, ci18, mi18, pv0, fun h9 => pk0 (by omega)⟩, ⟨by omega, by omega⟩, rp18⟩⟩) (lv_sub hl [2, 3, 4, 5, 6] rfl))

set_option maxRecDepth 100000 in
set_option maxHeartbeats 4000000 in
theorem lc_38 {p : Program} {l : Launch} {e : Env} {s : State} {m : MethodId} {below : List Frame} {meth : Method} {c : Code} {b L : Nat} {xs : Nat → Int32} {D : DD} {G : Nat → Nat} {H : Heap} {locs : List Loc} {ls : Array Slot} {i : Int32} {k x mo o : Nat} {Q : State → Prop} (hl0 : l.stackTraces = false) (C : Cx D G p s m #[.ref b] meth c RL code 7) (hX : va_X b L xs s s.heap) (hbl : b < s.heap.size) (I : Iv D G s.heap H locs x mo o) (tp : tln D H x = (fI D H 11 mo 9).toInt ∧ BQ D H x mo ∧ RQ D H x ∧ VQ D H x mo) (hi : 0 ≤ i.toInt ∧ i.toInt + 6 ≤ L) (hL : L ≤ 3072) (hk : k ≤ 511) (hl : lv_has ls 7 [(0, .ref b), (1, .ref x), (2, .ref mo), (3, .ref o), (4, .int i)])
    (Fin : ∀ G' H' locs' ls', Iv D G' s.heap H' locs' x mo o → tln D H' x = (fI D H' 11 mo 9).toInt ∧ BQ D H' x mo ∧ RQ D H' x ∧ VQ D H' x mo → lv_has ls' 7 [(0, .ref b), (1, .ref x), (2, .ref mo), (3, .ref o), (4, .int i)] → W p l e room_1 s m #[.ref b] below meth c H' locs' (450 + 5 * k + 5) (30000 + 455 * k + 455) Q (F0 m 1653 ls' [])) : W p l e room_1 s m #[.ref b] below meth c H locs (450 + 5 * k) (30000 + 455 * k) Q (F0 m 1414 ls []) := by
  have hx := C.1
  have hb := C.2.1
  have hbA : ¬ s.heap.size ≤ b := by omega
  have tp0 := tp
  obtain ⟨tp, bq0, rq0, vq0⟩ := tp
  obtain ⟨⟨V, K, ci0, mi0, pv0, pk0⟩, ⟨wf0, if0⟩, rp0⟩ := vq0
  refine lv_aload_n hx hb dL_law__1414 rfl (lv_at hl 1 rfl) ?_
  refine lv_aload_n hx hb dL_law__1415 rfl (lv_at hl 0 rfl) ?_
  refine lv_iload hx hb dL_law__1416 (lv_at hl 4 rfl) ?_
  refine lv_iconst (v := 1) hx hb dL_law__1418 (by decide) ?_
  refine lv_iadd hx hb dL_law__1419 ?_
  refine lv_topi (fun v1 ev1 => ?_)
  have kv1 : (1 : Int32).toInt = 1 := by decide
  have fv1 : v1.toInt = i.toInt + 1 := by rw [ev1]; exact i_addc kv1 (by omega) (by omega)
  refine va_sld (A := fun q => s.heap.size ≤ q) hx hb hX hbl hbA I.S (i_vin (by omega) (by omega)) dL_law__1420 ?_
  refine lv_topi (fun v2 ev2 => ?_)
  refine lv_aload_n hx hb dL_law__1421 rfl (lv_at hl 0 rfl) ?_
  refine lv_iload hx hb dL_law__1422 (lv_at hl 4 rfl) ?_
  refine lv_iconst (v := 2) hx hb dL_law__1424 (by decide) ?_
  refine lv_iadd hx hb dL_law__1425 ?_
  refine lv_topi (fun v3 ev3 => ?_)
  have kv3 : (2 : Int32).toInt = 2 := by decide
  have fv3 : v3.toInt = i.toInt + 2 := by rw [ev3]; exact i_addc kv3 (by omega) (by omega)
  refine va_sld (A := fun q => s.heap.size ≤ q) hx hb hX hbl hbA I.S (i_vin (by omega) (by omega)) dL_law__1426 ?_
  refine lv_topi (fun v4 ev4 => ?_)
  refine lv_if_eq (tgt := 1434) hx hb dL_law__1427 (by decide) (fun c9 => ?_) (fun c9 => ?_)
  · skip
    refine lv_iconst (v := 0) hx hb dL_law__1434 (by decide) ?_
    refine lv_aload_n hx hb dL_law__1435 rfl (lv_at hl 3 rfl) ?_
    have k0_5 : (0 : Int32).toInt = 0 := by decide
    refine l_W (As := [.ref x, .int v2, .int (0 : Int32), .ref o]) hl0 C I (c_L_span l D G x v2 (0 : Int32) o I.2.1.1 (by omega) I.2.1.2.2) kw_256 I.2.2.2.2.2.2.2.1 (by decide +kernel) (by decide +kernel) dL_law__1436 hl.1 cdL_span ⟨Nat.le_of_ble_eq_true rfl, Nat.le_of_ble_eq_true rfl, (by show 450 + 5 * k + 1 ≤ 601024; omega), (by show 30000 + 455 * k + 6 ≤ 7293034; omega), Nat.le_of_ble_eq_true rfl⟩ (fun r5 G5 H5 L5 I5 C m5 t5 K5 => ?_)
    have m5 := congrArg Int32.toInt m5
    obtain ⟨t5, rw5⟩ := t5
    have a9_5 : (fI D H5 10 x 9).toInt = (fI D H 10 x 9).toInt := ko_x K5 I.2.1.1 (by decide) (by decide +kernel)
    have a8_5 : (fI D H5 10 x 8).toInt = (fI D H 10 x 8).toInt := ko_x K5 I.2.1.1 (by decide) (by decide +kernel)
    have b4_5 : (fI D H5 11 mo 14).toInt = (fI D H 11 mo 14).toInt := ko_m K5 I.2.1.2.1 (by decide) (by decide +kernel)
    have b6_5 : (fI D H5 11 mo 6).toInt = (fI D H 11 mo 6).toInt := ko_m K5 I.2.1.2.1 (by decide) (by decide +kernel)
    have rp5 : RP6 D H5 x := rp0.keep I.1 I.2.1.1 K5 (by decide +kernel)
    have mi5 := mi0.keepO I.1 I.2.1.2.1 I.2.1.2.2 I.2.2.1.lt K5
    have ci5 := rw5 V K ci0
    have bq5 : BQ D H5 x mo := bq0.keep I.1 I.2.1.1 I.2.1.2.1 K5 (by decide +kernel) (by decide +kernel)
    have rq5 : RQ D H5 x := rq0.keep I.1 I.2.1.1 K5 (by decide +kernel)
    have t5 : tln D H5 x = tln D H x := t5
    refine lv_istore (lv' := [(5, .int r5), (0, .ref b), (1, .ref x), (2, .ref mo), (3, .ref o), (4, .int i)]) hx hb dL_law__1439 hl (by decide) rfl (fun ls hl => ?_)
    refine lv_aload_n hx hb dL_law__1441 rfl (lv_at hl 3 rfl) ?_
    refine lv_aload_n hx hb dL_law__1442 rfl (lv_at hl 1 rfl) ?_
    refine lv_iload hx hb dL_law__1443 (lv_at hl 5 rfl) ?_
    refine lv_iconst (v := 1) hx hb dL_law__1445 (by decide) ?_
    refine lv_iadd hx hb dL_law__1446 ?_
    refine lv_topi (fun v6 ev6 => ?_)
    have kv6 : (1 : Int32).toInt = 1 := by decide
    have fv6 : v6.toInt = i.toInt + 1 := by rw [ev6]; exact i_addc kv6 (by omega) (by omega)
    refine va_sld (A := fun q => s.heap.size ≤ q) hx hb hX hbl hbA I5.S (i_vin (by omega) (by omega)) dL_law__1447 ?_
    refine lv_topi (fun v7 ev7 => ?_)
    refine lv_aload_n hx hb dL_law__1448 rfl (lv_at hl 1 rfl) ?_
    refine lv_iload hx hb dL_law__1449 (lv_at hl 5 rfl) ?_
    refine lv_iconst (v := 2) hx hb dL_law__1451 (by decide) ?_
    refine lv_iadd hx hb dL_law__1452 ?_
    refine lv_topi (fun v8 ev8 => ?_)
    have kv8 : (2 : Int32).toInt = 2 := by decide
    have fv8 : v8.toInt = i.toInt + 2 := by rw [ev8]; exact i_addc kv8 (by omega) (by omega)
    refine va_sld (A := fun q => s.heap.size ≤ q) hx hb hX hbl hbA I5.S (i_vin (by omega) (by omega)) dL_law__1453 ?_
    refine lv_topi (fun v9 ev9 => ?_)
    refine lv_if_eq (tgt := 1461) hx hb dL_law__1454 (by decide) (fun c9 => ?_) (fun c9 => ?_)
    · skip
      refine lv_iconst (v := 0) hx hb dL_law__1461 (by decide) ?_
      have k0_10 : (0 : Int32).toInt = 0 := by decide
      refine l_E (T := TX12) (As := [.int v7, .int (0 : Int32)]) C I5 (c_X12_span l D G5 mo v7 (0 : Int32) I5.2.1.2.1 (by omega)) kV_L_258 I5.2.1.2.1 trivial (by decide +kernel) dL_law__1462 hl.1 rfl rfl (by decide) cd_X12_span ⟨Nat.le_of_ble_eq_true rfl, Nat.le_of_ble_eq_true rfl, (by show 450 + 5 * k + 1 ≤ 601024; omega), (by show 30000 + 455 * k + 6 ≤ 7293034; omega), Nat.le_of_ble_eq_true rfl⟩ (fun v10 H10 L10 I10 K10 q10 => ?_)
      have t10 : tln D H10 x = tln D H5 x := tlW I5.1 I5.2.1.1 K10 (by decide +kernel) (by decide +kernel)
      have m10 : (fI D H10 11 mo 9).toInt = (fI D H5 11 mo 9).toInt := congrArg Int32.toInt (K10.fI I5.2.1.2.1 rfl (by decide) (by decide +kernel))
      have bq10 : BQ D H10 x mo := bq5.keep I5.1 I5.2.1.1 I5.2.1.2.1 (Keep.o K10 o) (by decide +kernel) (by decide +kernel)
      have rq10 : RQ D H10 x := rq5.keep I5.1 I5.2.1.1 (Keep.o K10 o) (by decide +kernel)
      have a9_10 : (fI D H10 10 x 9).toInt = (fI D H5 10 x 9).toInt := ko_x (Keep.o K10 o) I5.2.1.1 (by decide) (by decide +kernel)
      have a8_10 : (fI D H10 10 x 8).toInt = (fI D H5 10 x 8).toInt := ko_x (Keep.o K10 o) I5.2.1.1 (by decide) (by decide +kernel)
      have b4_10 : (fI D H10 11 mo 14).toInt = (fI D H5 11 mo 14).toInt := ko_m (Keep.o K10 o) I5.2.1.2.1 (by decide) (by decide +kernel)
      have b6_10 : (fI D H10 11 mo 6).toInt = (fI D H5 11 mo 6).toInt := ko_m (Keep.o K10 o) I5.2.1.2.1 (by decide) (by decide +kernel)
      have rp10 : RP6 D H10 x := rp5.keep I5.1 I5.2.1.1 (Keep.o K10 o) (by decide +kernel)
      have ci10 := ci5.keep I5.1 I5.2.1.1 K10 (by decide +kernel)
      obtain ⟨r10, rfl, q10⟩ := q10
      have mi10 := q10.2 V K mi5
      refine lv_istore (lv' := [(6, .int r10), (5, .int r5), (0, .ref b), (1, .ref x), (2, .ref mo), (3, .ref o), (4, .int i)]) hx hb dL_law__1465 hl (by decide) rfl (fun ls hl => ?_)
      refine lv_goto (tgt := 1653) hx hb dL_law__1467 (by decide) ?_
      exact W.widen (by show 450 + 5 * k + 1 ≤ 450 + 5 * k + 5; omega) (by show 30000 + 455 * k + 6 ≤ 30000 + 455 * k + 455; omega) (Fin _ _ _ _ I10 (⟨by unfold tln at *; omega, bq10, rq10, ⟨⟨V, K, ci10, mi10, pv0, fun h9 => pk0 (by omega)⟩, ⟨by omega, by omega⟩, rp10⟩⟩) (lv_sub hl [2, 3, 4, 5, 6] rfl))
    · skip
      refine lv_iconst (v := 1) hx hb dL_law__1457 (by decide) ?_
      refine lv_goto (tgt := 1462) hx hb dL_law__1458 (by decide) ?_
      have k1_11 : (1 : Int32).toInt = 1 := by decide
      refine l_E (T := TX12) (As := [.int v7, .int (1 : Int32)]) C I5 (c_X12_span l D G5 mo v7 (1 : Int32) I5.2.1.2.1 (by omega)) kV_L_258 I5.2.1.2.1 trivial (by decide +kernel) dL_law__1462 hl.1 rfl rfl (by decide) cd_X12_span ⟨Nat.le_of_ble_eq_true rfl, Nat.le_of_ble_eq_true rfl, (by show 450 + 5 * k + 1 ≤ 601024; omega), (by show 30000 + 455 * k + 6 ≤ 7293034; omega), Nat.le_of_ble_eq_true rfl⟩ (fun v11 H11 L11 I11 K11 q11 => ?_)
      have t11 : tln D H11 x = tln D H5 x := tlW I5.1 I5.2.1.1 K11 (by decide +kernel) (by decide +kernel)
      have m11 : (fI D H11 11 mo 9).toInt = (fI D H5 11 mo 9).toInt := congrArg Int32.toInt (K11.fI I5.2.1.2.1 rfl (by decide) (by decide +kernel))
      have bq11 : BQ D H11 x mo := bq5.keep I5.1 I5.2.1.1 I5.2.1.2.1 (Keep.o K11 o) (by decide +kernel) (by decide +kernel)
      have rq11 : RQ D H11 x := rq5.keep I5.1 I5.2.1.1 (Keep.o K11 o) (by decide +kernel)
      have a9_11 : (fI D H11 10 x 9).toInt = (fI D H5 10 x 9).toInt := ko_x (Keep.o K11 o) I5.2.1.1 (by decide) (by decide +kernel)
      have a8_11 : (fI D H11 10 x 8).toInt = (fI D H5 10 x 8).toInt := ko_x (Keep.o K11 o) I5.2.1.1 (by decide) (by decide +kernel)
      have b4_11 : (fI D H11 11 mo 14).toInt = (fI D H5 11 mo 14).toInt := ko_m (Keep.o K11 o) I5.2.1.2.1 (by decide) (by decide +kernel)
      have b6_11 : (fI D H11 11 mo 6).toInt = (fI D H5 11 mo 6).toInt := ko_m (Keep.o K11 o) I5.2.1.2.1 (by decide) (by decide +kernel)
      have rp11 : RP6 D H11 x := rp5.keep I5.1 I5.2.1.1 (Keep.o K11 o) (by decide +kernel)
      have ci11 := ci5.keep I5.1 I5.2.1.1 K11 (by decide +kernel)
      obtain ⟨r11, rfl, q11⟩ := q11
      have mi11 := q11.2 V K mi5
      refine lv_istore (lv' := [(6, .int r11), (5, .int r5), (0, .ref b), (1, .ref x), (2, .ref mo), (3, .ref o), (4, .int i)]) hx hb dL_law__1465 hl (by decide) rfl (fun ls hl => ?_)
      refine lv_goto (tgt := 1653) hx hb dL_law__1467 (by decide) ?_
      exact W.widen (by show 450 + 5 * k + 1 ≤ 450 + 5 * k + 5; omega) (by show 30000 + 455 * k + 6 ≤ 30000 + 455 * k + 455; omega) (Fin _ _ _ _ I11 (⟨by unfold tln at *; omega, bq11, rq11, ⟨⟨V, K, ci11, mi11, pv0, fun h9 => pk0 (by omega)⟩, ⟨by omega, by omega⟩, rp11⟩⟩) (lv_sub hl [2, 3, 4, 5, 6] rfl))
  · skip
    refine lv_iconst (v := 1) hx hb dL_law__1430 (by decide) ?_
    refine lv_goto (tgt := 1435) hx hb dL_law__1431 (by decide) ?_
    refine lv_aload_n hx hb dL_law__1435 rfl (lv_at hl 3 rfl) ?_
    have k1_12 : (1 : Int32).toInt = 1 := by decide
    refine l_W (As := [.ref x, .int v2, .int (1 : Int32), .ref o]) hl0 C I (c_L_span l D G x v2 (1 : Int32) o I.2.1.1 (by omega) I.2.1.2.2) kw_256 I.2.2.2.2.2.2.2.1 (by decide +kernel) (by decide +kernel) dL_law__1436 hl.1 cdL_span ⟨Nat.le_of_ble_eq_true rfl, Nat.le_of_ble_eq_true rfl, (by show 450 + 5 * k + 1 ≤ 601024; omega), (by show 30000 + 455 * k + 6 ≤ 7293034; omega), Nat.le_of_ble_eq_true rfl⟩ (fun r12 G12 H12 L12 I12 C m12 t12 K12 => ?_)
    have m12 := congrArg Int32.toInt m12
    obtain ⟨t12, rw12⟩ := t12
    have a9_12 : (fI D H12 10 x 9).toInt = (fI D H 10 x 9).toInt := ko_x K12 I.2.1.1 (by decide) (by decide +kernel)
    have a8_12 : (fI D H12 10 x 8).toInt = (fI D H 10 x 8).toInt := ko_x K12 I.2.1.1 (by decide) (by decide +kernel)
    have b4_12 : (fI D H12 11 mo 14).toInt = (fI D H 11 mo 14).toInt := ko_m K12 I.2.1.2.1 (by decide) (by decide +kernel)
    have b6_12 : (fI D H12 11 mo 6).toInt = (fI D H 11 mo 6).toInt := ko_m K12 I.2.1.2.1 (by decide) (by decide +kernel)
    have rp12 : RP6 D H12 x := rp0.keep I.1 I.2.1.1 K12 (by decide +kernel)
    have mi12 := mi0.keepO I.1 I.2.1.2.1 I.2.1.2.2 I.2.2.1.lt K12
    have ci12 := rw12 V K ci0
    have bq12 : BQ D H12 x mo := bq0.keep I.1 I.2.1.1 I.2.1.2.1 K12 (by decide +kernel) (by decide +kernel)
    have rq12 : RQ D H12 x := rq0.keep I.1 I.2.1.1 K12 (by decide +kernel)
    have t12 : tln D H12 x = tln D H x := t12
    refine lv_istore (lv' := [(5, .int r12), (0, .ref b), (1, .ref x), (2, .ref mo), (3, .ref o), (4, .int i)]) hx hb dL_law__1439 hl (by decide) rfl (fun ls hl => ?_)
    refine lv_aload_n hx hb dL_law__1441 rfl (lv_at hl 3 rfl) ?_
    refine lv_aload_n hx hb dL_law__1442 rfl (lv_at hl 1 rfl) ?_
    refine lv_iload hx hb dL_law__1443 (lv_at hl 5 rfl) ?_
    refine lv_iconst (v := 1) hx hb dL_law__1445 (by decide) ?_
    refine lv_iadd hx hb dL_law__1446 ?_
    refine lv_topi (fun v13 ev13 => ?_)
    have kv13 : (1 : Int32).toInt = 1 := by decide
    have fv13 : v13.toInt = i.toInt + 1 := by rw [ev13]; exact i_addc kv13 (by omega) (by omega)
    refine va_sld (A := fun q => s.heap.size ≤ q) hx hb hX hbl hbA I12.S (i_vin (by omega) (by omega)) dL_law__1447 ?_
    refine lv_topi (fun v14 ev14 => ?_)
    refine lv_aload_n hx hb dL_law__1448 rfl (lv_at hl 1 rfl) ?_
    refine lv_iload hx hb dL_law__1449 (lv_at hl 5 rfl) ?_
    refine lv_iconst (v := 2) hx hb dL_law__1451 (by decide) ?_
    refine lv_iadd hx hb dL_law__1452 ?_
    refine lv_topi (fun v15 ev15 => ?_)
    have kv15 : (2 : Int32).toInt = 2 := by decide
    have fv15 : v15.toInt = i.toInt + 2 := by rw [ev15]; exact i_addc kv15 (by omega) (by omega)
    refine va_sld (A := fun q => s.heap.size ≤ q) hx hb hX hbl hbA I12.S (i_vin (by omega) (by omega)) dL_law__1453 ?_
    refine lv_topi (fun v16 ev16 => ?_)
    refine lv_if_eq (tgt := 1461) hx hb dL_law__1454 (by decide) (fun c9 => ?_) (fun c9 => ?_)
    · skip
      refine lv_iconst (v := 0) hx hb dL_law__1461 (by decide) ?_
      have k0_17 : (0 : Int32).toInt = 0 := by decide
      refine l_E (T := TX12) (As := [.int v14, .int (0 : Int32)]) C I12 (c_X12_span l D G12 mo v14 (0 : Int32) I12.2.1.2.1 (by omega)) kV_L_258 I12.2.1.2.1 trivial (by decide +kernel) dL_law__1462 hl.1 rfl rfl (by decide) cd_X12_span ⟨Nat.le_of_ble_eq_true rfl, Nat.le_of_ble_eq_true rfl, (by show 450 + 5 * k + 1 ≤ 601024; omega), (by show 30000 + 455 * k + 6 ≤ 7293034; omega), Nat.le_of_ble_eq_true rfl⟩ (fun v17 H17 L17 I17 K17 q17 => ?_)
      have t17 : tln D H17 x = tln D H12 x := tlW I12.1 I12.2.1.1 K17 (by decide +kernel) (by decide +kernel)
      have m17 : (fI D H17 11 mo 9).toInt = (fI D H12 11 mo 9).toInt := congrArg Int32.toInt (K17.fI I12.2.1.2.1 rfl (by decide) (by decide +kernel))
      have bq17 : BQ D H17 x mo := bq12.keep I12.1 I12.2.1.1 I12.2.1.2.1 (Keep.o K17 o) (by decide +kernel) (by decide +kernel)
      have rq17 : RQ D H17 x := rq12.keep I12.1 I12.2.1.1 (Keep.o K17 o) (by decide +kernel)
      have a9_17 : (fI D H17 10 x 9).toInt = (fI D H12 10 x 9).toInt := ko_x (Keep.o K17 o) I12.2.1.1 (by decide) (by decide +kernel)
      have a8_17 : (fI D H17 10 x 8).toInt = (fI D H12 10 x 8).toInt := ko_x (Keep.o K17 o) I12.2.1.1 (by decide) (by decide +kernel)
      have b4_17 : (fI D H17 11 mo 14).toInt = (fI D H12 11 mo 14).toInt := ko_m (Keep.o K17 o) I12.2.1.2.1 (by decide) (by decide +kernel)
      have b6_17 : (fI D H17 11 mo 6).toInt = (fI D H12 11 mo 6).toInt := ko_m (Keep.o K17 o) I12.2.1.2.1 (by decide) (by decide +kernel)
      have rp17 : RP6 D H17 x := rp12.keep I12.1 I12.2.1.1 (Keep.o K17 o) (by decide +kernel)
      have ci17 := ci12.keep I12.1 I12.2.1.1 K17 (by decide +kernel)
      obtain ⟨r17, rfl, q17⟩ := q17
      have mi17 := q17.2 V K mi12
      refine lv_istore (lv' := [(6, .int r17), (5, .int r12), (0, .ref b), (1, .ref x), (2, .ref mo), (3, .ref o), (4, .int i)]) hx hb dL_law__1465 hl (by decide) rfl (fun ls hl => ?_)
      refine lv_goto (tgt := 1653) hx hb dL_law__1467 (by decide) ?_
      exact W.widen (by show 450 + 5 * k + 1 ≤ 450 + 5 * k + 5; omega) (by show 30000 + 455 * k + 6 ≤ 30000 + 455 * k + 455; omega) (Fin _ _ _ _ I17 (⟨by unfold tln at *; omega, bq17, rq17, ⟨⟨V, K, ci17, mi17, pv0, fun h9 => pk0 (by omega)⟩, ⟨by omega, by omega⟩, rp17⟩⟩) (lv_sub hl [2, 3, 4, 5, 6] rfl))
    · skip
      refine lv_iconst (v := 1) hx hb dL_law__1457 (by decide) ?_
      refine lv_goto (tgt := 1462) hx hb dL_law__1458 (by decide) ?_
      have k1_18 : (1 : Int32).toInt = 1 := by decide
      refine l_E (T := TX12) (As := [.int v14, .int (1 : Int32)]) C I12 (c_X12_span l D G12 mo v14 (1 : Int32) I12.2.1.2.1 (by omega)) kV_L_258 I12.2.1.2.1 trivial (by decide +kernel) dL_law__1462 hl.1 rfl rfl (by decide) cd_X12_span ⟨Nat.le_of_ble_eq_true rfl, Nat.le_of_ble_eq_true rfl, (by show 450 + 5 * k + 1 ≤ 601024; omega), (by show 30000 + 455 * k + 6 ≤ 7293034; omega), Nat.le_of_ble_eq_true rfl⟩ (fun v18 H18 L18 I18 K18 q18 => ?_)
      have t18 : tln D H18 x = tln D H12 x := tlW I12.1 I12.2.1.1 K18 (by decide +kernel) (by decide +kernel)
      have m18 : (fI D H18 11 mo 9).toInt = (fI D H12 11 mo 9).toInt := congrArg Int32.toInt (K18.fI I12.2.1.2.1 rfl (by decide) (by decide +kernel))
      have bq18 : BQ D H18 x mo := bq12.keep I12.1 I12.2.1.1 I12.2.1.2.1 (Keep.o K18 o) (by decide +kernel) (by decide +kernel)
      have rq18 : RQ D H18 x := rq12.keep I12.1 I12.2.1.1 (Keep.o K18 o) (by decide +kernel)
      have a9_18 : (fI D H18 10 x 9).toInt = (fI D H12 10 x 9).toInt := ko_x (Keep.o K18 o) I12.2.1.1 (by decide) (by decide +kernel)
      have a8_18 : (fI D H18 10 x 8).toInt = (fI D H12 10 x 8).toInt := ko_x (Keep.o K18 o) I12.2.1.1 (by decide) (by decide +kernel)
      have b4_18 : (fI D H18 11 mo 14).toInt = (fI D H12 11 mo 14).toInt := ko_m (Keep.o K18 o) I12.2.1.2.1 (by decide) (by decide +kernel)
      have b6_18 : (fI D H18 11 mo 6).toInt = (fI D H12 11 mo 6).toInt := ko_m (Keep.o K18 o) I12.2.1.2.1 (by decide) (by decide +kernel)
      have rp18 : RP6 D H18 x := rp12.keep I12.1 I12.2.1.1 (Keep.o K18 o) (by decide +kernel)
      have ci18 := ci12.keep I12.1 I12.2.1.1 K18 (by decide +kernel)
      obtain ⟨r18, rfl, q18⟩ := q18
      have mi18 := q18.2 V K mi12
      refine lv_istore (lv' := [(6, .int r18), (5, .int r12), (0, .ref b), (1, .ref x), (2, .ref mo), (3, .ref o), (4, .int i)]) hx hb dL_law__1465 hl (by decide) rfl (fun ls hl => ?_)
      refine lv_goto (tgt := 1653) hx hb dL_law__1467 (by decide) ?_
      exact W.widen (by show 450 + 5 * k + 1 ≤ 450 + 5 * k + 5; omega) (by show 30000 + 455 * k + 6 ≤ 30000 + 455 * k + 455; omega) (Fin _ _ _ _ I18 (⟨by unfold tln at *; omega, bq18, rq18, ⟨⟨V, K, ci18, mi18, pv0, fun h9 => pk0 (by omega)⟩, ⟨by omega, by omega⟩, rp18⟩⟩) (lv_sub hl [2, 3, 4, 5, 6] rfl))

set_option maxRecDepth 100000 in
set_option maxHeartbeats 4000000 in
theorem lc_39 {p : Program} {l : Launch} {e : Env} {s : State} {m : MethodId} {below : List Frame} {meth : Method} {c : Code} {b L : Nat} {xs : Nat → Int32} {D : DD} {G : Nat → Nat} {H : Heap} {locs : List Loc} {ls : Array Slot} {i : Int32} {k x mo o : Nat} {Q : State → Prop} (hl0 : l.stackTraces = false) (C : Cx D G p s m #[.ref b] meth c RL code 7) (hX : va_X b L xs s s.heap) (hbl : b < s.heap.size) (I : Iv D G s.heap H locs x mo o) (tp : tln D H x = (fI D H 11 mo 9).toInt ∧ BQ D H x mo ∧ RQ D H x ∧ VQ D H x mo) (hi : 0 ≤ i.toInt ∧ i.toInt + 6 ≤ L) (hL : L ≤ 3072) (hk : k ≤ 511) (hl : lv_has ls 7 [(0, .ref b), (1, .ref x), (2, .ref mo), (3, .ref o), (4, .int i)])
    (Fin : ∀ G' H' locs' ls', Iv D G' s.heap H' locs' x mo o → tln D H' x = (fI D H' 11 mo 9).toInt ∧ BQ D H' x mo ∧ RQ D H' x ∧ VQ D H' x mo → lv_has ls' 7 [(0, .ref b), (1, .ref x), (2, .ref mo), (3, .ref o), (4, .int i)] → W p l e room_1 s m #[.ref b] below meth c H' locs' (450 + 5 * k + 5) (30000 + 455 * k + 455) Q (F0 m 1653 ls' [])) : W p l e room_1 s m #[.ref b] below meth c H locs (450 + 5 * k) (30000 + 455 * k) Q (F0 m 1470 ls []) := by
  have hx := C.1
  have hb := C.2.1
  have hbA : ¬ s.heap.size ≤ b := by omega
  have tp0 := tp
  obtain ⟨tp, bq0, rq0, vq0⟩ := tp
  obtain ⟨⟨V, K, ci0, mi0, pv0, pk0⟩, ⟨wf0, if0⟩, rp0⟩ := vq0
  refine lv_aload_n hx hb dL_law__1470 rfl (lv_at hl 1 rfl) ?_
  refine lv_aload_n hx hb dL_law__1471 rfl (lv_at hl 0 rfl) ?_
  refine lv_iload hx hb dL_law__1472 (lv_at hl 4 rfl) ?_
  refine lv_iconst (v := 1) hx hb dL_law__1474 (by decide) ?_
  refine lv_iadd hx hb dL_law__1475 ?_
  refine lv_topi (fun v1 ev1 => ?_)
  have kv1 : (1 : Int32).toInt = 1 := by decide
  have fv1 : v1.toInt = i.toInt + 1 := by rw [ev1]; exact i_addc kv1 (by omega) (by omega)
  refine va_sld (A := fun q => s.heap.size ≤ q) hx hb hX hbl hbA I.S (i_vin (by omega) (by omega)) dL_law__1476 ?_
  refine lv_topi (fun v2 ev2 => ?_)
  refine lv_aload_n hx hb dL_law__1477 rfl (lv_at hl 0 rfl) ?_
  refine lv_iload hx hb dL_law__1478 (lv_at hl 4 rfl) ?_
  refine lv_iconst (v := 2) hx hb dL_law__1480 (by decide) ?_
  refine lv_iadd hx hb dL_law__1481 ?_
  refine lv_topi (fun v3 ev3 => ?_)
  have kv3 : (2 : Int32).toInt = 2 := by decide
  have fv3 : v3.toInt = i.toInt + 2 := by rw [ev3]; exact i_addc kv3 (by omega) (by omega)
  refine va_sld (A := fun q => s.heap.size ≤ q) hx hb hX hbl hbA I.S (i_vin (by omega) (by omega)) dL_law__1482 ?_
  refine lv_topi (fun v4 ev4 => ?_)
  refine lv_if_eq (tgt := 1490) hx hb dL_law__1483 (by decide) (fun c9 => ?_) (fun c9 => ?_)
  · skip
    refine lv_iconst (v := 0) hx hb dL_law__1490 (by decide) ?_
    refine lv_aload_n hx hb dL_law__1491 rfl (lv_at hl 3 rfl) ?_
    have k0_5 : (0 : Int32).toInt = 0 := by decide
    refine l_W (As := [.ref x, .int v2, .int (0 : Int32), .ref o]) hl0 C I (c_L_led l D G x v2 (0 : Int32) o I.2.1.1 (by omega) I.2.1.2.2) kw_259 trivial (by decide +kernel) (by decide +kernel) dL_law__1492 hl.1 cdL_led ⟨Nat.le_of_ble_eq_true rfl, Nat.le_of_ble_eq_true rfl, (by show 450 + 5 * k + 1 ≤ 601024; omega), (by show 30000 + 455 * k + 6 ≤ 7293034; omega), Nat.le_of_ble_eq_true rfl⟩ (fun r5 G5 H5 L5 I5 C m5 t5 K5 => ?_)
    have m5 := congrArg Int32.toInt m5
    have a9_5 : (fI D H5 10 x 9).toInt = (fI D H 10 x 9).toInt := ko_x K5 I.2.1.1 (by decide) (by decide +kernel)
    have a8_5 : (fI D H5 10 x 8).toInt = (fI D H 10 x 8).toInt := ko_x K5 I.2.1.1 (by decide) (by decide +kernel)
    have b4_5 : (fI D H5 11 mo 14).toInt = (fI D H 11 mo 14).toInt := ko_m K5 I.2.1.2.1 (by decide) (by decide +kernel)
    have b6_5 : (fI D H5 11 mo 6).toInt = (fI D H 11 mo 6).toInt := ko_m K5 I.2.1.2.1 (by decide) (by decide +kernel)
    have rp5 : RP6 D H5 x := rp0.keep I.1 I.2.1.1 K5 (by decide +kernel)
    have ci5 := ci0.keepO I.1 I.2.1.1 I.2.1.2.2 I.2.2.1.lt K5
    have mi5 := mi0.keepO I.1 I.2.1.2.1 I.2.1.2.2 I.2.2.1.lt K5
    have bq5 : BQ D H5 x mo := bq0.keep I.1 I.2.1.1 I.2.1.2.1 K5 (by decide +kernel) (by decide +kernel)
    have rq5 : RQ D H5 x := rq0.keep I.1 I.2.1.1 K5 (by decide +kernel)
    have t5 : tln D H5 x = tln D H x := t5
    refine lv_istore (lv' := [(5, .int r5), (0, .ref b), (1, .ref x), (2, .ref mo), (3, .ref o), (4, .int i)]) hx hb dL_law__1495 hl (by decide) rfl (fun ls hl => ?_)
    refine lv_aload_n hx hb dL_law__1497 rfl (lv_at hl 3 rfl) ?_
    refine lv_aload_n hx hb dL_law__1498 rfl (lv_at hl 1 rfl) ?_
    refine lv_iload hx hb dL_law__1499 (lv_at hl 5 rfl) ?_
    refine lv_iconst (v := 1) hx hb dL_law__1501 (by decide) ?_
    refine lv_iadd hx hb dL_law__1502 ?_
    refine lv_topi (fun v6 ev6 => ?_)
    have kv6 : (1 : Int32).toInt = 1 := by decide
    have fv6 : v6.toInt = i.toInt + 1 := by rw [ev6]; exact i_addc kv6 (by omega) (by omega)
    refine va_sld (A := fun q => s.heap.size ≤ q) hx hb hX hbl hbA I5.S (i_vin (by omega) (by omega)) dL_law__1503 ?_
    refine lv_topi (fun v7 ev7 => ?_)
    refine lv_aload_n hx hb dL_law__1504 rfl (lv_at hl 1 rfl) ?_
    refine lv_iload hx hb dL_law__1505 (lv_at hl 5 rfl) ?_
    refine lv_iconst (v := 2) hx hb dL_law__1507 (by decide) ?_
    refine lv_iadd hx hb dL_law__1508 ?_
    refine lv_topi (fun v8 ev8 => ?_)
    have kv8 : (2 : Int32).toInt = 2 := by decide
    have fv8 : v8.toInt = i.toInt + 2 := by rw [ev8]; exact i_addc kv8 (by omega) (by omega)
    refine va_sld (A := fun q => s.heap.size ≤ q) hx hb hX hbl hbA I5.S (i_vin (by omega) (by omega)) dL_law__1509 ?_
    refine lv_topi (fun v9 ev9 => ?_)
    refine lv_if_eq (tgt := 1517) hx hb dL_law__1510 (by decide) (fun c9 => ?_) (fun c9 => ?_)
    · skip
      refine lv_iconst (v := 0) hx hb dL_law__1517 (by decide) ?_
      have k0_10 : (0 : Int32).toInt = 0 := by decide
      refine l_E (T := TX12) (As := [.int v7, .int (0 : Int32)]) C I5 (c_X12_led l D G5 mo v7 (0 : Int32) I5.2.1.2.1 (by omega)) kV_L_261 I5.2.1.2.1 trivial (by decide +kernel) dL_law__1518 hl.1 rfl rfl (by decide) cd_X12_led ⟨Nat.le_of_ble_eq_true rfl, Nat.le_of_ble_eq_true rfl, (by show 450 + 5 * k + 1 ≤ 601024; omega), (by show 30000 + 455 * k + 6 ≤ 7293034; omega), Nat.le_of_ble_eq_true rfl⟩ (fun v10 H10 L10 I10 K10 q10 => ?_)
      have t10 : tln D H10 x = tln D H5 x := tlW I5.1 I5.2.1.1 K10 (by decide +kernel) (by decide +kernel)
      have m10 : (fI D H10 11 mo 9).toInt = (fI D H5 11 mo 9).toInt := congrArg Int32.toInt (K10.fI I5.2.1.2.1 rfl (by decide) (by decide +kernel))
      have bq10 : BQ D H10 x mo := bq5.keep I5.1 I5.2.1.1 I5.2.1.2.1 (Keep.o K10 o) (by decide +kernel) (by decide +kernel)
      have rq10 : RQ D H10 x := rq5.keep I5.1 I5.2.1.1 (Keep.o K10 o) (by decide +kernel)
      have a9_10 : (fI D H10 10 x 9).toInt = (fI D H5 10 x 9).toInt := ko_x (Keep.o K10 o) I5.2.1.1 (by decide) (by decide +kernel)
      have a8_10 : (fI D H10 10 x 8).toInt = (fI D H5 10 x 8).toInt := ko_x (Keep.o K10 o) I5.2.1.1 (by decide) (by decide +kernel)
      have b4_10 : (fI D H10 11 mo 14).toInt = (fI D H5 11 mo 14).toInt := ko_m (Keep.o K10 o) I5.2.1.2.1 (by decide) (by decide +kernel)
      have b6_10 : (fI D H10 11 mo 6).toInt = (fI D H5 11 mo 6).toInt := ko_m (Keep.o K10 o) I5.2.1.2.1 (by decide) (by decide +kernel)
      have rp10 : RP6 D H10 x := rp5.keep I5.1 I5.2.1.1 (Keep.o K10 o) (by decide +kernel)
      have ci10 := ci5.keep I5.1 I5.2.1.1 K10 (by decide +kernel)
      have mi10 := mi5.keep I5.1 I5.2.1.2.1 K10 (by decide +kernel)
      obtain ⟨r10, rfl, q10⟩ := q10
      refine lv_istore (lv' := [(6, .int r10), (5, .int r5), (0, .ref b), (1, .ref x), (2, .ref mo), (3, .ref o), (4, .int i)]) hx hb dL_law__1521 hl (by decide) rfl (fun ls hl => ?_)
      refine lv_goto (tgt := 1653) hx hb dL_law__1523 (by decide) ?_
      exact W.widen (by show 450 + 5 * k + 1 ≤ 450 + 5 * k + 5; omega) (by show 30000 + 455 * k + 6 ≤ 30000 + 455 * k + 455; omega) (Fin _ _ _ _ I10 (⟨by unfold tln at *; omega, bq10, rq10, ⟨⟨V, K, ci10, mi10, pv0, fun h9 => pk0 (by omega)⟩, ⟨by omega, by omega⟩, rp10⟩⟩) (lv_sub hl [2, 3, 4, 5, 6] rfl))
    · skip
      refine lv_iconst (v := 1) hx hb dL_law__1513 (by decide) ?_
      refine lv_goto (tgt := 1518) hx hb dL_law__1514 (by decide) ?_
      have k1_11 : (1 : Int32).toInt = 1 := by decide
      refine l_E (T := TX12) (As := [.int v7, .int (1 : Int32)]) C I5 (c_X12_led l D G5 mo v7 (1 : Int32) I5.2.1.2.1 (by omega)) kV_L_261 I5.2.1.2.1 trivial (by decide +kernel) dL_law__1518 hl.1 rfl rfl (by decide) cd_X12_led ⟨Nat.le_of_ble_eq_true rfl, Nat.le_of_ble_eq_true rfl, (by show 450 + 5 * k + 1 ≤ 601024; omega), (by show 30000 + 455 * k + 6 ≤ 7293034; omega), Nat.le_of_ble_eq_true rfl⟩ (fun v11 H11 L11 I11 K11 q11 => ?_)
      have t11 : tln D H11 x = tln D H5 x := tlW I5.1 I5.2.1.1 K11 (by decide +kernel) (by decide +kernel)
      have m11 : (fI D H11 11 mo 9).toInt = (fI D H5 11 mo 9).toInt := congrArg Int32.toInt (K11.fI I5.2.1.2.1 rfl (by decide) (by decide +kernel))
      have bq11 : BQ D H11 x mo := bq5.keep I5.1 I5.2.1.1 I5.2.1.2.1 (Keep.o K11 o) (by decide +kernel) (by decide +kernel)
      have rq11 : RQ D H11 x := rq5.keep I5.1 I5.2.1.1 (Keep.o K11 o) (by decide +kernel)
      have a9_11 : (fI D H11 10 x 9).toInt = (fI D H5 10 x 9).toInt := ko_x (Keep.o K11 o) I5.2.1.1 (by decide) (by decide +kernel)
      have a8_11 : (fI D H11 10 x 8).toInt = (fI D H5 10 x 8).toInt := ko_x (Keep.o K11 o) I5.2.1.1 (by decide) (by decide +kernel)
      have b4_11 : (fI D H11 11 mo 14).toInt = (fI D H5 11 mo 14).toInt := ko_m (Keep.o K11 o) I5.2.1.2.1 (by decide) (by decide +kernel)
      have b6_11 : (fI D H11 11 mo 6).toInt = (fI D H5 11 mo 6).toInt := ko_m (Keep.o K11 o) I5.2.1.2.1 (by decide) (by decide +kernel)
      have rp11 : RP6 D H11 x := rp5.keep I5.1 I5.2.1.1 (Keep.o K11 o) (by decide +kernel)
      have ci11 := ci5.keep I5.1 I5.2.1.1 K11 (by decide +kernel)
      have mi11 := mi5.keep I5.1 I5.2.1.2.1 K11 (by decide +kernel)
      obtain ⟨r11, rfl, q11⟩ := q11
      refine lv_istore (lv' := [(6, .int r11), (5, .int r5), (0, .ref b), (1, .ref x), (2, .ref mo), (3, .ref o), (4, .int i)]) hx hb dL_law__1521 hl (by decide) rfl (fun ls hl => ?_)
      refine lv_goto (tgt := 1653) hx hb dL_law__1523 (by decide) ?_
      exact W.widen (by show 450 + 5 * k + 1 ≤ 450 + 5 * k + 5; omega) (by show 30000 + 455 * k + 6 ≤ 30000 + 455 * k + 455; omega) (Fin _ _ _ _ I11 (⟨by unfold tln at *; omega, bq11, rq11, ⟨⟨V, K, ci11, mi11, pv0, fun h9 => pk0 (by omega)⟩, ⟨by omega, by omega⟩, rp11⟩⟩) (lv_sub hl [2, 3, 4, 5, 6] rfl))
  · skip
    refine lv_iconst (v := 1) hx hb dL_law__1486 (by decide) ?_
    refine lv_goto (tgt := 1491) hx hb dL_law__1487 (by decide) ?_
    refine lv_aload_n hx hb dL_law__1491 rfl (lv_at hl 3 rfl) ?_
    have k1_12 : (1 : Int32).toInt = 1 := by decide
    refine l_W (As := [.ref x, .int v2, .int (1 : Int32), .ref o]) hl0 C I (c_L_led l D G x v2 (1 : Int32) o I.2.1.1 (by omega) I.2.1.2.2) kw_259 trivial (by decide +kernel) (by decide +kernel) dL_law__1492 hl.1 cdL_led ⟨Nat.le_of_ble_eq_true rfl, Nat.le_of_ble_eq_true rfl, (by show 450 + 5 * k + 1 ≤ 601024; omega), (by show 30000 + 455 * k + 6 ≤ 7293034; omega), Nat.le_of_ble_eq_true rfl⟩ (fun r12 G12 H12 L12 I12 C m12 t12 K12 => ?_)
    have m12 := congrArg Int32.toInt m12
    have a9_12 : (fI D H12 10 x 9).toInt = (fI D H 10 x 9).toInt := ko_x K12 I.2.1.1 (by decide) (by decide +kernel)
    have a8_12 : (fI D H12 10 x 8).toInt = (fI D H 10 x 8).toInt := ko_x K12 I.2.1.1 (by decide) (by decide +kernel)
    have b4_12 : (fI D H12 11 mo 14).toInt = (fI D H 11 mo 14).toInt := ko_m K12 I.2.1.2.1 (by decide) (by decide +kernel)
    have b6_12 : (fI D H12 11 mo 6).toInt = (fI D H 11 mo 6).toInt := ko_m K12 I.2.1.2.1 (by decide) (by decide +kernel)
    have rp12 : RP6 D H12 x := rp0.keep I.1 I.2.1.1 K12 (by decide +kernel)
    have ci12 := ci0.keepO I.1 I.2.1.1 I.2.1.2.2 I.2.2.1.lt K12
    have mi12 := mi0.keepO I.1 I.2.1.2.1 I.2.1.2.2 I.2.2.1.lt K12
    have bq12 : BQ D H12 x mo := bq0.keep I.1 I.2.1.1 I.2.1.2.1 K12 (by decide +kernel) (by decide +kernel)
    have rq12 : RQ D H12 x := rq0.keep I.1 I.2.1.1 K12 (by decide +kernel)
    have t12 : tln D H12 x = tln D H x := t12
    refine lv_istore (lv' := [(5, .int r12), (0, .ref b), (1, .ref x), (2, .ref mo), (3, .ref o), (4, .int i)]) hx hb dL_law__1495 hl (by decide) rfl (fun ls hl => ?_)
    refine lv_aload_n hx hb dL_law__1497 rfl (lv_at hl 3 rfl) ?_
    refine lv_aload_n hx hb dL_law__1498 rfl (lv_at hl 1 rfl) ?_
    refine lv_iload hx hb dL_law__1499 (lv_at hl 5 rfl) ?_
    refine lv_iconst (v := 1) hx hb dL_law__1501 (by decide) ?_
    refine lv_iadd hx hb dL_law__1502 ?_
    refine lv_topi (fun v13 ev13 => ?_)
    have kv13 : (1 : Int32).toInt = 1 := by decide
    have fv13 : v13.toInt = i.toInt + 1 := by rw [ev13]; exact i_addc kv13 (by omega) (by omega)
    refine va_sld (A := fun q => s.heap.size ≤ q) hx hb hX hbl hbA I12.S (i_vin (by omega) (by omega)) dL_law__1503 ?_
    refine lv_topi (fun v14 ev14 => ?_)
    refine lv_aload_n hx hb dL_law__1504 rfl (lv_at hl 1 rfl) ?_
    refine lv_iload hx hb dL_law__1505 (lv_at hl 5 rfl) ?_
    refine lv_iconst (v := 2) hx hb dL_law__1507 (by decide) ?_
    refine lv_iadd hx hb dL_law__1508 ?_
    refine lv_topi (fun v15 ev15 => ?_)
    have kv15 : (2 : Int32).toInt = 2 := by decide
    have fv15 : v15.toInt = i.toInt + 2 := by rw [ev15]; exact i_addc kv15 (by omega) (by omega)
    refine va_sld (A := fun q => s.heap.size ≤ q) hx hb hX hbl hbA I12.S (i_vin (by omega) (by omega)) dL_law__1509 ?_
    refine lv_topi (fun v16 ev16 => ?_)
    refine lv_if_eq (tgt := 1517) hx hb dL_law__1510 (by decide) (fun c9 => ?_) (fun c9 => ?_)
    · skip
      refine lv_iconst (v := 0) hx hb dL_law__1517 (by decide) ?_
      have k0_17 : (0 : Int32).toInt = 0 := by decide
      refine l_E (T := TX12) (As := [.int v14, .int (0 : Int32)]) C I12 (c_X12_led l D G12 mo v14 (0 : Int32) I12.2.1.2.1 (by omega)) kV_L_261 I12.2.1.2.1 trivial (by decide +kernel) dL_law__1518 hl.1 rfl rfl (by decide) cd_X12_led ⟨Nat.le_of_ble_eq_true rfl, Nat.le_of_ble_eq_true rfl, (by show 450 + 5 * k + 1 ≤ 601024; omega), (by show 30000 + 455 * k + 6 ≤ 7293034; omega), Nat.le_of_ble_eq_true rfl⟩ (fun v17 H17 L17 I17 K17 q17 => ?_)
      have t17 : tln D H17 x = tln D H12 x := tlW I12.1 I12.2.1.1 K17 (by decide +kernel) (by decide +kernel)
      have m17 : (fI D H17 11 mo 9).toInt = (fI D H12 11 mo 9).toInt := congrArg Int32.toInt (K17.fI I12.2.1.2.1 rfl (by decide) (by decide +kernel))
      have bq17 : BQ D H17 x mo := bq12.keep I12.1 I12.2.1.1 I12.2.1.2.1 (Keep.o K17 o) (by decide +kernel) (by decide +kernel)
      have rq17 : RQ D H17 x := rq12.keep I12.1 I12.2.1.1 (Keep.o K17 o) (by decide +kernel)
      have a9_17 : (fI D H17 10 x 9).toInt = (fI D H12 10 x 9).toInt := ko_x (Keep.o K17 o) I12.2.1.1 (by decide) (by decide +kernel)
      have a8_17 : (fI D H17 10 x 8).toInt = (fI D H12 10 x 8).toInt := ko_x (Keep.o K17 o) I12.2.1.1 (by decide) (by decide +kernel)
      have b4_17 : (fI D H17 11 mo 14).toInt = (fI D H12 11 mo 14).toInt := ko_m (Keep.o K17 o) I12.2.1.2.1 (by decide) (by decide +kernel)
      have b6_17 : (fI D H17 11 mo 6).toInt = (fI D H12 11 mo 6).toInt := ko_m (Keep.o K17 o) I12.2.1.2.1 (by decide) (by decide +kernel)
      have rp17 : RP6 D H17 x := rp12.keep I12.1 I12.2.1.1 (Keep.o K17 o) (by decide +kernel)
      have ci17 := ci12.keep I12.1 I12.2.1.1 K17 (by decide +kernel)
      have mi17 := mi12.keep I12.1 I12.2.1.2.1 K17 (by decide +kernel)
      obtain ⟨r17, rfl, q17⟩ := q17
      refine lv_istore (lv' := [(6, .int r17), (5, .int r12), (0, .ref b), (1, .ref x), (2, .ref mo), (3, .ref o), (4, .int i)]) hx hb dL_law__1521 hl (by decide) rfl (fun ls hl => ?_)
      refine lv_goto (tgt := 1653) hx hb dL_law__1523 (by decide) ?_
      exact W.widen (by show 450 + 5 * k + 1 ≤ 450 + 5 * k + 5; omega) (by show 30000 + 455 * k + 6 ≤ 30000 + 455 * k + 455; omega) (Fin _ _ _ _ I17 (⟨by unfold tln at *; omega, bq17, rq17, ⟨⟨V, K, ci17, mi17, pv0, fun h9 => pk0 (by omega)⟩, ⟨by omega, by omega⟩, rp17⟩⟩) (lv_sub hl [2, 3, 4, 5, 6] rfl))
    · skip
      refine lv_iconst (v := 1) hx hb dL_law__1513 (by decide) ?_
      refine lv_goto (tgt := 1518) hx hb dL_law__1514 (by decide) ?_
      have k1_18 : (1 : Int32).toInt = 1 := by decide
      refine l_E (T := TX12) (As := [.int v14, .int (1 : Int32)]) C I12 (c_X12_led l D G12 mo v14 (1 : Int32) I12.2.1.2.1 (by omega)) kV_L_261 I12.2.1.2.1 trivial (by decide +kernel) dL_law__1518 hl.1 rfl rfl (by decide) cd_X12_led ⟨Nat.le_of_ble_eq_true rfl, Nat.le_of_ble_eq_true rfl, (by show 450 + 5 * k + 1 ≤ 601024; omega), (by show 30000 + 455 * k + 6 ≤ 7293034; omega), Nat.le_of_ble_eq_true rfl⟩ (fun v18 H18 L18 I18 K18 q18 => ?_)
      have t18 : tln D H18 x = tln D H12 x := tlW I12.1 I12.2.1.1 K18 (by decide +kernel) (by decide +kernel)
      have m18 : (fI D H18 11 mo 9).toInt = (fI D H12 11 mo 9).toInt := congrArg Int32.toInt (K18.fI I12.2.1.2.1 rfl (by decide) (by decide +kernel))
      have bq18 : BQ D H18 x mo := bq12.keep I12.1 I12.2.1.1 I12.2.1.2.1 (Keep.o K18 o) (by decide +kernel) (by decide +kernel)
      have rq18 : RQ D H18 x := rq12.keep I12.1 I12.2.1.1 (Keep.o K18 o) (by decide +kernel)
      have a9_18 : (fI D H18 10 x 9).toInt = (fI D H12 10 x 9).toInt := ko_x (Keep.o K18 o) I12.2.1.1 (by decide) (by decide +kernel)
      have a8_18 : (fI D H18 10 x 8).toInt = (fI D H12 10 x 8).toInt := ko_x (Keep.o K18 o) I12.2.1.1 (by decide) (by decide +kernel)
      have b4_18 : (fI D H18 11 mo 14).toInt = (fI D H12 11 mo 14).toInt := ko_m (Keep.o K18 o) I12.2.1.2.1 (by decide) (by decide +kernel)
      have b6_18 : (fI D H18 11 mo 6).toInt = (fI D H12 11 mo 6).toInt := ko_m (Keep.o K18 o) I12.2.1.2.1 (by decide) (by decide +kernel)
      have rp18 : RP6 D H18 x := rp12.keep I12.1 I12.2.1.1 (Keep.o K18 o) (by decide +kernel)
      have ci18 := ci12.keep I12.1 I12.2.1.1 K18 (by decide +kernel)
      have mi18 := mi12.keep I12.1 I12.2.1.2.1 K18 (by decide +kernel)
      obtain ⟨r18, rfl, q18⟩ := q18
      refine lv_istore (lv' := [(6, .int r18), (5, .int r12), (0, .ref b), (1, .ref x), (2, .ref mo), (3, .ref o), (4, .int i)]) hx hb dL_law__1521 hl (by decide) rfl (fun ls hl => ?_)
      refine lv_goto (tgt := 1653) hx hb dL_law__1523 (by decide) ?_
      exact W.widen (by show 450 + 5 * k + 1 ≤ 450 + 5 * k + 5; omega) (by show 30000 + 455 * k + 6 ≤ 30000 + 455 * k + 455; omega) (Fin _ _ _ _ I18 (⟨by unfold tln at *; omega, bq18, rq18, ⟨⟨V, K, ci18, mi18, pv0, fun h9 => pk0 (by omega)⟩, ⟨by omega, by omega⟩, rp18⟩⟩) (lv_sub hl [2, 3, 4, 5, 6] rfl))

set_option maxRecDepth 100000 in
set_option maxHeartbeats 4000000 in
theorem lc_40 {p : Program} {l : Launch} {e : Env} {s : State} {m : MethodId} {below : List Frame} {meth : Method} {c : Code} {b L : Nat} {xs : Nat → Int32} {D : DD} {G : Nat → Nat} {H : Heap} {locs : List Loc} {ls : Array Slot} {i : Int32} {k x mo o : Nat} {Q : State → Prop} (hl0 : l.stackTraces = false) (C : Cx D G p s m #[.ref b] meth c RL code 7) (hX : va_X b L xs s s.heap) (hbl : b < s.heap.size) (I : Iv D G s.heap H locs x mo o) (tp : tln D H x = (fI D H 11 mo 9).toInt ∧ BQ D H x mo ∧ RQ D H x ∧ VQ D H x mo) (hi : 0 ≤ i.toInt ∧ i.toInt + 6 ≤ L) (hL : L ≤ 3072) (hk : k ≤ 511) (hl : lv_has ls 7 [(0, .ref b), (1, .ref x), (2, .ref mo), (3, .ref o), (4, .int i)])
    (Fin : ∀ G' H' locs' ls', Iv D G' s.heap H' locs' x mo o → tln D H' x = (fI D H' 11 mo 9).toInt ∧ BQ D H' x mo ∧ RQ D H' x ∧ VQ D H' x mo → lv_has ls' 7 [(0, .ref b), (1, .ref x), (2, .ref mo), (3, .ref o), (4, .int i)] → W p l e room_1 s m #[.ref b] below meth c H' locs' (450 + 5 * k + 5) (30000 + 455 * k + 455) Q (F0 m 1653 ls' [])) : W p l e room_1 s m #[.ref b] below meth c H locs (450 + 5 * k) (30000 + 455 * k) Q (F0 m 1526 ls []) := by
  have hx := C.1
  have hb := C.2.1
  have hbA : ¬ s.heap.size ≤ b := by omega
  have tp0 := tp
  obtain ⟨tp, bq0, rq0, vq0⟩ := tp
  obtain ⟨⟨V, K, ci0, mi0, pv0, pk0⟩, ⟨wf0, if0⟩, rp0⟩ := vq0
  refine lv_aload_n hx hb dL_law__1526 rfl (lv_at hl 1 rfl) ?_
  refine lv_aload_n hx hb dL_law__1527 rfl (lv_at hl 0 rfl) ?_
  refine lv_iload hx hb dL_law__1528 (lv_at hl 4 rfl) ?_
  refine lv_iconst (v := 1) hx hb dL_law__1530 (by decide) ?_
  refine lv_iadd hx hb dL_law__1531 ?_
  refine lv_topi (fun v1 ev1 => ?_)
  have kv1 : (1 : Int32).toInt = 1 := by decide
  have fv1 : v1.toInt = i.toInt + 1 := by rw [ev1]; exact i_addc kv1 (by omega) (by omega)
  refine va_sld (A := fun q => s.heap.size ≤ q) hx hb hX hbl hbA I.S (i_vin (by omega) (by omega)) dL_law__1532 ?_
  refine lv_topi (fun v2 ev2 => ?_)
  refine lv_aload_n hx hb dL_law__1533 rfl (lv_at hl 0 rfl) ?_
  refine lv_iload hx hb dL_law__1534 (lv_at hl 4 rfl) ?_
  refine lv_iconst (v := 2) hx hb dL_law__1536 (by decide) ?_
  refine lv_iadd hx hb dL_law__1537 ?_
  refine lv_topi (fun v3 ev3 => ?_)
  have kv3 : (2 : Int32).toInt = 2 := by decide
  have fv3 : v3.toInt = i.toInt + 2 := by rw [ev3]; exact i_addc kv3 (by omega) (by omega)
  refine va_sld (A := fun q => s.heap.size ≤ q) hx hb hX hbl hbA I.S (i_vin (by omega) (by omega)) dL_law__1538 ?_
  refine lv_topi (fun v4 ev4 => ?_)
  refine lv_aload_n hx hb dL_law__1539 rfl (lv_at hl 3 rfl) ?_
  refine l_W (As := [.ref x, .int v2, .int v4, .ref o]) hl0 C I (c_L_log l D G x v2 v4 o I.2.1.1 I.2.1.2.2) kw_262 trivial (by decide +kernel) (by decide +kernel) dL_law__1540 hl.1 cdL_log ⟨Nat.le_of_ble_eq_true rfl, Nat.le_of_ble_eq_true rfl, (by show 450 + 5 * k + 1 ≤ 601024; omega), (by show 30000 + 455 * k + 6 ≤ 7293034; omega), Nat.le_of_ble_eq_true rfl⟩ (fun r5 G5 H5 L5 I5 C m5 t5 K5 => ?_)
  have m5 := congrArg Int32.toInt m5
  have a9_5 : (fI D H5 10 x 9).toInt = (fI D H 10 x 9).toInt := ko_x K5 I.2.1.1 (by decide) (by decide +kernel)
  have a8_5 : (fI D H5 10 x 8).toInt = (fI D H 10 x 8).toInt := ko_x K5 I.2.1.1 (by decide) (by decide +kernel)
  have b4_5 : (fI D H5 11 mo 14).toInt = (fI D H 11 mo 14).toInt := ko_m K5 I.2.1.2.1 (by decide) (by decide +kernel)
  have b6_5 : (fI D H5 11 mo 6).toInt = (fI D H 11 mo 6).toInt := ko_m K5 I.2.1.2.1 (by decide) (by decide +kernel)
  have rp5 : RP6 D H5 x := rp0.keep I.1 I.2.1.1 K5 (by decide +kernel)
  have ci5 := ci0.keepO I.1 I.2.1.1 I.2.1.2.2 I.2.2.1.lt K5
  have mi5 := mi0.keepO I.1 I.2.1.2.1 I.2.1.2.2 I.2.2.1.lt K5
  have bq5 : BQ D H5 x mo := bq0.keep I.1 I.2.1.1 I.2.1.2.1 K5 (by decide +kernel) (by decide +kernel)
  have rq5 : RQ D H5 x := rq0.keep I.1 I.2.1.1 K5 (by decide +kernel)
  have t5 : tln D H5 x = tln D H x := t5
  refine lv_istore (lv' := [(5, .int r5), (0, .ref b), (1, .ref x), (2, .ref mo), (3, .ref o), (4, .int i)]) hx hb dL_law__1543 hl (by decide) rfl (fun ls hl => ?_)
  refine lv_aload_n hx hb dL_law__1545 rfl (lv_at hl 3 rfl) ?_
  refine lv_aload_n hx hb dL_law__1546 rfl (lv_at hl 1 rfl) ?_
  refine lv_iload hx hb dL_law__1547 (lv_at hl 5 rfl) ?_
  refine lv_iconst (v := 1) hx hb dL_law__1549 (by decide) ?_
  refine lv_iadd hx hb dL_law__1550 ?_
  refine lv_topi (fun v6 ev6 => ?_)
  have kv6 : (1 : Int32).toInt = 1 := by decide
  have fv6 : v6.toInt = i.toInt + 1 := by rw [ev6]; exact i_addc kv6 (by omega) (by omega)
  refine va_sld (A := fun q => s.heap.size ≤ q) hx hb hX hbl hbA I5.S (i_vin (by omega) (by omega)) dL_law__1551 ?_
  refine lv_topi (fun v7 ev7 => ?_)
  refine lv_aload_n hx hb dL_law__1552 rfl (lv_at hl 1 rfl) ?_
  refine lv_iload hx hb dL_law__1553 (lv_at hl 5 rfl) ?_
  refine lv_iconst (v := 2) hx hb dL_law__1555 (by decide) ?_
  refine lv_iadd hx hb dL_law__1556 ?_
  refine lv_topi (fun v8 ev8 => ?_)
  have kv8 : (2 : Int32).toInt = 2 := by decide
  have fv8 : v8.toInt = i.toInt + 2 := by rw [ev8]; exact i_addc kv8 (by omega) (by omega)
  refine va_sld (A := fun q => s.heap.size ≤ q) hx hb hX hbl hbA I5.S (i_vin (by omega) (by omega)) dL_law__1557 ?_
  refine lv_topi (fun v9 ev9 => ?_)
  refine l_E (T := TX12) (As := [.int v7, .int v9]) C I5 (c_X12_log l D G5 mo v7 v9 I5.2.1.2.1) kV_L_264 I5.2.1.2.1 trivial (by decide +kernel) dL_law__1558 hl.1 rfl rfl (by decide) cd_X12_log ⟨Nat.le_of_ble_eq_true rfl, Nat.le_of_ble_eq_true rfl, (by show 450 + 5 * k + 1 ≤ 601024; omega), (by show 30000 + 455 * k + 6 ≤ 7293034; omega), Nat.le_of_ble_eq_true rfl⟩ (fun v10 H10 L10 I10 K10 q10 => ?_)
  have t10 : tln D H10 x = tln D H5 x := tlW I5.1 I5.2.1.1 K10 (by decide +kernel) (by decide +kernel)
  have m10 : (fI D H10 11 mo 9).toInt = (fI D H5 11 mo 9).toInt := congrArg Int32.toInt (K10.fI I5.2.1.2.1 rfl (by decide) (by decide +kernel))
  have bq10 : BQ D H10 x mo := bq5.keep I5.1 I5.2.1.1 I5.2.1.2.1 (Keep.o K10 o) (by decide +kernel) (by decide +kernel)
  have rq10 : RQ D H10 x := rq5.keep I5.1 I5.2.1.1 (Keep.o K10 o) (by decide +kernel)
  have a9_10 : (fI D H10 10 x 9).toInt = (fI D H5 10 x 9).toInt := ko_x (Keep.o K10 o) I5.2.1.1 (by decide) (by decide +kernel)
  have a8_10 : (fI D H10 10 x 8).toInt = (fI D H5 10 x 8).toInt := ko_x (Keep.o K10 o) I5.2.1.1 (by decide) (by decide +kernel)
  have b4_10 : (fI D H10 11 mo 14).toInt = (fI D H5 11 mo 14).toInt := ko_m (Keep.o K10 o) I5.2.1.2.1 (by decide) (by decide +kernel)
  have b6_10 : (fI D H10 11 mo 6).toInt = (fI D H5 11 mo 6).toInt := ko_m (Keep.o K10 o) I5.2.1.2.1 (by decide) (by decide +kernel)
  have rp10 : RP6 D H10 x := rp5.keep I5.1 I5.2.1.1 (Keep.o K10 o) (by decide +kernel)
  have ci10 := ci5.keep I5.1 I5.2.1.1 K10 (by decide +kernel)
  have mi10 := mi5.keep I5.1 I5.2.1.2.1 K10 (by decide +kernel)
  obtain ⟨r10, rfl, q10⟩ := q10
  refine lv_istore (lv' := [(6, .int r10), (5, .int r5), (0, .ref b), (1, .ref x), (2, .ref mo), (3, .ref o), (4, .int i)]) hx hb dL_law__1561 hl (by decide) rfl (fun ls hl => ?_)
  refine lv_goto (tgt := 1653) hx hb dL_law__1563 (by decide) ?_
  exact W.widen (by show 450 + 5 * k + 1 ≤ 450 + 5 * k + 5; omega) (by show 30000 + 455 * k + 6 ≤ 30000 + 455 * k + 455; omega) (Fin _ _ _ _ I10 (⟨by unfold tln at *; omega, bq10, rq10, ⟨⟨V, K, ci10, mi10, pv0, fun h9 => pk0 (by omega)⟩, ⟨by omega, by omega⟩, rp10⟩⟩) (lv_sub hl [2, 3, 4, 5, 6] rfl))

set_option maxRecDepth 100000 in
set_option maxHeartbeats 4000000 in
theorem lc_41 {p : Program} {l : Launch} {e : Env} {s : State} {m : MethodId} {below : List Frame} {meth : Method} {c : Code} {b L : Nat} {xs : Nat → Int32} {D : DD} {G : Nat → Nat} {H : Heap} {locs : List Loc} {ls : Array Slot} {i : Int32} {k x mo o : Nat} {Q : State → Prop} (hl0 : l.stackTraces = false) (C : Cx D G p s m #[.ref b] meth c RL code 7) (hX : va_X b L xs s s.heap) (hbl : b < s.heap.size) (I : Iv D G s.heap H locs x mo o) (tp : tln D H x = (fI D H 11 mo 9).toInt ∧ BQ D H x mo ∧ RQ D H x ∧ VQ D H x mo) (hi : 0 ≤ i.toInt ∧ i.toInt + 6 ≤ L) (hL : L ≤ 3072) (hk : k ≤ 511) (hl : lv_has ls 7 [(0, .ref b), (1, .ref x), (2, .ref mo), (3, .ref o), (4, .int i)])
    (Fin : ∀ G' H' locs' ls', Iv D G' s.heap H' locs' x mo o → tln D H' x = (fI D H' 11 mo 9).toInt ∧ BQ D H' x mo ∧ RQ D H' x ∧ VQ D H' x mo → lv_has ls' 7 [(0, .ref b), (1, .ref x), (2, .ref mo), (3, .ref o), (4, .int i)] → W p l e room_1 s m #[.ref b] below meth c H' locs' (450 + 5 * k + 5) (30000 + 455 * k + 455) Q (F0 m 1653 ls' [])) : W p l e room_1 s m #[.ref b] below meth c H locs (450 + 5 * k) (30000 + 455 * k) Q (F0 m 1566 ls []) := by
  have hx := C.1
  have hb := C.2.1
  have hbA : ¬ s.heap.size ≤ b := by omega
  have tp0 := tp
  obtain ⟨tp, bq0, rq0, vq0⟩ := tp
  obtain ⟨⟨V, K, ci0, mi0, pv0, pk0⟩, ⟨wf0, if0⟩, rp0⟩ := vq0
  refine lv_aload_n hx hb dL_law__1566 rfl (lv_at hl 1 rfl) ?_
  refine lv_aload_n hx hb dL_law__1567 rfl (lv_at hl 0 rfl) ?_
  refine lv_iload hx hb dL_law__1568 (lv_at hl 4 rfl) ?_
  refine lv_iconst (v := 1) hx hb dL_law__1570 (by decide) ?_
  refine lv_iadd hx hb dL_law__1571 ?_
  refine lv_topi (fun v1 ev1 => ?_)
  have kv1 : (1 : Int32).toInt = 1 := by decide
  have fv1 : v1.toInt = i.toInt + 1 := by rw [ev1]; exact i_addc kv1 (by omega) (by omega)
  refine va_sld (A := fun q => s.heap.size ≤ q) hx hb hX hbl hbA I.S (i_vin (by omega) (by omega)) dL_law__1572 ?_
  refine lv_topi (fun v2 ev2 => ?_)
  refine l_E (T := TX11) (As := [.int v2]) C I (c_X11_seed l D G x v2 I.2.1.1) kV_L_265 I.2.1.1 trivial (by decide +kernel) dL_law__1573 hl.1 rfl rfl (by decide) cd_X11_seed ⟨Nat.le_of_ble_eq_true rfl, Nat.le_of_ble_eq_true rfl, (by show 450 + 5 * k ≤ 601024; omega), (by show 30000 + 455 * k ≤ 7293034; omega), Nat.le_of_ble_eq_true rfl⟩ (fun v3 H3 L3 I3 K3 q3 => ?_)
  have m3 : (fI D H3 11 mo 9).toInt = (fI D H 11 mo 9).toInt := congrArg Int32.toInt (K3.fI I.2.1.2.1 rfl (by decide) (by decide +kernel))
  have t3 : tln D H3 x = tln D H x := tlW I.1 I.2.1.1 K3 (by decide +kernel) (by decide +kernel)
  have bq3 : BQ D H3 x mo := bq0.keep I.1 I.2.1.1 I.2.1.2.1 (Keep.o K3 o) (by decide +kernel) (by decide +kernel)
  have rq3 : RQ D H3 x := rq0.keep I.1 I.2.1.1 (Keep.o K3 o) (by decide +kernel)
  have a9_3 : (fI D H3 10 x 9).toInt = (fI D H 10 x 9).toInt := ko_x (Keep.o K3 o) I.2.1.1 (by decide) (by decide +kernel)
  have a8_3 : (fI D H3 10 x 8).toInt = (fI D H 10 x 8).toInt := ko_x (Keep.o K3 o) I.2.1.1 (by decide) (by decide +kernel)
  have b4_3 : (fI D H3 11 mo 14).toInt = (fI D H 11 mo 14).toInt := ko_m (Keep.o K3 o) I.2.1.2.1 (by decide) (by decide +kernel)
  have b6_3 : (fI D H3 11 mo 6).toInt = (fI D H 11 mo 6).toInt := ko_m (Keep.o K3 o) I.2.1.2.1 (by decide) (by decide +kernel)
  have rp3 : RP6 D H3 x := rp0.keep I.1 I.2.1.1 (Keep.o K3 o) (by decide +kernel)
  have ci3 := ci0.keep I.1 I.2.1.1 K3 (by decide +kernel)
  have mi3 := mi0.keep I.1 I.2.1.2.1 K3 (by decide +kernel)
  obtain ⟨r3, rfl, q3⟩ := q3
  refine lv_pop hx hb dL_law__1576 rfl ?_
  refine lv_aload_n hx hb dL_law__1577 rfl (lv_at hl 2 rfl) ?_
  refine lv_aload_n hx hb dL_law__1578 rfl (lv_at hl 0 rfl) ?_
  refine lv_iload hx hb dL_law__1579 (lv_at hl 4 rfl) ?_
  refine lv_iconst (v := 1) hx hb dL_law__1581 (by decide) ?_
  refine lv_iadd hx hb dL_law__1582 ?_
  refine lv_topi (fun v4 ev4 => ?_)
  have kv4 : (1 : Int32).toInt = 1 := by decide
  have fv4 : v4.toInt = i.toInt + 1 := by rw [ev4]; exact i_addc kv4 (by omega) (by omega)
  refine va_sld (A := fun q => s.heap.size ≤ q) hx hb hX hbl hbA I3.S (i_vin (by omega) (by omega)) dL_law__1583 ?_
  refine lv_topi (fun v5 ev5 => ?_)
  refine l_E (T := TX12) (As := [.int v5]) C I3 (c_X12_seed l D G mo v5 I3.2.1.2.1) kV_L_268 I3.2.1.2.1 trivial (by decide +kernel) dL_law__1584 hl.1 rfl rfl (by decide) cd_X12_seed ⟨Nat.le_of_ble_eq_true rfl, Nat.le_of_ble_eq_true rfl, (by show 450 + 5 * k ≤ 601024; omega), (by show 30000 + 455 * k ≤ 7293034; omega), Nat.le_of_ble_eq_true rfl⟩ (fun v6 H6 L6 I6 K6 q6 => ?_)
  have t6 : tln D H6 x = tln D H3 x := tlW I3.1 I3.2.1.1 K6 (by decide +kernel) (by decide +kernel)
  have m6 : (fI D H6 11 mo 9).toInt = (fI D H3 11 mo 9).toInt := congrArg Int32.toInt (K6.fI I3.2.1.2.1 rfl (by decide) (by decide +kernel))
  have bq6 : BQ D H6 x mo := bq3.keep I3.1 I3.2.1.1 I3.2.1.2.1 (Keep.o K6 o) (by decide +kernel) (by decide +kernel)
  have rq6 : RQ D H6 x := rq3.keep I3.1 I3.2.1.1 (Keep.o K6 o) (by decide +kernel)
  have a9_6 : (fI D H6 10 x 9).toInt = (fI D H3 10 x 9).toInt := ko_x (Keep.o K6 o) I3.2.1.1 (by decide) (by decide +kernel)
  have a8_6 : (fI D H6 10 x 8).toInt = (fI D H3 10 x 8).toInt := ko_x (Keep.o K6 o) I3.2.1.1 (by decide) (by decide +kernel)
  have b4_6 : (fI D H6 11 mo 14).toInt = (fI D H3 11 mo 14).toInt := ko_m (Keep.o K6 o) I3.2.1.2.1 (by decide) (by decide +kernel)
  have b6_6 : (fI D H6 11 mo 6).toInt = (fI D H3 11 mo 6).toInt := ko_m (Keep.o K6 o) I3.2.1.2.1 (by decide) (by decide +kernel)
  have rp6 : RP6 D H6 x := rp3.keep I3.1 I3.2.1.1 (Keep.o K6 o) (by decide +kernel)
  have ci6 := ci3.keep I3.1 I3.2.1.1 K6 (by decide +kernel)
  have mi6 := mi3.keep I3.1 I3.2.1.2.1 K6 (by decide +kernel)
  obtain ⟨r6, rfl, q6⟩ := q6
  refine lv_pop hx hb dL_law__1587 rfl ?_
  refine lv_goto (tgt := 1653) hx hb dL_law__1588 (by decide) ?_
  exact W.widen (by show 450 + 5 * k ≤ 450 + 5 * k + 5; omega) (by show 30000 + 455 * k ≤ 30000 + 455 * k + 455; omega) (Fin _ _ _ _ I6 (⟨by unfold tln at *; omega, bq6, rq6, ⟨⟨V, K, ci6, mi6, pv0, fun h9 => pk0 (by omega)⟩, ⟨by omega, by omega⟩, rp6⟩⟩) (lv_sub hl [0, 1, 2, 3, 4] rfl))

set_option maxRecDepth 100000 in
set_option maxHeartbeats 4000000 in
theorem lc_42 {p : Program} {l : Launch} {e : Env} {s : State} {m : MethodId} {below : List Frame} {meth : Method} {c : Code} {b L : Nat} {xs : Nat → Int32} {D : DD} {G : Nat → Nat} {H : Heap} {locs : List Loc} {ls : Array Slot} {i : Int32} {k x mo o : Nat} {Q : State → Prop} (hl0 : l.stackTraces = false) (C : Cx D G p s m #[.ref b] meth c RL code 7) (hX : va_X b L xs s s.heap) (hbl : b < s.heap.size) (I : Iv D G s.heap H locs x mo o) (tp : tln D H x = (fI D H 11 mo 9).toInt ∧ BQ D H x mo ∧ RQ D H x ∧ VQ D H x mo) (hi : 0 ≤ i.toInt ∧ i.toInt + 6 ≤ L) (hL : L ≤ 3072) (hk : k ≤ 511) (hl : lv_has ls 7 [(0, .ref b), (1, .ref x), (2, .ref mo), (3, .ref o), (4, .int i)])
    (Fin : ∀ G' H' locs' ls', Iv D G' s.heap H' locs' x mo o → tln D H' x = (fI D H' 11 mo 9).toInt ∧ BQ D H' x mo ∧ RQ D H' x ∧ VQ D H' x mo → lv_has ls' 7 [(0, .ref b), (1, .ref x), (2, .ref mo), (3, .ref o), (4, .int i)] → W p l e room_1 s m #[.ref b] below meth c H' locs' (450 + 5 * k + 5) (30000 + 455 * k + 455) Q (F0 m 1653 ls' [])) : W p l e room_1 s m #[.ref b] below meth c H locs (450 + 5 * k) (30000 + 455 * k) Q (F0 m 1591 ls []) := by
  have hx := C.1
  have hb := C.2.1
  have hbA : ¬ s.heap.size ≤ b := by omega
  have tp0 := tp
  obtain ⟨tp, bq0, rq0, vq0⟩ := tp
  obtain ⟨⟨V, K, ci0, mi0, pv0, pk0⟩, ⟨wf0, if0⟩, rp0⟩ := vq0
  refine lv_aload_n hx hb dL_law__1591 rfl (lv_at hl 1 rfl) ?_
  refine l_E (T := TX11) (As := []) C I (c_X11_undo l D G x I.2.1.1) kV_L_269 I.2.1.1 trivial (by decide +kernel) dL_law__1592 hl.1 rfl rfl (by decide) cd_X11_undo ⟨Nat.le_of_ble_eq_true rfl, Nat.le_of_ble_eq_true rfl, (by show 450 + 5 * k ≤ 601024; omega), (by show 30000 + 455 * k ≤ 7293034; omega), Nat.le_of_ble_eq_true rfl⟩ (fun v1 H1 L1 I1 K1 q1 => ?_)
  have m1 : (fI D H1 11 mo 9).toInt = (fI D H 11 mo 9).toInt := congrArg Int32.toInt (K1.fI I.2.1.2.1 rfl (by decide) (by decide +kernel))
  have t1 : tln D H1 x = tln D H x := tlW I.1 I.2.1.1 K1 (by decide +kernel) (by decide +kernel)
  have bq1 : BQ D H1 x mo := bq0.keep I.1 I.2.1.1 I.2.1.2.1 (Keep.o K1 o) (by decide +kernel) (by decide +kernel)
  have rq1 : RQ D H1 x := rq0.keep I.1 I.2.1.1 (Keep.o K1 o) (by decide +kernel)
  have a9_1 : (fI D H1 10 x 9).toInt = (fI D H 10 x 9).toInt := ko_x (Keep.o K1 o) I.2.1.1 (by decide) (by decide +kernel)
  have a8_1 : (fI D H1 10 x 8).toInt = (fI D H 10 x 8).toInt := ko_x (Keep.o K1 o) I.2.1.1 (by decide) (by decide +kernel)
  have b4_1 : (fI D H1 11 mo 14).toInt = (fI D H 11 mo 14).toInt := ko_m (Keep.o K1 o) I.2.1.2.1 (by decide) (by decide +kernel)
  have b6_1 : (fI D H1 11 mo 6).toInt = (fI D H 11 mo 6).toInt := ko_m (Keep.o K1 o) I.2.1.2.1 (by decide) (by decide +kernel)
  have rp1 : RP6 D H1 x := rp0.keep I.1 I.2.1.1 (Keep.o K1 o) (by decide +kernel)
  have mi1 := mi0.keep I.1 I.2.1.2.1 K1 (by decide +kernel)
  obtain ⟨r1, rfl, q1⟩ := q1
  have ci1 := q1.2 V K ci0
  refine lv_pop hx hb dL_law__1595 rfl ?_
  refine lv_aload_n hx hb dL_law__1596 rfl (lv_at hl 2 rfl) ?_
  refine l_E (T := TX12) (As := []) C I1 (c_X12_undo l D G mo I1.2.1.2.1) kV_L_273 I1.2.1.2.1 trivial (by decide +kernel) dL_law__1597 hl.1 rfl rfl (by decide) cd_X12_undo ⟨Nat.le_of_ble_eq_true rfl, Nat.le_of_ble_eq_true rfl, (by show 450 + 5 * k ≤ 601024; omega), (by show 30000 + 455 * k ≤ 7293034; omega), Nat.le_of_ble_eq_true rfl⟩ (fun v2 H2 L2 I2 K2 q2 => ?_)
  have t2 : tln D H2 x = tln D H1 x := tlW I1.1 I1.2.1.1 K2 (by decide +kernel) (by decide +kernel)
  have m2 : (fI D H2 11 mo 9).toInt = (fI D H1 11 mo 9).toInt := congrArg Int32.toInt (K2.fI I1.2.1.2.1 rfl (by decide) (by decide +kernel))
  have bq2 : BQ D H2 x mo := bq1.keep I1.1 I1.2.1.1 I1.2.1.2.1 (Keep.o K2 o) (by decide +kernel) (by decide +kernel)
  have rq2 : RQ D H2 x := rq1.keep I1.1 I1.2.1.1 (Keep.o K2 o) (by decide +kernel)
  have a9_2 : (fI D H2 10 x 9).toInt = (fI D H1 10 x 9).toInt := ko_x (Keep.o K2 o) I1.2.1.1 (by decide) (by decide +kernel)
  have a8_2 : (fI D H2 10 x 8).toInt = (fI D H1 10 x 8).toInt := ko_x (Keep.o K2 o) I1.2.1.1 (by decide) (by decide +kernel)
  have b4_2 : (fI D H2 11 mo 14).toInt = (fI D H1 11 mo 14).toInt := ko_m (Keep.o K2 o) I1.2.1.2.1 (by decide) (by decide +kernel)
  have b6_2 : (fI D H2 11 mo 6).toInt = (fI D H1 11 mo 6).toInt := ko_m (Keep.o K2 o) I1.2.1.2.1 (by decide) (by decide +kernel)
  have rp2 : RP6 D H2 x := rp1.keep I1.1 I1.2.1.1 (Keep.o K2 o) (by decide +kernel)
  have ci2 := ci1.keep I1.1 I1.2.1.1 K2 (by decide +kernel)
  obtain ⟨r2, rfl, q2⟩ := q2
  have mi2 := q2.2 V K mi1
  refine lv_pop hx hb dL_law__1600 rfl ?_
  refine lv_goto (tgt := 1653) hx hb dL_law__1601 (by decide) ?_
  exact W.widen (by show 450 + 5 * k ≤ 450 + 5 * k + 5; omega) (by show 30000 + 455 * k ≤ 30000 + 455 * k + 455; omega) (Fin _ _ _ _ I2 (⟨by unfold tln at *; omega, bq2, rq2, ⟨⟨V, K, ci2, mi2, pv0, fun h9 => pk0 (by omega)⟩, ⟨by omega, by omega⟩, rp2⟩⟩) (lv_sub hl [0, 1, 2, 3, 4] rfl))

set_option maxRecDepth 100000 in
set_option maxHeartbeats 4000000 in
theorem lc_43 {p : Program} {l : Launch} {e : Env} {s : State} {m : MethodId} {below : List Frame} {meth : Method} {c : Code} {b L : Nat} {xs : Nat → Int32} {D : DD} {G : Nat → Nat} {H : Heap} {locs : List Loc} {ls : Array Slot} {i : Int32} {k x mo o : Nat} {Q : State → Prop} (hl0 : l.stackTraces = false) (C : Cx D G p s m #[.ref b] meth c RL code 7) (hX : va_X b L xs s s.heap) (hbl : b < s.heap.size) (I : Iv D G s.heap H locs x mo o) (tp : tln D H x = (fI D H 11 mo 9).toInt ∧ BQ D H x mo ∧ RQ D H x ∧ VQ D H x mo) (hi : 0 ≤ i.toInt ∧ i.toInt + 6 ≤ L) (hL : L ≤ 3072) (hk : k ≤ 511) (hl : lv_has ls 7 [(0, .ref b), (1, .ref x), (2, .ref mo), (3, .ref o), (4, .int i)])
    (Fin : ∀ G' H' locs' ls', Iv D G' s.heap H' locs' x mo o → tln D H' x = (fI D H' 11 mo 9).toInt ∧ BQ D H' x mo ∧ RQ D H' x ∧ VQ D H' x mo → lv_has ls' 7 [(0, .ref b), (1, .ref x), (2, .ref mo), (3, .ref o), (4, .int i)] → W p l e room_1 s m #[.ref b] below meth c H' locs' (450 + 5 * k + 5) (30000 + 455 * k + 455) Q (F0 m 1653 ls' [])) : W p l e room_1 s m #[.ref b] below meth c H locs (450 + 5 * k) (30000 + 455 * k) Q (F0 m 1604 ls []) := by
  have hx := C.1
  have hb := C.2.1
  have hbA : ¬ s.heap.size ≤ b := by omega
  have tp0 := tp
  obtain ⟨tp, bq0, rq0, vq0⟩ := tp
  obtain ⟨⟨V, K, ci0, mi0, pv0, pk0⟩, ⟨wf0, if0⟩, rp0⟩ := vq0
  refine lv_aload_n hx hb dL_law__1604 rfl (lv_at hl 1 rfl) ?_
  refine l_E (T := TX11) (As := []) C I (c_X11_image l D G x I.2.1.1) kV_L_274 I.2.1.1 trivial (by decide +kernel) dL_law__1605 hl.1 rfl rfl (by decide) cd_X11_image ⟨Nat.le_of_ble_eq_true rfl, Nat.le_of_ble_eq_true rfl, (by show 450 + 5 * k ≤ 601024; omega), (by show 30000 + 455 * k ≤ 7293034; omega), Nat.le_of_ble_eq_true rfl⟩ (fun v1 H1 L1 I1 K1 q1 => ?_)
  have m1 : (fI D H1 11 mo 9).toInt = (fI D H 11 mo 9).toInt := congrArg Int32.toInt (K1.fI I.2.1.2.1 rfl (by decide) (by decide +kernel))
  have t1 : tln D H1 x = tln D H x := tlW I.1 I.2.1.1 K1 (by decide +kernel) (by decide +kernel)
  have bq1 : BQ D H1 x mo := bq0.keep I.1 I.2.1.1 I.2.1.2.1 (Keep.o K1 o) (by decide +kernel) (by decide +kernel)
  have rq1 : RQ D H1 x := rq0.keep I.1 I.2.1.1 (Keep.o K1 o) (by decide +kernel)
  have a9_1 : (fI D H1 10 x 9).toInt = (fI D H 10 x 9).toInt := ko_x (Keep.o K1 o) I.2.1.1 (by decide) (by decide +kernel)
  have b4_1 : (fI D H1 11 mo 14).toInt = (fI D H 11 mo 14).toInt := ko_m (Keep.o K1 o) I.2.1.2.1 (by decide) (by decide +kernel)
  have b6_1 : (fI D H1 11 mo 6).toInt = (fI D H 11 mo 6).toInt := ko_m (Keep.o K1 o) I.2.1.2.1 (by decide) (by decide +kernel)
  have rp1 : RP6 D H1 x := rp0.keep I.1 I.2.1.1 (Keep.o K1 o) (by decide +kernel)
  have mi1 := mi0.keep I.1 I.2.1.2.1 K1 (by decide +kernel)
  obtain ⟨rfl, q1⟩ := q1
  have ci1 := (q1.2 V K ci0).1
  refine lv_aload_n hx hb dL_law__1608 rfl (lv_at hl 2 rfl) ?_
  refine l_E (T := TX12) (As := []) C I1 (c_X12_image l D G mo I1.2.1.2.1) kV_L_277 I1.2.1.2.1 trivial (by decide +kernel) dL_law__1609 hl.1 rfl rfl (by decide) cd_X12_image ⟨Nat.le_of_ble_eq_true rfl, Nat.le_of_ble_eq_true rfl, (by show 450 + 5 * k ≤ 601024; omega), (by show 30000 + 455 * k ≤ 7293034; omega), Nat.le_of_ble_eq_true rfl⟩ (fun v2 H2 L2 I2 K2 q2 => ?_)
  have t2 : tln D H2 x = tln D H1 x := tlW I1.1 I1.2.1.1 K2 (by decide +kernel) (by decide +kernel)
  have m2 : (fI D H2 11 mo 9).toInt = (fI D H1 11 mo 9).toInt := congrArg Int32.toInt (K2.fI I1.2.1.2.1 rfl (by decide) (by decide +kernel))
  have bq2 : BQ D H2 x mo := bq1.keep I1.1 I1.2.1.1 I1.2.1.2.1 (Keep.o K2 o) (by decide +kernel) (by decide +kernel)
  have rq2 : RQ D H2 x := rq1.keep I1.1 I1.2.1.1 (Keep.o K2 o) (by decide +kernel)
  have a9_2 : (fI D H2 10 x 9).toInt = (fI D H1 10 x 9).toInt := ko_x (Keep.o K2 o) I1.2.1.1 (by decide) (by decide +kernel)
  have a8_2 : (fI D H2 10 x 8).toInt = (fI D H1 10 x 8).toInt := ko_x (Keep.o K2 o) I1.2.1.1 (by decide) (by decide +kernel)
  have b4_2 : (fI D H2 11 mo 14).toInt = (fI D H1 11 mo 14).toInt := ko_m (Keep.o K2 o) I1.2.1.2.1 (by decide) (by decide +kernel)
  have rp2 : RP6 D H2 x := rp1.keep I1.1 I1.2.1.1 (Keep.o K2 o) (by decide +kernel)
  have ci2 := ci1.keep I1.1 I1.2.1.1 K2 (by decide +kernel)
  obtain ⟨rfl, q2⟩ := q2
  have mi2 := (q2.2 V K mi1).1
  refine lv_goto (tgt := 1653) hx hb dL_law__1612 (by decide) ?_
  exact W.widen (by show 450 + 5 * k ≤ 450 + 5 * k + 5; omega) (by show 30000 + 455 * k ≤ 30000 + 455 * k + 455; omega) (Fin _ _ _ _ I2 (⟨by unfold tln at *; omega, bq2, rq2, ⟨⟨V, V, ci2, mi2, pv0, fun _ => pv0⟩, ⟨by omega, by omega⟩, rp2⟩⟩) (lv_sub hl [0, 1, 2, 3, 4] rfl))

set_option maxRecDepth 100000 in
set_option maxHeartbeats 4000000 in
theorem lc_44 {p : Program} {l : Launch} {e : Env} {s : State} {m : MethodId} {below : List Frame} {meth : Method} {c : Code} {b L : Nat} {xs : Nat → Int32} {D : DD} {G : Nat → Nat} {H : Heap} {locs : List Loc} {ls : Array Slot} {i : Int32} {k x mo o : Nat} {Q : State → Prop} (hl0 : l.stackTraces = false) (C : Cx D G p s m #[.ref b] meth c RL code 7) (hX : va_X b L xs s s.heap) (hbl : b < s.heap.size) (I : Iv D G s.heap H locs x mo o) (tp : tln D H x = (fI D H 11 mo 9).toInt ∧ BQ D H x mo ∧ RQ D H x ∧ VQ D H x mo) (hi : 0 ≤ i.toInt ∧ i.toInt + 6 ≤ L) (hL : L ≤ 3072) (hk : k ≤ 511) (hl : lv_has ls 7 [(0, .ref b), (1, .ref x), (2, .ref mo), (3, .ref o), (4, .int i)])
    (Fin : ∀ G' H' locs' ls', Iv D G' s.heap H' locs' x mo o → tln D H' x = (fI D H' 11 mo 9).toInt ∧ BQ D H' x mo ∧ RQ D H' x ∧ VQ D H' x mo → lv_has ls' 7 [(0, .ref b), (1, .ref x), (2, .ref mo), (3, .ref o), (4, .int i)] → W p l e room_1 s m #[.ref b] below meth c H' locs' (450 + 5 * k + 5) (30000 + 455 * k + 455) Q (F0 m 1653 ls' [])) : W p l e room_1 s m #[.ref b] below meth c H locs (450 + 5 * k) (30000 + 455 * k) Q (F0 m 1615 ls []) := by
  have hx := C.1
  have hb := C.2.1
  have hbA : ¬ s.heap.size ≤ b := by omega
  have tp0 := tp
  obtain ⟨tp, bq0, rq0, vq0⟩ := tp
  obtain ⟨⟨V, K, ci0, mi0, pv0, pk0⟩, ⟨wf0, if0⟩, rp0⟩ := vq0
  refine lv_aload_n hx hb dL_law__1615 rfl (lv_at hl 1 rfl) ?_
  refine l_E (T := TX11) (As := []) C I (c_X11_back l D G x I.2.1.1) kV_L_278 I.2.1.1 trivial (by decide +kernel) dL_law__1616 hl.1 rfl rfl (by decide) cd_X11_back ⟨Nat.le_of_ble_eq_true rfl, Nat.le_of_ble_eq_true rfl, (by show 450 + 5 * k ≤ 601024; omega), (by show 30000 + 455 * k ≤ 7293034; omega), Nat.le_of_ble_eq_true rfl⟩ (fun v1 H1 L1 I1 K1 q1 => ?_)
  have m1 : (fI D H1 11 mo 9).toInt = (fI D H 11 mo 9).toInt := congrArg Int32.toInt (K1.fI I.2.1.2.1 rfl (by decide) (by decide +kernel))
  have t1 : tln D H1 x = tln D H x := tlW I.1 I.2.1.1 K1 (by decide +kernel) (by decide +kernel)
  have bq1 : BQ D H1 x mo := bq0.keep I.1 I.2.1.1 I.2.1.2.1 (Keep.o K1 o) (by decide +kernel) (by decide +kernel)
  have rq1 : RQ D H1 x := rq0.keep I.1 I.2.1.1 (Keep.o K1 o) (by decide +kernel)
  have a9_1 : (fI D H1 10 x 9).toInt = (fI D H 10 x 9).toInt := ko_x (Keep.o K1 o) I.2.1.1 (by decide) (by decide +kernel)
  have a8_1 : (fI D H1 10 x 8).toInt = (fI D H 10 x 8).toInt := ko_x (Keep.o K1 o) I.2.1.1 (by decide) (by decide +kernel)
  have b4_1 : (fI D H1 11 mo 14).toInt = (fI D H 11 mo 14).toInt := ko_m (Keep.o K1 o) I.2.1.2.1 (by decide) (by decide +kernel)
  have b6_1 : (fI D H1 11 mo 6).toInt = (fI D H 11 mo 6).toInt := ko_m (Keep.o K1 o) I.2.1.2.1 (by decide) (by decide +kernel)
  have rp1 : RP6 D H1 x := rp0.keep I.1 I.2.1.1 (Keep.o K1 o) (by decide +kernel)
  have mi1 := mi0.keep I.1 I.2.1.2.1 K1 (by decide +kernel)
  obtain ⟨r1, rfl, q1⟩ := q1
  have ci1 := q1.2 V K ci0
  refine lv_pop hx hb dL_law__1619 rfl ?_
  refine lv_aload_n hx hb dL_law__1620 rfl (lv_at hl 2 rfl) ?_
  refine l_E (T := TX12) (As := []) C I1 (c_X12_back l D G mo I1.2.1.2.1) kV_L_281 I1.2.1.2.1 trivial (by decide +kernel) dL_law__1621 hl.1 rfl rfl (by decide) cd_X12_back ⟨Nat.le_of_ble_eq_true rfl, Nat.le_of_ble_eq_true rfl, (by show 450 + 5 * k ≤ 601024; omega), (by show 30000 + 455 * k ≤ 7293034; omega), Nat.le_of_ble_eq_true rfl⟩ (fun v2 H2 L2 I2 K2 q2 => ?_)
  have t2 : tln D H2 x = tln D H1 x := tlW I1.1 I1.2.1.1 K2 (by decide +kernel) (by decide +kernel)
  have m2 : (fI D H2 11 mo 9).toInt = (fI D H1 11 mo 9).toInt := congrArg Int32.toInt (K2.fI I1.2.1.2.1 rfl (by decide) (by decide +kernel))
  have bq2 : BQ D H2 x mo := bq1.keep I1.1 I1.2.1.1 I1.2.1.2.1 (Keep.o K2 o) (by decide +kernel) (by decide +kernel)
  have rq2 : RQ D H2 x := rq1.keep I1.1 I1.2.1.1 (Keep.o K2 o) (by decide +kernel)
  have a9_2 : (fI D H2 10 x 9).toInt = (fI D H1 10 x 9).toInt := ko_x (Keep.o K2 o) I1.2.1.1 (by decide) (by decide +kernel)
  have a8_2 : (fI D H2 10 x 8).toInt = (fI D H1 10 x 8).toInt := ko_x (Keep.o K2 o) I1.2.1.1 (by decide) (by decide +kernel)
  have b4_2 : (fI D H2 11 mo 14).toInt = (fI D H1 11 mo 14).toInt := ko_m (Keep.o K2 o) I1.2.1.2.1 (by decide) (by decide +kernel)
  have b6_2 : (fI D H2 11 mo 6).toInt = (fI D H1 11 mo 6).toInt := ko_m (Keep.o K2 o) I1.2.1.2.1 (by decide) (by decide +kernel)
  have rp2 : RP6 D H2 x := rp1.keep I1.1 I1.2.1.1 (Keep.o K2 o) (by decide +kernel)
  have ci2 := ci1.keep I1.1 I1.2.1.1 K2 (by decide +kernel)
  obtain ⟨r2, rfl, q2⟩ := q2
  have mi2 := q2.2 V K mi1
  refine lv_pop hx hb dL_law__1624 rfl ?_
  refine lv_goto (tgt := 1653) hx hb dL_law__1625 (by decide) ?_
  exact W.widen (by show 450 + 5 * k ≤ 450 + 5 * k + 5; omega) (by show 30000 + 455 * k ≤ 30000 + 455 * k + 455; omega) (Fin _ _ _ _ I2 (⟨by unfold tln at *; omega, bq2, rq2, ⟨back_q ci2 mi2 (by omega) (by have z9 := I2.1.rng (k := 6) I2.2.1.2.1 rfl (by decide) rfl; exact z9) pv0 (fun h9 => pk0 (by omega)), ⟨by omega, by omega⟩, rp2⟩⟩) (lv_sub hl [0, 1, 2, 3, 4] rfl))

set_option maxRecDepth 100000 in
set_option maxHeartbeats 4000000 in
theorem lc_45 {p : Program} {l : Launch} {e : Env} {s : State} {m : MethodId} {below : List Frame} {meth : Method} {c : Code} {b L : Nat} {xs : Nat → Int32} {D : DD} {G : Nat → Nat} {H : Heap} {locs : List Loc} {ls : Array Slot} {i : Int32} {k x mo o : Nat} {Q : State → Prop} (hl0 : l.stackTraces = false) (C : Cx D G p s m #[.ref b] meth c RL code 7) (hX : va_X b L xs s s.heap) (hbl : b < s.heap.size) (I : Iv D G s.heap H locs x mo o) (tp : tln D H x = (fI D H 11 mo 9).toInt ∧ BQ D H x mo ∧ RQ D H x ∧ VQ D H x mo) (hi : 0 ≤ i.toInt ∧ i.toInt + 6 ≤ L) (hL : L ≤ 3072) (hk : k ≤ 511) (hl : lv_has ls 7 [(0, .ref b), (1, .ref x), (2, .ref mo), (3, .ref o), (4, .int i)])
    (Fin : ∀ G' H' locs' ls', Iv D G' s.heap H' locs' x mo o → tln D H' x = (fI D H' 11 mo 9).toInt ∧ BQ D H' x mo ∧ RQ D H' x ∧ VQ D H' x mo → lv_has ls' 7 [(0, .ref b), (1, .ref x), (2, .ref mo), (3, .ref o), (4, .int i)] → W p l e room_1 s m #[.ref b] below meth c H' locs' (450 + 5 * k + 5) (30000 + 455 * k + 455) Q (F0 m 1653 ls' [])) : W p l e room_1 s m #[.ref b] below meth c H locs (450 + 5 * k) (30000 + 455 * k) Q (F0 m 1628 ls []) := by
  have hx := C.1
  have hb := C.2.1
  have hbA : ¬ s.heap.size ≤ b := by omega
  have tp0 := tp
  obtain ⟨tp, bq0, rq0, vq0⟩ := tp
  obtain ⟨⟨V, K, ci0, mi0, pv0, pk0⟩, ⟨wf0, if0⟩, rp0⟩ := vq0
  refine lv_aload_n hx hb dL_law__1628 rfl (lv_at hl 1 rfl) ?_
  refine lv_aload_n hx hb dL_law__1629 rfl (lv_at hl 0 rfl) ?_
  refine lv_iload hx hb dL_law__1630 (lv_at hl 4 rfl) ?_
  refine lv_iconst (v := 1) hx hb dL_law__1632 (by decide) ?_
  refine lv_iadd hx hb dL_law__1633 ?_
  refine lv_topi (fun v1 ev1 => ?_)
  have kv1 : (1 : Int32).toInt = 1 := by decide
  have fv1 : v1.toInt = i.toInt + 1 := by rw [ev1]; exact i_addc kv1 (by omega) (by omega)
  refine va_sld (A := fun q => s.heap.size ≤ q) hx hb hX hbl hbA I.S (i_vin (by omega) (by omega)) dL_law__1634 ?_
  refine lv_topi (fun v2 ev2 => ?_)
  refine callV_P (T := TX11) (As := [.int v2]) C I.1 (fun q h1 _ => (I.2.2.2.2.1 q h1).2) (c_X11_count l D G x v2 I.2.1.1) kV_L_282 I.2.1.1 trivial dL_law__1635 hl.1 rfl rfl (by decide) cd_X11_count ⟨Nat.le_of_ble_eq_true rfl, Nat.le_of_ble_eq_true rfl, (by show 450 + 5 * k ≤ 601024; omega), (by show 30000 + 455 * k ≤ 7293034; omega), Nat.le_of_ble_eq_true rfl⟩ (fun v3 q3 => ?_)
  obtain ⟨r3, rfl, q3⟩ := q3
  refine lv_pop hx hb dL_law__1638 rfl ?_
  refine lv_aload_n hx hb dL_law__1639 rfl (lv_at hl 2 rfl) ?_
  refine lv_aload_n hx hb dL_law__1640 rfl (lv_at hl 0 rfl) ?_
  refine lv_iload hx hb dL_law__1641 (lv_at hl 4 rfl) ?_
  refine lv_iconst (v := 1) hx hb dL_law__1643 (by decide) ?_
  refine lv_iadd hx hb dL_law__1644 ?_
  refine lv_topi (fun v4 ev4 => ?_)
  have kv4 : (1 : Int32).toInt = 1 := by decide
  have fv4 : v4.toInt = i.toInt + 1 := by rw [ev4]; exact i_addc kv4 (by omega) (by omega)
  refine va_sld (A := fun q => s.heap.size ≤ q) hx hb hX hbl hbA I.S (i_vin (by omega) (by omega)) dL_law__1645 ?_
  refine lv_topi (fun v5 ev5 => ?_)
  refine l_E (T := TX12) (As := [.int v5]) C I (c_X12_count l D G mo v5 I.2.1.2.1) kV_L_285 I.2.1.2.1 trivial (by decide +kernel) dL_law__1646 hl.1 rfl rfl (by decide) cd_X12_count ⟨Nat.le_of_ble_eq_true rfl, Nat.le_of_ble_eq_true rfl, (by show 450 + 5 * k ≤ 601024; omega), (by show 30000 + 455 * k ≤ 7293034; omega), Nat.le_of_ble_eq_true rfl⟩ (fun v6 H6 L6 I6 K6 q6 => ?_)
  have t6 : tln D H6 x = tln D H x := tlW I.1 I.2.1.1 K6 (by decide +kernel) (by decide +kernel)
  have m6 : (fI D H6 11 mo 9).toInt = (fI D H 11 mo 9).toInt := congrArg Int32.toInt (K6.fI I.2.1.2.1 rfl (by decide) (by decide +kernel))
  have bq6 : BQ D H6 x mo := bq0.keep I.1 I.2.1.1 I.2.1.2.1 (Keep.o K6 o) (by decide +kernel) (by decide +kernel)
  have rq6 : RQ D H6 x := rq0.keep I.1 I.2.1.1 (Keep.o K6 o) (by decide +kernel)
  have a9_6 : (fI D H6 10 x 9).toInt = (fI D H 10 x 9).toInt := ko_x (Keep.o K6 o) I.2.1.1 (by decide) (by decide +kernel)
  have a8_6 : (fI D H6 10 x 8).toInt = (fI D H 10 x 8).toInt := ko_x (Keep.o K6 o) I.2.1.1 (by decide) (by decide +kernel)
  have b4_6 : (fI D H6 11 mo 14).toInt = (fI D H 11 mo 14).toInt := ko_m (Keep.o K6 o) I.2.1.2.1 (by decide) (by decide +kernel)
  have b6_6 : (fI D H6 11 mo 6).toInt = (fI D H 11 mo 6).toInt := ko_m (Keep.o K6 o) I.2.1.2.1 (by decide) (by decide +kernel)
  have rp6 : RP6 D H6 x := rp0.keep I.1 I.2.1.1 (Keep.o K6 o) (by decide +kernel)
  have ci6 := ci0.keep I.1 I.2.1.1 K6 (by decide +kernel)
  have mi6 := mi0.keep I.1 I.2.1.2.1 K6 (by decide +kernel)
  obtain ⟨r6, rfl, q6⟩ := q6
  refine lv_pop hx hb dL_law__1649 rfl ?_
  refine lv_goto (tgt := 1653) hx hb dL_law__1650 (by decide) ?_
  exact W.widen (by show 450 + 5 * k ≤ 450 + 5 * k + 5; omega) (by show 30000 + 455 * k ≤ 30000 + 455 * k + 455; omega) (Fin _ _ _ _ I6 (⟨by unfold tln at *; omega, bq6, rq6, ⟨⟨V, K, ci6, mi6, pv0, fun h9 => pk0 (by omega)⟩, ⟨by omega, by omega⟩, rp6⟩⟩) (lv_sub hl [0, 1, 2, 3, 4] rfl))
