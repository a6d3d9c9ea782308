set_option maxRecDepth 100000 in
set_option maxHeartbeats 4000000 in
theorem c_X11_fault (l : Launch) (D : DD) (G : Nat → Nat) (a0 : Nat) (ga0 : G a0 = 1) : CP l D G yX11_fault cX11_fault 1 (some .int) 0 [.ref a0] (fun _ => True) (pI (fun H r => r.toInt = (fI D H 10 a0 9).toInt)) := by
  refine enter (by decide) (Nat.le_of_ble_eq_true rfl) ?_
  intro p e s m args below meth c ls Q hA hQ C hr hO hpre hl
  have hx := C.1
  have hb := C.2.1
  have hl : lv_has ls 1 [(0, .ref a0)] := hl
  refine lv_aload_n hx hb dX11_fault_0 rfl (lv_at hl 0 rfl) ?_
  refine q_gi (T := TX11) C hO ga0 9 kF_X11_67 dX11_fault_1 rfl rfl (by decide) rfl (by decide) rfl ?_
  exact retP_i hQ C hr dX11_fault_4 (rfl)

set_option maxRecDepth 100000 in
set_option maxHeartbeats 4000000 in
theorem c_X11_hidden (l : Launch) (D : DD) (G : Nat → Nat) (a0 : Nat) (ga0 : G a0 = 1) : CP l D G yX11_hidden cX11_hidden 1 (some .int) 1 [.ref a0] (fun _ => True) (pI (fun H r => True)) := by
  refine enter (by decide) (Nat.le_of_ble_eq_true rfl) ?_
  intro p e s m args below meth c ls Q hA hQ C hr hO hpre hl
  have hx := C.1
  have hb := C.2.1
  have hl : lv_has ls 1 [(0, .ref a0)] := hl
  refine lv_aload_n hx hb dX11_hidden_0 rfl (lv_at hl 0 rfl) ?_
  refine q_gr (T := TX11) C hO ga0 1 kF_X11_19 dX11_hidden_1 rfl rfl (by decide) rfl (by decide) rfl (fun g1 => ?_)
  refine lv_iconst (v := 2) hx hb dX11_hidden_4 (by decide) ?_
  have k_2 : (2 : Int32).toInt = 2 := by decide
  refine callV_Pi C hO (fun _ _ _ => rfl) (c_X5_bitsIn l D G (fR D s.heap 10 a0 1) (2 : Int32) g1) kV_X11_304 g1 (trivial) dX11_hidden_5 hl.1 rfl rfl (by decide) cd_X5_bitsIn ⟨Nat.le_of_ble_eq_true rfl, Nat.le_of_ble_eq_true rfl, Nat.le_of_ble_eq_true rfl, Nat.le_of_ble_eq_true rfl, Nat.le_of_ble_eq_true rfl⟩ (fun v2 q2 => ?_)
  exact retP_i hQ C hr dX11_hidden_8 (trivial)

set_option maxRecDepth 100000 in
set_option maxHeartbeats 4000000 in
theorem c_X11_undo (l : Launch) (D : DD) (G : Nat → Nat) (a0 : Nat) (ga0 : G a0 = 1) : CE l D G yX11_undo cX11_undo 1 (some .boolean) 3 [.ref a0] (fun _ => True) [(7, 0), (7, 1), (7, 2), (7, 3), (7, 4), (8, 0), (8, 1), (8, 2), (8, 3), (8, 4), (8, 5), (11, 0), (9, 1), (9, 2), (4, 3), (4, 4), (4, 5), (4, 6), (4, 7), (4, 8), (4, 9), (4, 10), (4, 11), (4, 12), (4, 13), (16, 1), (16, 2)] (xI (fun H r H1 => (0 ≤ r.toInt ∧ r.toInt ≤ 1) ∧ (∀ Vv Kv : Sg, CI D H a0 Vv Kv → CI D H1 a0 Vv Kv))) := by
  refine enter (by decide) (Nat.le_of_ble_eq_true rfl) ?_
  intro p e s m args below meth c ls Q hA hQ C hr hO hpre hl
  have hx := C.1
  have hb := C.2.1
  have S : Sd D G [(7, 0), (7, 1), (7, 2), (7, 3), (7, 4), (8, 0), (8, 1), (8, 2), (8, 3), (8, 4), (8, 5), (11, 0), (9, 1), (9, 2), (4, 3), (4, 4), (4, 5), (4, 6), (4, 7), (4, 8), (4, 9), (4, 10), (4, 11), (4, 12), (4, 13), (16, 1), (16, 2)] s.heap s.heap [] := Sd.start hO
  have hl : lv_has ls 1 [(0, .ref a0)] := hl
  have rk0 : ∀ Vv Kv : Sg, CI D s.heap a0 Vv Kv → CI D s.heap a0 Vv Kv := fun Vv Kv hv => hv
  refine lv_aload_n hx hb dX11_undo_0 rfl (lv_at hl 0 rfl) ?_
  refine q_gr (T := TX11) C S.1 ga0 4 kF_X11_32 dX11_undo_1 rfl rfl (by decide) rfl (by decide) rfl (fun g1 => ?_)
  refine lv_aload_n hx hb dX11_undo_4 rfl (lv_at hl 0 rfl) ?_
  refine q_gr (T := TX11) C S.1 ga0 1 kF_X11_19 dX11_undo_5 rfl rfl (by decide) rfl (by decide) rfl (fun g2 => ?_)
  refine callV_Ei C S (c_X7_recall l D G (fR D s.heap 10 a0 4) (fR D s.heap 10 a0 1) g1 g2) kV_X11_334 g1 (trivial) (by decide +kernel) dX11_undo_8 hl.1 rfl rfl (by decide) cd_X7_recall ⟨Nat.le_of_ble_eq_true rfl, Nat.le_of_ble_eq_true rfl, Nat.le_of_ble_eq_true rfl, Nat.le_of_ble_eq_true rfl, Nat.le_of_ble_eq_true rfl⟩ (fun v3 H3 L3 S3 K3 q3 => ?_)
  have rk3 : ∀ Vv Kv : Sg, CI D s.heap a0 Vv Kv → CI D H3 a0 Vv Kv := fun Vv Kv hv => (rk0 Vv Kv hv).recall S.1 ga0 K3 q3
  have qz : 0 ≤ v3.toInt ∧ v3.toInt ≤ 1 := q3.elim (fun h => ⟨by have := h.1; omega, by have := h.1; omega⟩) (fun h => ⟨by have := h.1; omega, by have := h.1; omega⟩)
  exact retE_z hQ C S3 hr dX11_undo_11 (z01 (by omega) (by omega)) (⟨by omega, rk3⟩)

set_option maxRecDepth 100000 in
set_option maxHeartbeats 4000000 in
theorem c_X11_seed (l : Launch) (D : DD) (G : Nat → Nat) (a0 : Nat) (x1 : Int32) (ga0 : G a0 = 1) : CE l D G yX11_seed cX11_seed 3 (some .int) 0 [.ref a0, .int x1] (fun _ => True) [(4, 12)] (xI (fun H r H1 => True)) := by
  refine enter (by decide) (Nat.le_of_ble_eq_true rfl) ?_
  intro p e s m args below meth c ls Q hA hQ C hr hO hpre hl
  have hx := C.1
  have hb := C.2.1
  have S : Sd D G [(4, 12)] s.heap s.heap [] := Sd.start hO
  have hl : lv_has ls 3 [(0, .ref a0), (1, .int x1)] := hl
  refine lv_aload_n hx hb dX11_seed_0 rfl (lv_at hl 0 rfl) ?_
  refine q_gr (T := TX11) C S.1 ga0 1 kF_X11_19 dX11_seed_1 rfl rfl (by decide) rfl (by decide) rfl (fun g1 => ?_)
  refine q_gi (T := TX5) C S.1 g1 12 kF_X11_310 dX11_seed_4 rfl rfl (by decide) rfl (by decide) rfl ?_
  refine lv_istore_n (lv' := [(2, .int (fI D s.heap 5 (fR D s.heap 10 a0 1) 12)), (0, .ref a0), (1, .int x1)]) hx hb dX11_seed_7 rfl hl (by decide) rfl (fun ls hl => ?_)
  refine lv_aload_n hx hb dX11_seed_8 rfl (lv_at hl 1 rfl) ?_
  refine q_gr (T := TX11) C S.1 ga0 1 kF_X11_19 dX11_seed_9 rfl rfl (by decide) rfl (by decide) rfl (fun g2 => ?_)
  refine lv_iload_n hx hb dX11_seed_12 rfl (lv_at hl 2 rfl) ?_
  refine q_put (T := TX5) C S g2 12 kF_X11_310 dX11_seed_13 rfl rfl (by decide) (by decide) rfl rfl rfl rfl rfl (vok_a rfl) (by decide +kernel) (fun H3 L3 S3 P3 => ?_)
  refine lv_iload_n hx hb dX11_seed_16 rfl (lv_at hl 0 rfl) ?_
  exact retE_i hQ C S3 hr dX11_seed_17 (trivial)

set_option maxRecDepth 100000 in
set_option maxHeartbeats 4000000 in
theorem c_X11_end (l : Launch) (D : DD) (G : Nat → Nat) (a0 : Nat) (x1 : Int32) (ga0 : G a0 = 1) : CE l D G yX11_end cX11_end 2 (some .boolean) 0 [.ref a0, .int x1] (fun _ => True) [(2, 1)] (xI (fun H r H1 => (r.toInt = 1 ∧ 0 ≤ x1.toInt ∧ x1.toInt ≤ (fI D H 9 (fR D H 10 a0 0) 1).toInt ∧ (fI D H1 9 (fR D H1 10 a0 0) 1).toInt = x1.toInt) ∨ (r.toInt = 0 ∧ (x1.toInt < 0 ∨ (fI D H 9 (fR D H 10 a0 0) 1).toInt < x1.toInt) ∧ (fI D H1 9 (fR D H1 10 a0 0) 1).toInt = (fI D H 9 (fR D H 10 a0 0) 1).toInt))) := by
  refine enter (by decide) (Nat.le_of_ble_eq_true rfl) ?_
  intro p e s m args below meth c ls Q hA hQ C hr hO hpre hl
  have hx := C.1
  have hb := C.2.1
  have S : Sd D G [(2, 1)] s.heap s.heap [] := Sd.start hO
  have hl : lv_has ls 2 [(0, .ref a0), (1, .int x1)] := hl
  refine lv_iload_n hx hb dX11_end_0 rfl (lv_at hl 1 rfl) ?_
  have k_0 : (0 : Int32).toInt = 0 := by decide
  refine lv_if_lt (tgt := 15) hx hb dX11_end_1 (by decide) (fun c1 => ?_) (fun c1 => ?_)
  · have b1 : x1.toInt < (0 : Int32).toInt := i_lt.mp c1
    refine lv_iconst (v := 0) hx hb dX11_end_15 (by decide) ?_
    exact retE_z hQ C S hr dX11_end_16 (z01 (by omega) (by omega)) (by omega)
  · have b1 : ¬ x1.toInt < (0 : Int32).toInt := fun z9 => c1 (i_lt.mpr z9)
    refine lv_iload_n hx hb dX11_end_4 rfl (lv_at hl 1 rfl) ?_
    refine lv_aload_n hx hb dX11_end_5 rfl (lv_at hl 0 rfl) ?_
    refine q_gr (T := TX11) C S.1 ga0 0 kF_X11_10 dX11_end_6 rfl rfl (by decide) rfl (by decide) rfl (fun g2 => ?_)
    refine q_gi (T := TX9) C S.1 g2 1 kF_X11_71 dX11_end_9 rfl rfl (by decide) rfl (by decide) rfl ?_
    have r3 : 0 ≤ (fI D s.heap 9 (fR D s.heap 10 a0 0) 1).toInt ∧ (fI D s.heap 9 (fR D s.heap 10 a0 0) 1).toInt ≤ 400 := S.1.rng g2 rfl (by decide) rfl
    have r5 := i_rng x1
    refine lv_icmp_le (tgt := 17) hx hb dX11_end_12 (by decide) (fun c4 => ?_) (fun c4 => ?_)
    · have b4 : x1.toInt ≤ (fI D s.heap 9 (fR D s.heap 10 a0 0) 1).toInt := i_le.mp c4
      refine lv_aload_n hx hb dX11_end_17 rfl (lv_at hl 0 rfl) ?_
      refine q_gr (T := TX11) C S.1 ga0 0 kF_X11_10 dX11_end_18 rfl rfl (by decide) rfl (by decide) rfl (fun g6 => ?_)
      refine lv_iload_n hx hb dX11_end_21 rfl (lv_at hl 1 rfl) ?_
      refine q_put (T := TX9) C S g6 1 kF_X11_71 dX11_end_22 rfl rfl (by decide) (by decide) rfl rfl rfl rfl rfl (vok_i rfl (by omega) (by omega)) (by decide +kernel) (fun H7 L7 S7 P7 => ?_)
      refine lv_iconst (v := 1) hx hb dX11_end_25 (by decide) ?_
      have k_1 : (1 : Int32).toInt = 1 := by decide
      exact retE_z hQ C S7 hr dX11_end_26 (z01 (by omega) (by omega)) (by rw [S7.2.1.fR ga0 rfl (by decide) (by decide), Pt.i P7]; omega)
    · have b4 : ¬ x1.toInt ≤ (fI D s.heap 9 (fR D s.heap 10 a0 0) 1).toInt := fun z9 => c4 (i_le.mpr z9)
      refine lv_iconst (v := 0) hx hb dX11_end_15 (by decide) ?_
      exact retE_z hQ C S hr dX11_end_16 (z01 (by omega) (by omega)) (by omega)

set_option maxRecDepth 100000 in
set_option maxHeartbeats 4000000 in
theorem c_X11_feed (l : Launch) (D : DD) (G : Nat → Nat) (a0 : Nat) (x1 : Int32) (x2 : Int32) (x3 : Int32) (x4 : Int32) (x5 : Int32) (ga0 : G a0 = 1) : CE l D G yX11_feed cX11_feed 6 (some .int) 1 [.ref a0, .int x1, .int x2, .int x3, .int x4, .int x5] (fun _ => True) [(2, 1), (3, 0)] (xI (fun H r H1 => ((fI D H 9 (fR D H 10 a0 0) 1).toInt ≤ 380 ∧ r.toInt = (fI D H 9 (fR D H 10 a0 0) 1).toInt + 20 ∧ (fI D H1 9 (fR D H1 10 a0 0) 1).toInt = (fI D H 9 (fR D H 10 a0 0) 1).toInt + 20) ∨ (380 < (fI D H 9 (fR D H 10 a0 0) 1).toInt ∧ r.toInt = -1 ∧ (fI D H1 9 (fR D H1 10 a0 0) 1).toInt = (fI D H 9 (fR D H 10 a0 0) 1).toInt))) := by
  refine enter (by decide) (Nat.le_of_ble_eq_true rfl) ?_
  intro p e s m args below meth c ls Q hA hQ C hr hO hpre hl
  have hx := C.1
  have hb := C.2.1
  have S : Sd D G [(2, 1), (3, 0)] s.heap s.heap [] := Sd.start hO
  have hl : lv_has ls 6 [(0, .ref a0), (1, .int x1), (2, .int x2), (3, .int x3), (4, .int x4), (5, .int x5)] := hl
  refine lv_aload_n hx hb dX11_feed_0 rfl (lv_at hl 0 rfl) ?_
  refine q_gr (T := TX11) C S.1 ga0 0 kF_X11_10 dX11_feed_1 rfl rfl (by decide) rfl (by decide) rfl (fun g1 => ?_)
  refine q_gi (T := TX9) C S.1 g1 1 kF_X11_71 dX11_feed_4 rfl rfl (by decide) rfl (by decide) rfl ?_
  have r2 : 0 ≤ (fI D s.heap 9 (fR D s.heap 10 a0 0) 1).toInt ∧ (fI D s.heap 9 (fR D s.heap 10 a0 0) 1).toInt ≤ 400 := S.1.rng g1 rfl (by decide) rfl
  refine lv_bipush (v := 20) hx hb dX11_feed_7 (by decide) ?_
  have k_20 : (20 : Int32).toInt = 20 := by decide
  refine lv_iadd hx hb dX11_feed_9 ?_
  refine lv_topi (fun v3 ev3 => ?_)
  have f4 : v3.toInt = (fI D s.heap 9 (fR D s.heap 10 a0 0) 1).toInt + (20 : Int32).toInt := by rw [ev3]; exact i_add (by omega) (by omega)
  refine lv_sipush (v := 400) hx hb dX11_feed_10 (by decide) ?_
  have k_400 : (400 : Int32).toInt = 400 := by decide
  refine lv_icmp_le (tgt := 18) hx hb dX11_feed_13 (by decide) (fun c5 => ?_) (fun c5 => ?_)
  · have b5 : v3.toInt ≤ (400 : Int32).toInt := i_le.mp c5
    refine lv_aload_n hx hb dX11_feed_18 rfl (lv_at hl 0 rfl) ?_
    refine q_gr (T := TX11) C S.1 ga0 0 kF_X11_10 dX11_feed_19 rfl rfl (by decide) rfl (by decide) rfl (fun g6 => ?_)
    refine lv_iload_n hx hb dX11_feed_22 rfl (lv_at hl 1 rfl) ?_
    refine callV_Ev C S (c_X9_put l D G (fR D s.heap 10 a0 0) x1 g6) kV_X11_74 g6 (trivial) (by decide +kernel) dX11_feed_23 hl.1 rfl rfl (by decide) cd_X9_put ⟨Nat.le_of_ble_eq_true rfl, Nat.le_of_ble_eq_true rfl, Nat.le_of_ble_eq_true rfl, Nat.le_of_ble_eq_true rfl, Nat.le_of_ble_eq_true rfl⟩ (fun H7 L7 S7 K7 q7 => ?_)
    have q23 := q7
    have t23 : fR D H7 10 a0 0 = fR D s.heap 10 a0 0 := S7.2.1.fR ga0 rfl (by decide) (by decide)
    refine lv_aload_n hx hb dX11_feed_26 rfl (lv_at hl 0 rfl) ?_
    refine q_gr (T := TX11) C S7.1 ga0 0 kF_X11_10 dX11_feed_27 rfl rfl (by decide) rfl (by decide) rfl (fun g8 => ?_)
    refine lv_iload_n hx hb dX11_feed_30 rfl (lv_at hl 2 rfl) ?_
    refine callV_Ev C S7 (c_X9_put l D G (fR D H7 10 a0 0) x2 g8) kV_X11_74 g8 (trivial) (by decide +kernel) dX11_feed_31 hl.1 rfl rfl (by decide) cd_X9_put ⟨Nat.le_of_ble_eq_true rfl, Nat.le_of_ble_eq_true rfl, Nat.le_of_ble_eq_true rfl, Nat.le_of_ble_eq_true rfl, Nat.le_of_ble_eq_true rfl⟩ (fun H9 L9 S9 K9 q9 => ?_)
    have q31 := q9
    rw [t23] at q31
    have t31 : fR D H9 10 a0 0 = fR D s.heap 10 a0 0 := S9.2.1.fR ga0 rfl (by decide) (by decide)
    refine lv_aload_n hx hb dX11_feed_34 rfl (lv_at hl 0 rfl) ?_
    refine q_gr (T := TX11) C S9.1 ga0 0 kF_X11_10 dX11_feed_35 rfl rfl (by decide) rfl (by decide) rfl (fun g10 => ?_)
    refine lv_iload_n hx hb dX11_feed_38 rfl (lv_at hl 3 rfl) ?_
    refine callV_Ev C S9 (c_X9_put l D G (fR D H9 10 a0 0) x3 g10) kV_X11_74 g10 (trivial) (by decide +kernel) dX11_feed_39 hl.1 rfl rfl (by decide) cd_X9_put ⟨Nat.le_of_ble_eq_true rfl, Nat.le_of_ble_eq_true rfl, Nat.le_of_ble_eq_true rfl, Nat.le_of_ble_eq_true rfl, Nat.le_of_ble_eq_true rfl⟩ (fun H11 L11 S11 K11 q11 => ?_)
    have q39 := q11
    rw [t31] at q39
    have t39 : fR D H11 10 a0 0 = fR D s.heap 10 a0 0 := S11.2.1.fR ga0 rfl (by decide) (by decide)
    refine lv_aload_n hx hb dX11_feed_42 rfl (lv_at hl 0 rfl) ?_
    refine q_gr (T := TX11) C S11.1 ga0 0 kF_X11_10 dX11_feed_43 rfl rfl (by decide) rfl (by decide) rfl (fun g12 => ?_)
    refine lv_iload hx hb dX11_feed_46 (lv_at hl 4 rfl) ?_
    refine callV_Ev C S11 (c_X9_put l D G (fR D H11 10 a0 0) x4 g12) kV_X11_74 g12 (trivial) (by decide +kernel) dX11_feed_48 hl.1 rfl rfl (by decide) cd_X9_put ⟨Nat.le_of_ble_eq_true rfl, Nat.le_of_ble_eq_true rfl, Nat.le_of_ble_eq_true rfl, Nat.le_of_ble_eq_true rfl, Nat.le_of_ble_eq_true rfl⟩ (fun H13 L13 S13 K13 q13 => ?_)
    have q48 := q13
    rw [t39] at q48
    have t48 : fR D H13 10 a0 0 = fR D s.heap 10 a0 0 := S13.2.1.fR ga0 rfl (by decide) (by decide)
    refine lv_aload_n hx hb dX11_feed_51 rfl (lv_at hl 0 rfl) ?_
    refine q_gr (T := TX11) C S13.1 ga0 0 kF_X11_10 dX11_feed_52 rfl rfl (by decide) rfl (by decide) rfl (fun g14 => ?_)
    refine lv_iload hx hb dX11_feed_55 (lv_at hl 5 rfl) ?_
    refine callV_Ev C S13 (c_X9_put l D G (fR D H13 10 a0 0) x5 g14) kV_X11_74 g14 (trivial) (by decide +kernel) dX11_feed_57 hl.1 rfl rfl (by decide) cd_X9_put ⟨Nat.le_of_ble_eq_true rfl, Nat.le_of_ble_eq_true rfl, Nat.le_of_ble_eq_true rfl, Nat.le_of_ble_eq_true rfl, Nat.le_of_ble_eq_true rfl⟩ (fun H15 L15 S15 K15 q15 => ?_)
    have q57 := q15
    rw [t48] at q57
    have t57 : fR D H15 10 a0 0 = fR D s.heap 10 a0 0 := S15.2.1.fR ga0 rfl (by decide) (by decide)
    refine lv_aload_n hx hb dX11_feed_60 rfl (lv_at hl 0 rfl) ?_
    refine q_gr (T := TX11) C S15.1 ga0 0 kF_X11_10 dX11_feed_61 rfl rfl (by decide) rfl (by decide) rfl (fun g16 => ?_)
    refine q_gi (T := TX9) C S15.1 g16 1 kF_X11_71 dX11_feed_64 rfl rfl (by decide) rfl (by decide) rfl ?_
    have r17 : 0 ≤ (fI D H15 9 (fR D H15 10 a0 0) 1).toInt ∧ (fI D H15 9 (fR D H15 10 a0 0) 1).toInt ≤ 400 := S15.1.rng g16 rfl (by decide) rfl
    exact retE_i hQ C S15 hr dX11_feed_67 (by rw [t57]; omega)
  · have b5 : ¬ v3.toInt ≤ (400 : Int32).toInt := fun z9 => c5 (i_le.mpr z9)
    refine lv_iconst (v := -1) hx hb dX11_feed_16 (by decide) ?_
    have k_m1 : (-1 : Int32).toInt = -1 := by decide
    exact retE_i hQ C S hr dX11_feed_17 (by omega)

set_option maxRecDepth 100000 in
set_option maxHeartbeats 4000000 in
theorem c_X11_towers (l : Launch) (D : DD) (G : Nat → Nat) (a0 : Nat) (ga0 : G a0 = 1) : CP l D G yX11_towers cX11_towers 4 (some .int) 2 [.ref a0] (fun _ => True) (pI (fun H r => True)) := by
  refine enter (by decide) (Nat.le_of_ble_eq_true rfl) ?_
  intro p e s m args below meth c ls Q hA hQ C hr hO hpre hl
  have hx := C.1
  have hb := C.2.1
  have hl : lv_has ls 4 [(0, .ref a0)] := hl
  refine lv_iconst (v := -1) hx hb dX11_towers_0 (by decide) ?_
  refine lv_istore_n (lv' := [(1, .int (-1 : Int32)), (0, .ref a0)]) hx hb dX11_towers_1 rfl hl (by decide) rfl (fun ls hl => ?_)
  refine lv_iconst (v := 0) hx hb dX11_towers_2 (by decide) ?_
  refine lv_istore_n (lv' := [(2, .int (0 : Int32)), (1, .int (-1 : Int32)), (0, .ref a0)]) hx hb dX11_towers_3 rfl hl (by decide) rfl (fun ls hl => ?_)
  have Lp4 : ∀ (n : Nat) (x2_4 : Int32) (x1_4 : Int32) (ls : Array Slot), (0 ≤ x2_4.toInt ∧ x2_4.toInt ≤ 2147483647) → 2147483648 - x2_4.toInt ≤ (n : Int) → lv_has ls 4 [(2, .int x2_4), (1, .int x1_4), (0, .ref a0)] → W p l e (rmU 2 0 0) s m args below meth c s.heap [] 0 0 Q (F0 m 4 ls []) := by
    intro n
    induction n with
    | zero =>
      intro x2_4 x1_4 ls j4_0 hn hl
      exact absurd hn (by omega)
    | succ n ih4 =>
      intro x2_4 x1_4 ls j4_0 hn hl
      refine lv_iload_n hx hb dX11_towers_4 rfl (lv_at hl 0 rfl) ?_
      refine lv_bipush (v := 32) hx hb dX11_towers_5 (by decide) ?_
      have k_32 : (32 : Int32).toInt = 32 := by decide
      refine lv_icmp_ge (tgt := 55) hx hb dX11_towers_7 (by decide) (fun c1 => ?_) (fun c1 => ?_)
      · have b1 : (32 : Int32).toInt ≤ x2_4.toInt := i_le.mp c1
        refine lv_iload_n hx hb dX11_towers_55 rfl (lv_at hl 1 rfl) ?_
        exact retP_i hQ C hr dX11_towers_56 (trivial)
      · have b1 : ¬ (32 : Int32).toInt ≤ x2_4.toInt := fun z9 => c1 (i_le.mpr z9)
        refine lv_iload_n hx hb dX11_towers_10 rfl (lv_at hl 1 rfl) ?_
        refine lv_iconst (v := -1) hx hb dX11_towers_11 (by decide) ?_
        have k_m1 : (-1 : Int32).toInt = -1 := by decide
        refine lv_icmp_eq (tgt := 26) hx hb dX11_towers_12 (by decide) (fun c2 => ?_) (fun c2 => ?_)
        · have b2 : x1_4.toInt = (-1 : Int32).toInt := i_eq.mp c2
          refine lv_iconst (v := 1) hx hb dX11_towers_26 (by decide) ?_
          refine lv_goto (tgt := 31) hx hb dX11_towers_27 (by decide) ?_
          refine lv_istore_n (lv' := [(3, .int (1 : Int32)), (2, .int x2_4), (1, .int x1_4), (0, .ref a0)]) hx hb dX11_towers_31 rfl hl (by decide) rfl (fun ls hl => ?_)
          refine lv_iload_n hx hb dX11_towers_32 rfl (lv_at hl 0 rfl) ?_
          have k_1 : (1 : Int32).toInt = 1 := by decide
          have k_0 : (0 : Int32).toInt = 0 := by decide
          refine lv_if_eq (tgt := 49) hx hb dX11_towers_33 (by decide) (fun c3 => ?_) (fun c3 => ?_)
          · have b3 : (1 : Int32).toInt = (0 : Int32).toInt := i_eq.mp c3
            exact absurd b3 (by omega)
          · have b3 : ¬ (1 : Int32).toInt = (0 : Int32).toInt := fun z9 => c3 (i_eq.mpr z9)
            refine lv_aload_n hx hb dX11_towers_36 rfl (lv_at hl 3 rfl) ?_
            refine q_gr (T := TX11) C hO ga0 1 kF_X11_19 dX11_towers_37 rfl rfl (by decide) rfl (by decide) rfl (fun g4 => ?_)
            refine lv_iload_n hx hb dX11_towers_40 rfl (lv_at hl 1 rfl) ?_
            refine callV_Pi C hO (fun _ _ _ => rfl) (c_X5_isSeenFrom l D G (fR D s.heap 10 a0 1) x2_4 g4) kV_X11_255 g4 (trivial) dX11_towers_41 hl.1 rfl rfl (by decide) cd_X5_isSeenFrom ⟨Nat.le_of_ble_eq_true rfl, Nat.le_of_ble_eq_true rfl, Nat.le_of_ble_eq_true rfl, Nat.le_of_ble_eq_true rfl, Nat.le_of_ble_eq_true rfl⟩ (fun v5 q5 => ?_)
            refine lv_if_eq (tgt := 49) hx hb dX11_towers_44 (by decide) (fun c6 => ?_) (fun c6 => ?_)
            · have b6 : v5.toInt = (0 : Int32).toInt := i_eq.mp c6
              obtain ⟨v7, ev7⟩ : ∃ y : Int32, y = x2_4 + (1) := ⟨_, rfl⟩
              have f8 : v7.toInt = x2_4.toInt + (1) := by rw [ev7]; exact i_addc k_1 (by omega) (by omega)
              refine lv_iinc (v := v7) (lv' := [(2, .int v7), (3, .int (1 : Int32)), (1, .int x1_4), (0, .ref a0)]) hx hb dX11_towers_49 hl (k := 1) rfl (by rw [ev7]; rfl) (by decide) rfl (fun ls hl => ?_)
              refine lv_goto (tgt := 4) hx hb dX11_towers_52 (by decide) ?_
              exact ih4 v7 x1_4 ls (by omega) (by omega) (lv_sub hl [0, 2, 3] rfl)
            · have b6 : ¬ v5.toInt = (0 : Int32).toInt := fun z9 => c6 (i_eq.mpr z9)
              refine lv_iload_n hx hb dX11_towers_47 rfl (lv_at hl 1 rfl) ?_
              refine lv_istore_n (lv' := [(1, .int x2_4), (3, .int (1 : Int32)), (2, .int x2_4), (0, .ref a0)]) hx hb dX11_towers_48 rfl hl (by decide) rfl (fun ls hl => ?_)
              obtain ⟨v9, ev9⟩ : ∃ y : Int32, y = x2_4 + (1) := ⟨_, rfl⟩
              have f10 : v9.toInt = x2_4.toInt + (1) := by rw [ev9]; exact i_addc k_1 (by omega) (by omega)
              refine lv_iinc (v := v9) (lv' := [(2, .int v9), (1, .int x2_4), (3, .int (1 : Int32)), (0, .ref a0)]) hx hb dX11_towers_49 hl (k := 2) rfl (by rw [ev9]; rfl) (by decide) rfl (fun ls hl => ?_)
              refine lv_goto (tgt := 4) hx hb dX11_towers_52 (by decide) ?_
              exact ih4 v9 x2_4 ls (by omega) (by omega) (lv_sub hl [0, 1, 3] rfl)
        · have b2 : ¬ x1_4.toInt = (-1 : Int32).toInt := fun z9 => c2 (i_eq.mpr z9)
          refine lv_iload_n hx hb dX11_towers_15 rfl (lv_at hl 0 rfl) ?_
          refine callS_Pi C hO (fun _ _ _ => rfl) (c_J6_bitCount_0f7a4 l D G x2_4) kS_X11_250 (trivial) dX11_towers_16 hl.1 cd_J6_bitCount_0f7a4 ⟨Nat.le_of_ble_eq_true rfl, Nat.le_of_ble_eq_true rfl, Nat.le_of_ble_eq_true rfl, Nat.le_of_ble_eq_true rfl, Nat.le_of_ble_eq_true rfl⟩ (fun v11 q11 => ?_)
          refine lv_iload_n hx hb dX11_towers_19 rfl (lv_at hl 1 rfl) ?_
          refine callS_Pi C hO (fun _ _ _ => rfl) (c_J6_bitCount_0f7a4 l D G x1_4) kS_X11_250 (trivial) dX11_towers_20 hl.1 cd_J6_bitCount_0f7a4 ⟨Nat.le_of_ble_eq_true rfl, Nat.le_of_ble_eq_true rfl, Nat.le_of_ble_eq_true rfl, Nat.le_of_ble_eq_true rfl, Nat.le_of_ble_eq_true rfl⟩ (fun v12 q12 => ?_)
          refine lv_icmp_ge (tgt := 30) hx hb dX11_towers_23 (by decide) (fun c13 => ?_) (fun c13 => ?_)
          · have b13 : v12.toInt ≤ v11.toInt := i_le.mp c13
            refine lv_iconst (v := 0) hx hb dX11_towers_30 (by decide) ?_
            refine lv_istore_n (lv' := [(3, .int (0 : Int32)), (2, .int x2_4), (1, .int x1_4), (0, .ref a0)]) hx hb dX11_towers_31 rfl hl (by decide) rfl (fun ls hl => ?_)
            refine lv_iload_n hx hb dX11_towers_32 rfl (lv_at hl 0 rfl) ?_
            have k_0 : (0 : Int32).toInt = 0 := by decide
            refine lv_if_eq (tgt := 49) hx hb dX11_towers_33 (by decide) (fun c14 => ?_) (fun c14 => ?_)
            · have b14 : (0 : Int32).toInt = (0 : Int32).toInt := i_eq.mp c14
              obtain ⟨v15, ev15⟩ : ∃ y : Int32, y = x2_4 + (1) := ⟨_, rfl⟩
              have k_1 : (1 : Int32).toInt = 1 := by decide
              have f16 : v15.toInt = x2_4.toInt + (1) := by rw [ev15]; exact i_addc k_1 (by omega) (by omega)
              refine lv_iinc (v := v15) (lv' := [(2, .int v15), (3, .int (0 : Int32)), (1, .int x1_4), (0, .ref a0)]) hx hb dX11_towers_49 hl (k := 1) rfl (by rw [ev15]; rfl) (by decide) rfl (fun ls hl => ?_)
              refine lv_goto (tgt := 4) hx hb dX11_towers_52 (by decide) ?_
              exact ih4 v15 x1_4 ls (by omega) (by omega) (lv_sub hl [0, 2, 3] rfl)
            · have b14 : ¬ (0 : Int32).toInt = (0 : Int32).toInt := fun z9 => c14 (i_eq.mpr z9)
              exact absurd b14 (by omega)
          · have b13 : ¬ v12.toInt ≤ v11.toInt := fun z9 => c13 (i_le.mpr z9)
            refine lv_iconst (v := 1) hx hb dX11_towers_26 (by decide) ?_
            refine lv_goto (tgt := 31) hx hb dX11_towers_27 (by decide) ?_
            refine lv_istore_n (lv' := [(3, .int (1 : Int32)), (2, .int x2_4), (1, .int x1_4), (0, .ref a0)]) hx hb dX11_towers_31 rfl hl (by decide) rfl (fun ls hl => ?_)
            refine lv_iload_n hx hb dX11_towers_32 rfl (lv_at hl 0 rfl) ?_
            have k_1 : (1 : Int32).toInt = 1 := by decide
            have k_0 : (0 : Int32).toInt = 0 := by decide
            refine lv_if_eq (tgt := 49) hx hb dX11_towers_33 (by decide) (fun c17 => ?_) (fun c17 => ?_)
            · have b17 : (1 : Int32).toInt = (0 : Int32).toInt := i_eq.mp c17
              exact absurd b17 (by omega)
            · have b17 : ¬ (1 : Int32).toInt = (0 : Int32).toInt := fun z9 => c17 (i_eq.mpr z9)
              refine lv_aload_n hx hb dX11_towers_36 rfl (lv_at hl 3 rfl) ?_
              refine q_gr (T := TX11) C hO ga0 1 kF_X11_19 dX11_towers_37 rfl rfl (by decide) rfl (by decide) rfl (fun g18 => ?_)
              refine lv_iload_n hx hb dX11_towers_40 rfl (lv_at hl 1 rfl) ?_
              refine callV_Pi C hO (fun _ _ _ => rfl) (c_X5_isSeenFrom l D G (fR D s.heap 10 a0 1) x2_4 g18) kV_X11_255 g18 (trivial) dX11_towers_41 hl.1 rfl rfl (by decide) cd_X5_isSeenFrom ⟨Nat.le_of_ble_eq_true rfl, Nat.le_of_ble_eq_true rfl, Nat.le_of_ble_eq_true rfl, Nat.le_of_ble_eq_true rfl, Nat.le_of_ble_eq_true rfl⟩ (fun v19 q19 => ?_)
              refine lv_if_eq (tgt := 49) hx hb dX11_towers_44 (by decide) (fun c20 => ?_) (fun c20 => ?_)
              · have b20 : v19.toInt = (0 : Int32).toInt := i_eq.mp c20
                obtain ⟨v21, ev21⟩ : ∃ y : Int32, y = x2_4 + (1) := ⟨_, rfl⟩
                have f22 : v21.toInt = x2_4.toInt + (1) := by rw [ev21]; exact i_addc k_1 (by omega) (by omega)
                refine lv_iinc (v := v21) (lv' := [(2, .int v21), (3, .int (1 : Int32)), (1, .int x1_4), (0, .ref a0)]) hx hb dX11_towers_49 hl (k := 1) rfl (by rw [ev21]; rfl) (by decide) rfl (fun ls hl => ?_)
                refine lv_goto (tgt := 4) hx hb dX11_towers_52 (by decide) ?_
                exact ih4 v21 x1_4 ls (by omega) (by omega) (lv_sub hl [0, 2, 3] rfl)
              · have b20 : ¬ v19.toInt = (0 : Int32).toInt := fun z9 => c20 (i_eq.mpr z9)
                refine lv_iload_n hx hb dX11_towers_47 rfl (lv_at hl 1 rfl) ?_
                refine lv_istore_n (lv' := [(1, .int x2_4), (3, .int (1 : Int32)), (2, .int x2_4), (0, .ref a0)]) hx hb dX11_towers_48 rfl hl (by decide) rfl (fun ls hl => ?_)
                obtain ⟨v23, ev23⟩ : ∃ y : Int32, y = x2_4 + (1) := ⟨_, rfl⟩
                have f24 : v23.toInt = x2_4.toInt + (1) := by rw [ev23]; exact i_addc k_1 (by omega) (by omega)
                refine lv_iinc (v := v23) (lv' := [(2, .int v23), (1, .int x2_4), (3, .int (1 : Int32)), (0, .ref a0)]) hx hb dX11_towers_49 hl (k := 2) rfl (by rw [ev23]; rfl) (by decide) rfl (fun ls hl => ?_)
                refine lv_goto (tgt := 4) hx hb dX11_towers_52 (by decide) ?_
                exact ih4 v23 x2_4 ls (by omega) (by omega) (lv_sub hl [0, 1, 3] rfl)
  have k_0 : (0 : Int32).toInt = 0 := by decide
  have k_m1 : (-1 : Int32).toInt = -1 := by decide
  exact Lp4 2147483648 (0 : Int32) (-1 : Int32) ls (by omega)  (by omega) (lv_sub hl [0, 1, 2] rfl)

set_option maxRecDepth 100000 in
set_option maxHeartbeats 4000000 in
theorem c_X11_coldest (l : Launch) (D : DD) (G : Nat → Nat) (a0 : Nat) (ga0 : G a0 = 1) : CP l D G yX11_coldest cX11_coldest 5 (some .int) 1 [.ref a0] (fun _ => True) (pI (fun H r => True)) := by
  refine enter (by decide) (Nat.le_of_ble_eq_true rfl) ?_
  intro p e s m args below meth c ls Q hA hQ C hr hO hpre hl
  have hx := C.1
  have hb := C.2.1
  have hl : lv_has ls 5 [(0, .ref a0)] := hl
  refine lv_iconst (v := -1) hx hb dX11_coldest_0 (by decide) ?_
  refine lv_istore_n (lv' := [(1, .int (-1 : Int32)), (0, .ref a0)]) hx hb dX11_coldest_1 rfl hl (by decide) rfl (fun ls hl => ?_)
  refine lv_iconst (v := 0) hx hb dX11_coldest_2 (by decide) ?_
  refine lv_istore_n (lv' := [(2, .int (0 : Int32)), (1, .int (-1 : Int32)), (0, .ref a0)]) hx hb dX11_coldest_3 rfl hl (by decide) rfl (fun ls hl => ?_)
  refine lv_iconst (v := 0) hx hb dX11_coldest_4 (by decide) ?_
  refine lv_istore_n (lv' := [(3, .int (0 : Int32)), (2, .int (0 : Int32)), (1, .int (-1 : Int32)), (0, .ref a0)]) hx hb dX11_coldest_5 rfl hl (by decide) rfl (fun ls hl => ?_)
  have Lp6 : ∀ (n : Nat) (x3_6 : Int32) (x2_6 : Int32) (x1_6 : Int32) (ls : Array Slot), (0 ≤ x3_6.toInt ∧ x3_6.toInt ≤ 2147483647) → 2147483648 - x3_6.toInt ≤ (n : Int) → lv_has ls 5 [(3, .int x3_6), (2, .int x2_6), (1, .int x1_6), (0, .ref a0)] → W p l e (rmU 1 0 0) s m args below meth c s.heap [] 0 0 Q (F0 m 6 ls []) := by
    intro n
    induction n with
    | zero =>
      intro x3_6 x2_6 x1_6 ls j6_0 hn hl
      exact absurd hn (by omega)
    | succ n ih6 =>
      intro x3_6 x2_6 x1_6 ls j6_0 hn hl
      refine lv_iload_n hx hb dX11_coldest_6 rfl (lv_at hl 0 rfl) ?_
      refine lv_aload_n hx hb dX11_coldest_7 rfl (lv_at hl 3 rfl) ?_
      refine q_gr (T := TX11) C hO ga0 1 kF_X11_19 dX11_coldest_8 rfl rfl (by decide) rfl (by decide) rfl (fun g1 => ?_)
      refine q_gi (T := TX5) C hO g1 3 kF_X11_247 dX11_coldest_11 rfl rfl (by decide) rfl (by decide) rfl ?_
      have r2 : 0 ≤ (fI D s.heap 5 (fR D s.heap 10 a0 1) 3).toInt ∧ (fI D s.heap 5 (fR D s.heap 10 a0 1) 3).toInt ≤ 6 := hO.rng g1 rfl (by decide) rfl
      have r4 := i_rng x3_6
      refine lv_icmp_ge (tgt := 49) hx hb dX11_coldest_14 (by decide) (fun c3 => ?_) (fun c3 => ?_)
      · have b3 : (fI D s.heap 5 (fR D s.heap 10 a0 1) 3).toInt ≤ x3_6.toInt := i_le.mp c3
        refine lv_iload_n hx hb dX11_coldest_49 rfl (lv_at hl 2 rfl) ?_
        exact retP_i hQ C hr dX11_coldest_50 (trivial)
      · have b3 : ¬ (fI D s.heap 5 (fR D s.heap 10 a0 1) 3).toInt ≤ x3_6.toInt := fun z9 => c3 (i_le.mpr z9)
        refine lv_aload_n hx hb dX11_coldest_17 rfl (lv_at hl 3 rfl) ?_
        refine q_gr (T := TX11) C hO ga0 1 kF_X11_19 dX11_coldest_18 rfl rfl (by decide) rfl (by decide) rfl (fun g5 => ?_)
        refine lv_iload_n hx hb dX11_coldest_21 rfl (lv_at hl 0 rfl) ?_
        refine callV_Pi C hO (fun _ _ _ => rfl) (c_X5_warmthOf l D G (fR D s.heap 10 a0 1) x3_6 g5) kV_X11_156 g5 (trivial) dX11_coldest_22 hl.1 rfl rfl (by decide) cd_X5_warmthOf ⟨Nat.le_of_ble_eq_true rfl, Nat.le_of_ble_eq_true rfl, Nat.le_of_ble_eq_true rfl, Nat.le_of_ble_eq_true rfl, Nat.le_of_ble_eq_true rfl⟩ (fun v6 q6 => ?_)
        refine lv_istore (lv' := [(4, .int v6), (3, .int x3_6), (2, .int x2_6), (1, .int x1_6), (0, .ref a0)]) hx hb dX11_coldest_25 hl (by decide) rfl (fun ls hl => ?_)
        refine lv_iload_n hx hb dX11_coldest_27 rfl (lv_at hl 3 rfl) ?_
        refine lv_iconst (v := -1) hx hb dX11_coldest_28 (by decide) ?_
        have k_m1 : (-1 : Int32).toInt = -1 := by decide
        refine lv_icmp_eq (tgt := 38) hx hb dX11_coldest_29 (by decide) (fun c7 => ?_) (fun c7 => ?_)
        · have b7 : x1_6.toInt = (-1 : Int32).toInt := i_eq.mp c7
          refine lv_iload_n hx hb dX11_coldest_38 rfl (lv_at hl 1 rfl) ?_
          refine lv_istore_n (lv' := [(1, .int x3_6), (4, .int v6), (3, .int x3_6), (2, .int x2_6), (0, .ref a0)]) hx hb dX11_coldest_39 rfl hl (by decide) rfl (fun ls hl => ?_)
          refine lv_iload hx hb dX11_coldest_40 (lv_at hl 1 rfl) ?_
          refine lv_istore_n (lv' := [(2, .int v6), (1, .int x3_6), (4, .int v6), (3, .int x3_6), (0, .ref a0)]) hx hb dX11_coldest_42 rfl hl (by decide) rfl (fun ls hl => ?_)
          obtain ⟨v8, ev8⟩ : ∃ y : Int32, y = x3_6 + (1) := ⟨_, rfl⟩
          have k_1 : (1 : Int32).toInt = 1 := by decide
          have f9 : v8.toInt = x3_6.toInt + (1) := by rw [ev8]; exact i_addc k_1 (by omega) (by omega)
          refine lv_iinc (v := v8) (lv' := [(3, .int v8), (2, .int v6), (1, .int x3_6), (4, .int v6), (0, .ref a0)]) hx hb dX11_coldest_43 hl (k := 3) rfl (by rw [ev8]; rfl) (by decide) rfl (fun ls hl => ?_)
          refine lv_goto (tgt := 6) hx hb dX11_coldest_46 (by decide) ?_
          exact ih6 v8 v6 x3_6 ls (by omega) (by omega) (lv_sub hl [0, 1, 2, 4] rfl)
        · have b7 : ¬ x1_6.toInt = (-1 : Int32).toInt := fun z9 => c7 (i_eq.mpr z9)
          refine lv_iload hx hb dX11_coldest_32 (lv_at hl 0 rfl) ?_
          refine lv_iload_n hx hb dX11_coldest_34 rfl (lv_at hl 2 rfl) ?_
          refine lv_icmp_ge (tgt := 43) hx hb dX11_coldest_35 (by decide) (fun c10 => ?_) (fun c10 => ?_)
          · have b10 : x2_6.toInt ≤ v6.toInt := i_le.mp c10
            obtain ⟨v11, ev11⟩ : ∃ y : Int32, y = x3_6 + (1) := ⟨_, rfl⟩
            have k_1 : (1 : Int32).toInt = 1 := by decide
            have f12 : v11.toInt = x3_6.toInt + (1) := by rw [ev11]; exact i_addc k_1 (by omega) (by omega)
            refine lv_iinc (v := v11) (lv' := [(3, .int v11), (4, .int v6), (2, .int x2_6), (1, .int x1_6), (0, .ref a0)]) hx hb dX11_coldest_43 hl (k := 1) rfl (by rw [ev11]; rfl) (by decide) rfl (fun ls hl => ?_)
            refine lv_goto (tgt := 6) hx hb dX11_coldest_46 (by decide) ?_
            exact ih6 v11 x2_6 x1_6 ls (by omega) (by omega) (lv_sub hl [0, 2, 3, 4] rfl)
          · have b10 : ¬ x2_6.toInt ≤ v6.toInt := fun z9 => c10 (i_le.mpr z9)
            refine lv_iload_n hx hb dX11_coldest_38 rfl (lv_at hl 1 rfl) ?_
            refine lv_istore_n (lv' := [(1, .int x3_6), (4, .int v6), (3, .int x3_6), (2, .int x2_6), (0, .ref a0)]) hx hb dX11_coldest_39 rfl hl (by decide) rfl (fun ls hl => ?_)
            refine lv_iload hx hb dX11_coldest_40 (lv_at hl 1 rfl) ?_
            refine lv_istore_n (lv' := [(2, .int v6), (1, .int x3_6), (4, .int v6), (3, .int x3_6), (0, .ref a0)]) hx hb dX11_coldest_42 rfl hl (by decide) rfl (fun ls hl => ?_)
            obtain ⟨v13, ev13⟩ : ∃ y : Int32, y = x3_6 + (1) := ⟨_, rfl⟩
            have k_1 : (1 : Int32).toInt = 1 := by decide
            have f14 : v13.toInt = x3_6.toInt + (1) := by rw [ev13]; exact i_addc k_1 (by omega) (by omega)
            refine lv_iinc (v := v13) (lv' := [(3, .int v13), (2, .int v6), (1, .int x3_6), (4, .int v6), (0, .ref a0)]) hx hb dX11_coldest_43 hl (k := 3) rfl (by rw [ev13]; rfl) (by decide) rfl (fun ls hl => ?_)
            refine lv_goto (tgt := 6) hx hb dX11_coldest_46 (by decide) ?_
            exact ih6 v13 v6 x3_6 ls (by omega) (by omega) (lv_sub hl [0, 1, 2, 4] rfl)
  have k_0 : (0 : Int32).toInt = 0 := by decide
  have k_m1 : (-1 : Int32).toInt = -1 := by decide
  exact Lp6 2147483648 (0 : Int32) (0 : Int32) (-1 : Int32) ls (by omega)  (by omega) (lv_sub hl [0, 1, 2, 3] rfl)

set_option maxRecDepth 100000 in
set_option maxHeartbeats 4000000 in
theorem c_X11_alike (l : Launch) (D : DD) (G : Nat → Nat) (a0 : Nat) (ga0 : G a0 = 1) : CE l D G yX11_alike cX11_alike 4 (some .int) 4 [.ref a0] (fun _ => True) [(14, 0), (15, 0)] (xI (fun H r H1 => True)) := by
  refine enter (by decide) (Nat.le_of_ble_eq_true rfl) ?_
  intro p e s m args below meth c ls Q hA hQ C hr hO hpre hl
  have hx := C.1
  have hb := C.2.1
  have S : Sd D G [(14, 0), (15, 0)] s.heap s.heap [] := Sd.start hO
  have hl : lv_has ls 4 [(0, .ref a0)] := hl
  refine lv_iconst (v := 0) hx hb dX11_alike_0 (by decide) ?_
  refine lv_istore_n (lv' := [(1, .int (0 : Int32)), (0, .ref a0)]) hx hb dX11_alike_1 rfl hl (by decide) rfl (fun ls hl => ?_)
  refine lv_iconst (v := 0) hx hb dX11_alike_2 (by decide) ?_
  refine lv_istore_n (lv' := [(2, .int (0 : Int32)), (1, .int (0 : Int32)), (0, .ref a0)]) hx hb dX11_alike_3 rfl hl (by decide) rfl (fun ls hl => ?_)
  have Lp4 : ∀ (n : Nat) (x2_4 : Int32) (x1_4 : Int32) (H_4 : Heap) (L_4 : List Loc) (ls : Array Slot), (Sd D G [(14, 0), (15, 0)] s.heap H_4 L_4) → (0 ≤ x2_4.toInt ∧ x2_4.toInt ≤ 2147483647) → 2147483648 - x2_4.toInt ≤ (n : Int) → lv_has ls 4 [(2, .int x2_4), (1, .int x1_4), (0, .ref a0)] → W p l e (rmU 4 0 0) s m args below meth c H_4 L_4 0 0 Q (F0 m 4 ls []) := by
    intro n
    induction n with
    | zero =>
      intro x2_4 x1_4 H_4 L_4 ls S_4 j4_0 hn hl
      exact absurd hn (by omega)
    | succ n ih4 =>
      intro x2_4 x1_4 H_4 L_4 ls S_4 j4_0 hn hl
      refine lv_iload_n hx hb dX11_alike_4 rfl (lv_at hl 0 rfl) ?_
      refine lv_aload_n hx hb dX11_alike_5 rfl (lv_at hl 2 rfl) ?_
      refine q_gr (T := TX11) C S_4.1 ga0 1 kF_X11_19 dX11_alike_6 rfl rfl (by decide) rfl (by decide) rfl (fun g1 => ?_)
      refine q_gi (T := TX5) C S_4.1 g1 3 kF_X11_247 dX11_alike_9 rfl rfl (by decide) rfl (by decide) rfl ?_
      have r2 : 0 ≤ (fI D H_4 5 (fR D H_4 10 a0 1) 3).toInt ∧ (fI D H_4 5 (fR D H_4 10 a0 1) 3).toInt ≤ 6 := S_4.1.rng g1 rfl (by decide) rfl
      have r4 := i_rng x2_4
      refine lv_icmp_ge (tgt := 83) hx hb dX11_alike_12 (by decide) (fun c3 => ?_) (fun c3 => ?_)
      · have b3 : (fI D H_4 5 (fR D H_4 10 a0 1) 3).toInt ≤ x2_4.toInt := i_le.mp c3
        refine lv_iload_n hx hb dX11_alike_83 rfl (lv_at hl 1 rfl) ?_
        exact retE_i hQ C S_4 hr dX11_alike_84 (trivial)
      · have b3 : ¬ (fI D H_4 5 (fR D H_4 10 a0 1) 3).toInt ≤ x2_4.toInt := fun z9 => c3 (i_le.mpr z9)
        refine lv_iload_n hx hb dX11_alike_15 rfl (lv_at hl 0 rfl) ?_
        refine lv_iconst (v := 1) hx hb dX11_alike_16 (by decide) ?_
        have k_1 : (1 : Int32).toInt = 1 := by decide
        refine lv_iadd hx hb dX11_alike_17 ?_
        refine lv_topi (fun v5 ev5 => ?_)
        have f6 : v5.toInt = x2_4.toInt + (1 : Int32).toInt := by rw [ev5]; exact i_add (by omega) (by omega)
        refine lv_istore_n (lv' := [(3, .int v5), (2, .int x2_4), (1, .int x1_4), (0, .ref a0)]) hx hb dX11_alike_18 rfl hl (by decide) rfl (fun ls hl => ?_)
        have Lp19 : ∀ (n : Nat) (x3_19 : Int32) (x1_19 : Int32) (H_19 : Heap) (L_19 : List Loc) (ls : Array Slot), (Sd D G [(14, 0), (15, 0)] s.heap H_19 L_19) → (1 ≤ x3_19.toInt ∧ x3_19.toInt ≤ 2147483647) → 2147483648 - x3_19.toInt ≤ (n : Int) → lv_has ls 4 [(3, .int x3_19), (2, .int x2_4), (1, .int x1_19), (0, .ref a0)] → W p l e (rmU 4 0 0) s m args below meth c H_19 L_19 0 0 Q (F0 m 19 ls []) := by
          intro n
          induction n with
          | zero =>
            intro x3_19 x1_19 H_19 L_19 ls S_19 j19_0 hn hl
            exact absurd hn (by omega)
          | succ n ih19 =>
            intro x3_19 x1_19 H_19 L_19 ls S_19 j19_0 hn hl
            refine lv_iload_n hx hb dX11_alike_19 rfl (lv_at hl 0 rfl) ?_
            refine lv_aload_n hx hb dX11_alike_20 rfl (lv_at hl 3 rfl) ?_
            refine q_gr (T := TX11) C S_19.1 ga0 1 kF_X11_19 dX11_alike_21 rfl rfl (by decide) rfl (by decide) rfl (fun g7 => ?_)
            refine q_gi (T := TX5) C S_19.1 g7 3 kF_X11_247 dX11_alike_24 rfl rfl (by decide) rfl (by decide) rfl ?_
            have r8 : 0 ≤ (fI D H_19 5 (fR D H_19 10 a0 1) 3).toInt ∧ (fI D H_19 5 (fR D H_19 10 a0 1) 3).toInt ≤ 6 := S_19.1.rng g7 rfl (by decide) rfl
            have r10 := i_rng x3_19
            refine lv_icmp_ge (tgt := 77) hx hb dX11_alike_27 (by decide) (fun c9 => ?_) (fun c9 => ?_)
            · have b9 : (fI D H_19 5 (fR D H_19 10 a0 1) 3).toInt ≤ x3_19.toInt := i_le.mp c9
              obtain ⟨v11, ev11⟩ : ∃ y : Int32, y = x2_4 + (1) := ⟨_, rfl⟩
              have f12 : v11.toInt = x2_4.toInt + (1) := by rw [ev11]; exact i_addc k_1 (by omega) (by omega)
              refine lv_iinc (v := v11) (lv' := [(2, .int v11), (3, .int x3_19), (1, .int x1_19), (0, .ref a0)]) hx hb dX11_alike_77 hl (k := 1) rfl (by rw [ev11]; rfl) (by decide) rfl (fun ls hl => ?_)
              refine lv_goto (tgt := 4) hx hb dX11_alike_80 (by decide) ?_
              exact ih4 v11 x1_19 H_19 L_19 ls S_19 (by omega) (by omega) (lv_sub hl [0, 2, 3] rfl)
            · have b9 : ¬ (fI D H_19 5 (fR D H_19 10 a0 1) 3).toInt ≤ x3_19.toInt := fun z9 => c9 (i_le.mpr z9)
              refine lv_aload_n hx hb dX11_alike_30 rfl (lv_at hl 3 rfl) ?_
              refine q_gr (T := TX11) C S_19.1 ga0 1 kF_X11_19 dX11_alike_31 rfl rfl (by decide) rfl (by decide) rfl (fun g13 => ?_)
              refine lv_iload_n hx hb dX11_alike_34 rfl (lv_at hl 1 rfl) ?_
              refine callV_Pi C S_19.1 S_19.2.1.2.1 (c_X5_warmthOf l D G (fR D H_19 10 a0 1) x2_4 g13) kV_X11_156 g13 (trivial) dX11_alike_35 hl.1 rfl rfl (by decide) cd_X5_warmthOf ⟨Nat.le_of_ble_eq_true rfl, Nat.le_of_ble_eq_true rfl, Nat.le_of_ble_eq_true rfl, Nat.le_of_ble_eq_true rfl, Nat.le_of_ble_eq_true rfl⟩ (fun v14 q14 => ?_)
              refine lv_aload_n hx hb dX11_alike_38 rfl (lv_at hl 3 rfl) ?_
              refine q_gr (T := TX11) C S_19.1 ga0 1 kF_X11_19 dX11_alike_39 rfl rfl (by decide) rfl (by decide) rfl (fun g15 => ?_)
              refine lv_iload_n hx hb dX11_alike_42 rfl (lv_at hl 0 rfl) ?_
              refine callV_Pi C S_19.1 S_19.2.1.2.1 (c_X5_warmthOf l D G (fR D H_19 10 a0 1) x3_19 g15) kV_X11_156 g15 (trivial) dX11_alike_43 hl.1 rfl rfl (by decide) cd_X5_warmthOf ⟨Nat.le_of_ble_eq_true rfl, Nat.le_of_ble_eq_true rfl, Nat.le_of_ble_eq_true rfl, Nat.le_of_ble_eq_true rfl, Nat.le_of_ble_eq_true rfl⟩ (fun v16 q16 => ?_)
              refine lv_icmp_ne (tgt := 71) hx hb dX11_alike_46 (by decide) (fun c17 => ?_) (fun c17 => ?_)
              · have b17 : ¬ v14.toInt = v16.toInt := fun z9 => c17 (i_eq.mpr z9)
                obtain ⟨v18, ev18⟩ : ∃ y : Int32, y = x3_19 + (1) := ⟨_, rfl⟩
                have f19 : v18.toInt = x3_19.toInt + (1) := by rw [ev18]; exact i_addc k_1 (by omega) (by omega)
                refine lv_iinc (v := v18) (lv' := [(3, .int v18), (2, .int x2_4), (1, .int x1_19), (0, .ref a0)]) hx hb dX11_alike_71 hl (k := 0) rfl (by rw [ev18]; rfl) (by decide) rfl (fun ls hl => ?_)
                refine lv_goto (tgt := 19) hx hb dX11_alike_74 (by decide) ?_
                exact ih19 v18 x1_19 H_19 L_19 ls S_19 (by omega) (by omega) (lv_sub hl [0, 1, 2, 3] rfl)
              · have b17 : v14.toInt = v16.toInt := i_eq.mp c17
                refine lv_aload_n hx hb dX11_alike_49 rfl (lv_at hl 3 rfl) ?_
                refine q_gr (T := TX11) C S_19.1 ga0 1 kF_X11_19 dX11_alike_50 rfl rfl (by decide) rfl (by decide) rfl (fun g20 => ?_)
                refine lv_iload_n hx hb dX11_alike_53 rfl (lv_at hl 1 rfl) ?_
                refine callV_Ei C S_19 (c_X5_paysOf l D G (fR D H_19 10 a0 1) x2_4 g20) kV_X11_149 g20 (trivial) (by decide +kernel) dX11_alike_54 hl.1 rfl rfl (by decide) cd_X5_paysOf ⟨Nat.le_of_ble_eq_true rfl, Nat.le_of_ble_eq_true rfl, Nat.le_of_ble_eq_true rfl, Nat.le_of_ble_eq_true rfl, Nat.le_of_ble_eq_true rfl⟩ (fun v21 H21 L21 S21 K21 q21 => ?_)
                refine lv_aload_n hx hb dX11_alike_57 rfl (lv_at hl 3 rfl) ?_
                refine q_gr (T := TX11) C S21.1 ga0 1 kF_X11_19 dX11_alike_58 rfl rfl (by decide) rfl (by decide) rfl (fun g22 => ?_)
                refine lv_iload_n hx hb dX11_alike_61 rfl (lv_at hl 0 rfl) ?_
                refine callV_Ei C S21 (c_X5_paysOf l D G (fR D H21 10 a0 1) x3_19 g22) kV_X11_149 g22 (trivial) (by decide +kernel) dX11_alike_62 hl.1 rfl rfl (by decide) cd_X5_paysOf ⟨Nat.le_of_ble_eq_true rfl, Nat.le_of_ble_eq_true rfl, Nat.le_of_ble_eq_true rfl, Nat.le_of_ble_eq_true rfl, Nat.le_of_ble_eq_true rfl⟩ (fun v23 H23 L23 S23 K23 q23 => ?_)
                refine lv_icmp_ne (tgt := 71) hx hb dX11_alike_65 (by decide) (fun c24 => ?_) (fun c24 => ?_)
                · have b24 : ¬ v21.toInt = v23.toInt := fun z9 => c24 (i_eq.mpr z9)
                  obtain ⟨v25, ev25⟩ : ∃ y : Int32, y = x3_19 + (1) := ⟨_, rfl⟩
                  have f26 : v25.toInt = x3_19.toInt + (1) := by rw [ev25]; exact i_addc k_1 (by omega) (by omega)
                  refine lv_iinc (v := v25) (lv' := [(3, .int v25), (2, .int x2_4), (1, .int x1_19), (0, .ref a0)]) hx hb dX11_alike_71 hl (k := 0) rfl (by rw [ev25]; rfl) (by decide) rfl (fun ls hl => ?_)
                  refine lv_goto (tgt := 19) hx hb dX11_alike_74 (by decide) ?_
                  exact ih19 v25 x1_19 H23 L23 ls S23 (by omega) (by omega) (lv_sub hl [0, 1, 2, 3] rfl)
                · have b24 : v21.toInt = v23.toInt := i_eq.mp c24
                  obtain ⟨v27, ev27⟩ : ∃ y : Int32, y = x1_19 + (1) := ⟨_, rfl⟩
                  have r28 := i_rng x1_19
                  refine lv_iinc (v := v27) (lv' := [(1, .int v27), (3, .int x3_19), (2, .int x2_4), (0, .ref a0)]) hx hb dX11_alike_68 hl (k := 2) rfl (by rw [ev27]; rfl) (by decide) rfl (fun ls hl => ?_)
                  obtain ⟨v29, ev29⟩ : ∃ y : Int32, y = x3_19 + (1) := ⟨_, rfl⟩
                  have f30 : v29.toInt = x3_19.toInt + (1) := by rw [ev29]; exact i_addc k_1 (by omega) (by omega)
                  refine lv_iinc (v := v29) (lv' := [(3, .int v29), (1, .int v27), (2, .int x2_4), (0, .ref a0)]) hx hb dX11_alike_71 hl (k := 1) rfl (by rw [ev29]; rfl) (by decide) rfl (fun ls hl => ?_)
                  refine lv_goto (tgt := 19) hx hb dX11_alike_74 (by decide) ?_
                  exact ih19 v29 v27 H23 L23 ls S23 (by omega) (by omega) (lv_sub hl [0, 2, 1, 3] rfl)
        exact Lp19 2147483647 v5 x1_4 H_4 L_4 ls S_4 (by omega)  (by omega) (lv_sub hl [0, 1, 2, 3] rfl)
  have k_0 : (0 : Int32).toInt = 0 := by decide
  exact Lp4 2147483648 (0 : Int32) (0 : Int32) s.heap [] ls S (by omega)  (by omega) (lv_sub hl [0, 1, 2] rfl)

set_option maxRecDepth 100000 in
set_option maxHeartbeats 4000000 in
theorem c_X11_free (l : Launch) (D : DD) (G : Nat → Nat) (a0 : Nat) (ga0 : G a0 = 1) : CE l D G yX11_free cX11_free 3 (some .int) 4 [.ref a0] (fun _ => True) [(14, 0), (15, 0)] (xI (fun H r H1 => True)) := by
  refine enter (by decide) (Nat.le_of_ble_eq_true rfl) ?_
  intro p e s m args below meth c ls Q hA hQ C hr hO hpre hl
  have hx := C.1
  have hb := C.2.1
  have S : Sd D G [(14, 0), (15, 0)] s.heap s.heap [] := Sd.start hO
  have hl : lv_has ls 3 [(0, .ref a0)] := hl
  refine lv_iconst (v := 0) hx hb dX11_free_0 (by decide) ?_
  refine lv_istore_n (lv' := [(1, .int (0 : Int32)), (0, .ref a0)]) hx hb dX11_free_1 rfl hl (by decide) rfl (fun ls hl => ?_)
  refine lv_iconst (v := 0) hx hb dX11_free_2 (by decide) ?_
  refine lv_istore_n (lv' := [(2, .int (0 : Int32)), (1, .int (0 : Int32)), (0, .ref a0)]) hx hb dX11_free_3 rfl hl (by decide) rfl (fun ls hl => ?_)
  have Lp4 : ∀ (n : Nat) (x2_4 : Int32) (x1_4 : Int32) (H_4 : Heap) (L_4 : List Loc) (ls : Array Slot), (Sd D G [(14, 0), (15, 0)] s.heap H_4 L_4) → (0 ≤ x2_4.toInt ∧ x2_4.toInt ≤ 2147483647) → 2147483648 - x2_4.toInt ≤ (n : Int) → lv_has ls 3 [(2, .int x2_4), (1, .int x1_4), (0, .ref a0)] → W p l e (rmU 4 0 0) s m args below meth c H_4 L_4 0 0 Q (F0 m 4 ls []) := by
    intro n
    induction n with
    | zero =>
      intro x2_4 x1_4 H_4 L_4 ls S_4 j4_0 hn hl
      exact absurd hn (by omega)
    | succ n ih4 =>
      intro x2_4 x1_4 H_4 L_4 ls S_4 j4_0 hn hl
      refine lv_iload_n hx hb dX11_free_4 rfl (lv_at hl 0 rfl) ?_
      refine lv_aload_n hx hb dX11_free_5 rfl (lv_at hl 2 rfl) ?_
      refine q_gr (T := TX11) C S_4.1 ga0 1 kF_X11_19 dX11_free_6 rfl rfl (by decide) rfl (by decide) rfl (fun g1 => ?_)
      refine q_gi (T := TX5) C S_4.1 g1 4 kF_X11_283 dX11_free_9 rfl rfl (by decide) rfl (by decide) rfl ?_
      have r2 : 0 ≤ (fI D H_4 5 (fR D H_4 10 a0 1) 4).toInt ∧ (fI D H_4 5 (fR D H_4 10 a0 1) 4).toInt ≤ 12 := S_4.1.rng g1 rfl (by decide) rfl
      have r4 := i_rng x2_4
      refine lv_icmp_ge (tgt := 54) hx hb dX11_free_12 (by decide) (fun c3 => ?_) (fun c3 => ?_)
      · have b3 : (fI D H_4 5 (fR D H_4 10 a0 1) 4).toInt ≤ x2_4.toInt := i_le.mp c3
        refine lv_iload_n hx hb dX11_free_54 rfl (lv_at hl 1 rfl) ?_
        exact retE_i hQ C S_4 hr dX11_free_55 (trivial)
      · have b3 : ¬ (fI D H_4 5 (fR D H_4 10 a0 1) 4).toInt ≤ x2_4.toInt := fun z9 => c3 (i_le.mpr z9)
        refine lv_aload_n hx hb dX11_free_15 rfl (lv_at hl 2 rfl) ?_
        refine q_gr (T := TX11) C S_4.1 ga0 1 kF_X11_19 dX11_free_16 rfl rfl (by decide) rfl (by decide) rfl (fun g5 => ?_)
        refine q_gr (T := TX5) C S_4.1 g5 1 kF_X11_176 dX11_free_19 rfl rfl (by decide) rfl (by decide) rfl (fun g6 => ?_)
        refine lv_iload_n hx hb dX11_free_22 rfl (lv_at hl 0 rfl) ?_
        refine q_aald C S_4.1 g6 (by omega) (by omega) dX11_free_23 rfl (by decide) rfl rfl (fun g7 => ?_)
        refine q_gi (T := TX1) C S_4.1 g7 5 kF_X11_197 dX11_free_24 rfl rfl (by decide) rfl (by decide) rfl ?_
        refine lv_iconst (v := 1) hx hb dX11_free_27 (by decide) ?_
        have k_1 : (1 : Int32).toInt = 1 := by decide
        refine lv_icmp_eq (tgt := 48) hx hb dX11_free_28 (by decide) (fun c8 => ?_) (fun c8 => ?_)
        · have b8 : (fI D H_4 1 (eR H_4 (fR D H_4 5 (fR D H_4 10 a0 1) 1) x2_4.toInt.toNat) 5).toInt = (1 : Int32).toInt := i_eq.mp c8
          obtain ⟨v9, ev9⟩ : ∃ y : Int32, y = x2_4 + (1) := ⟨_, rfl⟩
          have f10 : v9.toInt = x2_4.toInt + (1) := by rw [ev9]; exact i_addc k_1 (by omega) (by omega)
          refine lv_iinc (v := v9) (lv' := [(2, .int v9), (1, .int x1_4), (0, .ref a0)]) hx hb dX11_free_48 hl (k := 0) rfl (by rw [ev9]; rfl) (by decide) rfl (fun ls hl => ?_)
          refine lv_goto (tgt := 4) hx hb dX11_free_51 (by decide) ?_
          exact ih4 v9 x1_4 H_4 L_4 ls S_4 (by omega) (by omega) (lv_sub hl [0, 1, 2] rfl)
        · have b8 : ¬ (fI D H_4 1 (eR H_4 (fR D H_4 5 (fR D H_4 10 a0 1) 1) x2_4.toInt.toNat) 5).toInt = (1 : Int32).toInt := fun z9 => c8 (i_eq.mpr z9)
          refine lv_aload_n hx hb dX11_free_31 rfl (lv_at hl 2 rfl) ?_
          refine q_gr (T := TX11) C S_4.1 ga0 1 kF_X11_19 dX11_free_32 rfl rfl (by decide) rfl (by decide) rfl (fun g11 => ?_)
          refine lv_iload_n hx hb dX11_free_35 rfl (lv_at hl 0 rfl) ?_
          refine callV_Ei C S_4 (c_X5_taxOf l D G (fR D H_4 10 a0 1) x2_4 g11 (by omega)) kV_X11_200 g11 (trivial) (by decide +kernel) dX11_free_36 hl.1 rfl rfl (by decide) cd_X5_taxOf ⟨Nat.le_of_ble_eq_true rfl, Nat.le_of_ble_eq_true rfl, Nat.le_of_ble_eq_true rfl, Nat.le_of_ble_eq_true rfl, Nat.le_of_ble_eq_true rfl⟩ (fun v12 H12 L12 S12 K12 q12 => ?_)
          have k_0 : (0 : Int32).toInt = 0 := by decide
          refine lv_if_ne (tgt := 48) hx hb dX11_free_39 (by decide) (fun c13 => ?_) (fun c13 => ?_)
          · have b13 : ¬ v12.toInt = (0 : Int32).toInt := fun z9 => c13 (i_eq.mpr z9)
            obtain ⟨v14, ev14⟩ : ∃ y : Int32, y = x2_4 + (1) := ⟨_, rfl⟩
            have f15 : v14.toInt = x2_4.toInt + (1) := by rw [ev14]; exact i_addc k_1 (by omega) (by omega)
            refine lv_iinc (v := v14) (lv' := [(2, .int v14), (1, .int x1_4), (0, .ref a0)]) hx hb dX11_free_48 hl (k := 0) rfl (by rw [ev14]; rfl) (by decide) rfl (fun ls hl => ?_)
            refine lv_goto (tgt := 4) hx hb dX11_free_51 (by decide) ?_
            exact ih4 v14 x1_4 H12 L12 ls S12 (by omega) (by omega) (lv_sub hl [0, 1, 2] rfl)
          · have b13 : v12.toInt = (0 : Int32).toInt := i_eq.mp c13
            refine lv_iload_n hx hb dX11_free_42 rfl (lv_at hl 1 rfl) ?_
            refine lv_iconst (v := 1) hx hb dX11_free_43 (by decide) ?_
            refine lv_iload_n hx hb dX11_free_44 rfl (lv_at hl 0 rfl) ?_
            refine lv_ishl hx hb dX11_free_45 ?_
            refine lv_topi (fun v16 ev16 => ?_)
            have f17 : 1 ≤ v16.toInt ∧ v16.toInt ≤ 2048 := by rw [ev16]; exact i_shl1 11 (by omega) (by omega) (by decide)
            refine lv_ior hx hb dX11_free_46 ?_
            refine lv_topi (fun v18 ev18 => ?_)
            refine lv_istore_n (lv' := [(1, .int v18), (2, .int x2_4), (0, .ref a0)]) hx hb dX11_free_47 rfl hl (by decide) rfl (fun ls hl => ?_)
            obtain ⟨v19, ev19⟩ : ∃ y : Int32, y = x2_4 + (1) := ⟨_, rfl⟩
            have f20 : v19.toInt = x2_4.toInt + (1) := by rw [ev19]; exact i_addc k_1 (by omega) (by omega)
            refine lv_iinc (v := v19) (lv' := [(2, .int v19), (1, .int v18), (0, .ref a0)]) hx hb dX11_free_48 hl (k := 1) rfl (by rw [ev19]; rfl) (by decide) rfl (fun ls hl => ?_)
            refine lv_goto (tgt := 4) hx hb dX11_free_51 (by decide) ?_
            exact ih4 v19 v18 H12 L12 ls S12 (by omega) (by omega) (lv_sub hl [0, 1, 2] rfl)
  have k_0 : (0 : Int32).toInt = 0 := by decide
  exact Lp4 2147483648 (0 : Int32) (0 : Int32) s.heap [] ls S (by omega)  (by omega) (lv_sub hl [0, 1, 2] rfl)

set_option maxRecDepth 100000 in
set_option maxHeartbeats 4000000 in
theorem c_X11_cheapest (l : Launch) (D : DD) (G : Nat → Nat) (a0 : Nat) (ga0 : G a0 = 1) : CE l D G yX11_cheapest cX11_cheapest 7 (some .int) 4 [.ref a0] (fun _ => True) [(14, 0), (15, 0)] (xI (fun H r H1 => True)) := by
  refine enter (by decide) (Nat.le_of_ble_eq_true rfl) ?_
  intro p e s m args below meth c ls Q hA hQ C hr hO hpre hl
  have hx := C.1
  have hb := C.2.1
  have S : Sd D G [(14, 0), (15, 0)] s.heap s.heap [] := Sd.start hO
  have hl : lv_has ls 7 [(0, .ref a0)] := hl
  refine lv_iconst (v := -1) hx hb dX11_cheapest_0 (by decide) ?_
  refine lv_istore_n (lv' := [(1, .int (-1 : Int32)), (0, .ref a0)]) hx hb dX11_cheapest_1 rfl hl (by decide) rfl (fun ls hl => ?_)
  refine lv_iconst (v := 0) hx hb dX11_cheapest_2 (by decide) ?_
  refine lv_istore_n (lv' := [(2, .int (0 : Int32)), (1, .int (-1 : Int32)), (0, .ref a0)]) hx hb dX11_cheapest_3 rfl hl (by decide) rfl (fun ls hl => ?_)
  refine lv_iconst (v := 0) hx hb dX11_cheapest_4 (by decide) ?_
  refine lv_istore_n (lv' := [(3, .int (0 : Int32)), (2, .int (0 : Int32)), (1, .int (-1 : Int32)), (0, .ref a0)]) hx hb dX11_cheapest_5 rfl hl (by decide) rfl (fun ls hl => ?_)
  refine lv_iconst (v := 0) hx hb dX11_cheapest_6 (by decide) ?_
  refine lv_istore (lv' := [(4, .int (0 : Int32)), (3, .int (0 : Int32)), (2, .int (0 : Int32)), (1, .int (-1 : Int32)), (0, .ref a0)]) hx hb dX11_cheapest_7 hl (by decide) rfl (fun ls hl => ?_)
  have Lp9 : ∀ (n : Nat) (x4_9 : Int32) (x3_9 : Int32) (x2_9 : Int32) (x1_9 : Int32) (H_9 : Heap) (L_9 : List Loc) (ls : Array Slot), (Sd D G [(14, 0), (15, 0)] s.heap H_9 L_9) → (0 ≤ x4_9.toInt ∧ x4_9.toInt ≤ 2147483647) → 2147483648 - x4_9.toInt ≤ (n : Int) → lv_has ls 7 [(4, .int x4_9), (3, .int x3_9), (2, .int x2_9), (1, .int x1_9), (0, .ref a0)] → W p l e (rmU 4 0 0) s m args below meth c H_9 L_9 0 0 Q (F0 m 9 ls []) := by
    intro n
    induction n with
    | zero =>
      intro x4_9 x3_9 x2_9 x1_9 H_9 L_9 ls S_9 j9_0 hn hl
      exact absurd hn (by omega)
    | succ n ih9 =>
      intro x4_9 x3_9 x2_9 x1_9 H_9 L_9 ls S_9 j9_0 hn hl
      refine lv_iload hx hb dX11_cheapest_9 (lv_at hl 0 rfl) ?_
      refine lv_aload_n hx hb dX11_cheapest_11 rfl (lv_at hl 4 rfl) ?_
      refine q_gr (T := TX11) C S_9.1 ga0 1 kF_X11_19 dX11_cheapest_12 rfl rfl (by decide) rfl (by decide) rfl (fun g1 => ?_)
      refine q_gi (T := TX5) C S_9.1 g1 4 kF_X11_283 dX11_cheapest_15 rfl rfl (by decide) rfl (by decide) rfl ?_
      have r2 : 0 ≤ (fI D H_9 5 (fR D H_9 10 a0 1) 4).toInt ∧ (fI D H_9 5 (fR D H_9 10 a0 1) 4).toInt ≤ 12 := S_9.1.rng g1 rfl (by decide) rfl
      have r4 := i_rng x4_9
      refine lv_icmp_ge (tgt := 83) hx hb dX11_cheapest_18 (by decide) (fun c3 => ?_) (fun c3 => ?_)
      · have b3 : (fI D H_9 5 (fR D H_9 10 a0 1) 4).toInt ≤ x4_9.toInt := i_le.mp c3
        refine lv_iload_n hx hb dX11_cheapest_83 rfl (lv_at hl 3 rfl) ?_
        exact retE_i hQ C S_9 hr dX11_cheapest_84 (trivial)
      · have b3 : ¬ (fI D H_9 5 (fR D H_9 10 a0 1) 4).toInt ≤ x4_9.toInt := fun z9 => c3 (i_le.mpr z9)
        refine lv_aload_n hx hb dX11_cheapest_21 rfl (lv_at hl 4 rfl) ?_
        refine q_gr (T := TX11) C S_9.1 ga0 1 kF_X11_19 dX11_cheapest_22 rfl rfl (by decide) rfl (by decide) rfl (fun g5 => ?_)
        refine q_gr (T := TX5) C S_9.1 g5 1 kF_X11_176 dX11_cheapest_25 rfl rfl (by decide) rfl (by decide) rfl (fun g6 => ?_)
        refine lv_iload hx hb dX11_cheapest_28 (lv_at hl 0 rfl) ?_
        refine q_aald C S_9.1 g6 (by omega) (by omega) dX11_cheapest_30 rfl (by decide) rfl rfl (fun g7 => ?_)
        refine q_gi (T := TX1) C S_9.1 g7 4 kF_X11_194 dX11_cheapest_31 rfl rfl (by decide) rfl (by decide) rfl ?_
        refine lv_istore (lv' := [(5, .int (fI D H_9 1 (eR H_9 (fR D H_9 5 (fR D H_9 10 a0 1) 1) x4_9.toInt.toNat) 4)), (4, .int x4_9), (3, .int x3_9), (2, .int x2_9), (1, .int x1_9), (0, .ref a0)]) hx hb dX11_cheapest_34 hl (by decide) rfl (fun ls hl => ?_)
        refine lv_aload_n hx hb dX11_cheapest_36 rfl (lv_at hl 5 rfl) ?_
        refine q_gr (T := TX11) C S_9.1 ga0 1 kF_X11_19 dX11_cheapest_37 rfl rfl (by decide) rfl (by decide) rfl (fun g8 => ?_)
        refine lv_iload hx hb dX11_cheapest_40 (lv_at hl 1 rfl) ?_
        refine callV_Ei C S_9 (c_X5_taxOf l D G (fR D H_9 10 a0 1) x4_9 g8 (by omega)) kV_X11_200 g8 (trivial) (by decide +kernel) dX11_cheapest_42 hl.1 rfl rfl (by decide) cd_X5_taxOf ⟨Nat.le_of_ble_eq_true rfl, Nat.le_of_ble_eq_true rfl, Nat.le_of_ble_eq_true rfl, Nat.le_of_ble_eq_true rfl, Nat.le_of_ble_eq_true rfl⟩ (fun v9 H9 L9 S9 K9 q9 => ?_)
        refine lv_istore (lv' := [(6, .int v9), (5, .int (fI D H_9 1 (eR H_9 (fR D H_9 5 (fR D H_9 10 a0 1) 1) x4_9.toInt.toNat) 4)), (4, .int x4_9), (3, .int x3_9), (2, .int x2_9), (1, .int x1_9), (0, .ref a0)]) hx hb dX11_cheapest_45 hl (by decide) rfl (fun ls hl => ?_)
        refine lv_iload hx hb dX11_cheapest_47 (lv_at hl 0 rfl) ?_
        have k_0 : (0 : Int32).toInt = 0 := by decide
        refine lv_if_le (tgt := 77) hx hb dX11_cheapest_49 (by decide) (fun c10 => ?_) (fun c10 => ?_)
        · have b10 : v9.toInt ≤ (0 : Int32).toInt := i_le.mp c10
          obtain ⟨v11, ev11⟩ : ∃ y : Int32, y = x4_9 + (1) := ⟨_, rfl⟩
          have k_1 : (1 : Int32).toInt = 1 := by decide
          have f12 : v11.toInt = x4_9.toInt + (1) := by rw [ev11]; exact i_addc k_1 (by omega) (by omega)
          refine lv_iinc (v := v11) (lv' := [(4, .int v11), (6, .int v9), (5, .int (fI D H_9 1 (eR H_9 (fR D H_9 5 (fR D H_9 10 a0 1) 1) x4_9.toInt.toNat) 4)), (3, .int x3_9), (2, .int x2_9), (1, .int x1_9), (0, .ref a0)]) hx hb dX11_cheapest_77 hl (k := 2) rfl (by rw [ev11]; rfl) (by decide) rfl (fun ls hl => ?_)
          refine lv_goto (tgt := 9) hx hb dX11_cheapest_80 (by decide) ?_
          exact ih9 v11 x3_9 x2_9 x1_9 H9 L9 ls S9 (by omega) (by omega) (lv_sub hl [0, 3, 4, 5, 6] rfl)
        · have b10 : ¬ v9.toInt ≤ (0 : Int32).toInt := fun z9 => c10 (i_le.mpr z9)
          refine lv_iload_n hx hb dX11_cheapest_52 rfl (lv_at hl 5 rfl) ?_
          refine lv_iconst (v := -1) hx hb dX11_cheapest_53 (by decide) ?_
          have k_m1 : (-1 : Int32).toInt = -1 := by decide
          refine lv_icmp_eq (tgt := 68) hx hb dX11_cheapest_54 (by decide) (fun c13 => ?_) (fun c13 => ?_)
          · have b13 : x1_9.toInt = (-1 : Int32).toInt := i_eq.mp c13
            refine lv_iload hx hb dX11_cheapest_68 (lv_at hl 2 rfl) ?_
            refine lv_istore_n (lv' := [(1, .int x4_9), (6, .int v9), (5, .int (fI D H_9 1 (eR H_9 (fR D H_9 5 (fR D H_9 10 a0 1) 1) x4_9.toInt.toNat) 4)), (4, .int x4_9), (3, .int x3_9), (2, .int x2_9), (0, .ref a0)]) hx hb dX11_cheapest_70 rfl hl (by decide) rfl (fun ls hl => ?_)
            refine lv_iload hx hb dX11_cheapest_71 (lv_at hl 2 rfl) ?_
            refine lv_istore_n (lv' := [(2, .int (fI D H_9 1 (eR H_9 (fR D H_9 5 (fR D H_9 10 a0 1) 1) x4_9.toInt.toNat) 4)), (1, .int x4_9), (6, .int v9), (5, .int (fI D H_9 1 (eR H_9 (fR D H_9 5 (fR D H_9 10 a0 1) 1) x4_9.toInt.toNat) 4)), (4, .int x4_9), (3, .int x3_9), (0, .ref a0)]) hx hb dX11_cheapest_73 rfl hl (by decide) rfl (fun ls hl => ?_)
            refine lv_iload hx hb dX11_cheapest_74 (lv_at hl 2 rfl) ?_
            refine lv_istore_n (lv' := [(3, .int v9), (2, .int (fI D H_9 1 (eR H_9 (fR D H_9 5 (fR D H_9 10 a0 1) 1) x4_9.toInt.toNat) 4)), (1, .int x4_9), (6, .int v9), (5, .int (fI D H_9 1 (eR H_9 (fR D H_9 5 (fR D H_9 10 a0 1) 1) x4_9.toInt.toNat) 4)), (4, .int x4_9), (0, .ref a0)]) hx hb dX11_cheapest_76 rfl hl (by decide) rfl (fun ls hl => ?_)
            obtain ⟨v14, ev14⟩ : ∃ y : Int32, y = x4_9 + (1) := ⟨_, rfl⟩
            have k_1 : (1 : Int32).toInt = 1 := by decide
            have f15 : v14.toInt = x4_9.toInt + (1) := by rw [ev14]; exact i_addc k_1 (by omega) (by omega)
            refine lv_iinc (v := v14) (lv' := [(4, .int v14), (3, .int v9), (2, .int (fI D H_9 1 (eR H_9 (fR D H_9 5 (fR D H_9 10 a0 1) 1) x4_9.toInt.toNat) 4)), (1, .int x4_9), (6, .int v9), (5, .int (fI D H_9 1 (eR H_9 (fR D H_9 5 (fR D H_9 10 a0 1) 1) x4_9.toInt.toNat) 4)), (0, .ref a0)]) hx hb dX11_cheapest_77 hl (k := 5) rfl (by rw [ev14]; rfl) (by decide) rfl (fun ls hl => ?_)
            refine lv_goto (tgt := 9) hx hb dX11_cheapest_80 (by decide) ?_
            exact ih9 v14 v9 (fI D H_9 1 (eR H_9 (fR D H_9 5 (fR D H_9 10 a0 1) 1) x4_9.toInt.toNat) 4) x4_9 H9 L9 ls S9 (by omega) (by omega) (lv_sub hl [0, 1, 2, 3, 6] rfl)
          · have b13 : ¬ x1_9.toInt = (-1 : Int32).toInt := fun z9 => c13 (i_eq.mpr z9)
            refine lv_iload hx hb dX11_cheapest_57 (lv_at hl 1 rfl) ?_
            refine lv_iload_n hx hb dX11_cheapest_59 rfl (lv_at hl 3 rfl) ?_
            refine lv_imul hx hb dX11_cheapest_60 ?_
            refine lv_topi (fun v16 ev16 => ?_)
            refine lv_iload_n hx hb dX11_cheapest_61 rfl (lv_at hl 4 rfl) ?_
            refine lv_iload hx hb dX11_cheapest_62 (lv_at hl 0 rfl) ?_
            refine lv_imul hx hb dX11_cheapest_64 ?_
            refine lv_topi (fun v17 ev17 => ?_)
            refine lv_icmp_ge (tgt := 77) hx hb dX11_cheapest_65 (by decide) (fun c18 => ?_) (fun c18 => ?_)
            · have b18 : v17.toInt ≤ v16.toInt := i_le.mp c18
              obtain ⟨v19, ev19⟩ : ∃ y : Int32, y = x4_9 + (1) := ⟨_, rfl⟩
              have k_1 : (1 : Int32).toInt = 1 := by decide
              have f20 : v19.toInt = x4_9.toInt + (1) := by rw [ev19]; exact i_addc k_1 (by omega) (by omega)
              refine lv_iinc (v := v19) (lv' := [(4, .int v19), (6, .int v9), (5, .int (fI D H_9 1 (eR H_9 (fR D H_9 5 (fR D H_9 10 a0 1) 1) x4_9.toInt.toNat) 4)), (3, .int x3_9), (2, .int x2_9), (1, .int x1_9), (0, .ref a0)]) hx hb dX11_cheapest_77 hl (k := 2) rfl (by rw [ev19]; rfl) (by decide) rfl (fun ls hl => ?_)
              refine lv_goto (tgt := 9) hx hb dX11_cheapest_80 (by decide) ?_
              exact ih9 v19 x3_9 x2_9 x1_9 H9 L9 ls S9 (by omega) (by omega) (lv_sub hl [0, 3, 4, 5, 6] rfl)
            · have b18 : ¬ v17.toInt ≤ v16.toInt := fun z9 => c18 (i_le.mpr z9)
              refine lv_iload hx hb dX11_cheapest_68 (lv_at hl 2 rfl) ?_
              refine lv_istore_n (lv' := [(1, .int x4_9), (6, .int v9), (5, .int (fI D H_9 1 (eR H_9 (fR D H_9 5 (fR D H_9 10 a0 1) 1) x4_9.toInt.toNat) 4)), (4, .int x4_9), (3, .int x3_9), (2, .int x2_9), (0, .ref a0)]) hx hb dX11_cheapest_70 rfl hl (by decide) rfl (fun ls hl => ?_)
              refine lv_iload hx hb dX11_cheapest_71 (lv_at hl 2 rfl) ?_
              refine lv_istore_n (lv' := [(2, .int (fI D H_9 1 (eR H_9 (fR D H_9 5 (fR D H_9 10 a0 1) 1) x4_9.toInt.toNat) 4)), (1, .int x4_9), (6, .int v9), (5, .int (fI D H_9 1 (eR H_9 (fR D H_9 5 (fR D H_9 10 a0 1) 1) x4_9.toInt.toNat) 4)), (4, .int x4_9), (3, .int x3_9), (0, .ref a0)]) hx hb dX11_cheapest_73 rfl hl (by decide) rfl (fun ls hl => ?_)
              refine lv_iload hx hb dX11_cheapest_74 (lv_at hl 2 rfl) ?_
              refine lv_istore_n (lv' := [(3, .int v9), (2, .int (fI D H_9 1 (eR H_9 (fR D H_9 5 (fR D H_9 10 a0 1) 1) x4_9.toInt.toNat) 4)), (1, .int x4_9), (6, .int v9), (5, .int (fI D H_9 1 (eR H_9 (fR D H_9 5 (fR D H_9 10 a0 1) 1) x4_9.toInt.toNat) 4)), (4, .int x4_9), (0, .ref a0)]) hx hb dX11_cheapest_76 rfl hl (by decide) rfl (fun ls hl => ?_)
              obtain ⟨v21, ev21⟩ : ∃ y : Int32, y = x4_9 + (1) := ⟨_, rfl⟩
              have k_1 : (1 : Int32).toInt = 1 := by decide
              have f22 : v21.toInt = x4_9.toInt + (1) := by rw [ev21]; exact i_addc k_1 (by omega) (by omega)
              refine lv_iinc (v := v21) (lv' := [(4, .int v21), (3, .int v9), (2, .int (fI D H_9 1 (eR H_9 (fR D H_9 5 (fR D H_9 10 a0 1) 1) x4_9.toInt.toNat) 4)), (1, .int x4_9), (6, .int v9), (5, .int (fI D H_9 1 (eR H_9 (fR D H_9 5 (fR D H_9 10 a0 1) 1) x4_9.toInt.toNat) 4)), (0, .ref a0)]) hx hb dX11_cheapest_77 hl (k := 5) rfl (by rw [ev21]; rfl) (by decide) rfl (fun ls hl => ?_)
              refine lv_goto (tgt := 9) hx hb dX11_cheapest_80 (by decide) ?_
              exact ih9 v21 v9 (fI D H_9 1 (eR H_9 (fR D H_9 5 (fR D H_9 10 a0 1) 1) x4_9.toInt.toNat) 4) x4_9 H9 L9 ls S9 (by omega) (by omega) (lv_sub hl [0, 1, 2, 3, 6] rfl)
  have k_0 : (0 : Int32).toInt = 0 := by decide
  have k_m1 : (-1 : Int32).toInt = -1 := by decide
  exact Lp9 2147483648 (0 : Int32) (0 : Int32) (0 : Int32) (-1 : Int32) s.heap [] ls S (by omega)  (by omega) (lv_sub hl [0, 1, 2, 3, 4] rfl)

set_option maxRecDepth 100000 in
set_option maxHeartbeats 4000000 in
theorem c_X11_dear (l : Launch) (D : DD) (G : Nat → Nat) (a0 : Nat) (ga0 : G a0 = 1) : CE l D G yX11_dear cX11_dear 5 (some .int) 4 [.ref a0] (fun _ => True) [(14, 0), (15, 0), (19, 0), (18, 2)] (xI (fun H r H1 => True)) := by
  refine enter (by decide) (Nat.le_of_ble_eq_true rfl) ?_
  intro p e s m args below meth c ls Q hA hQ C hr hO hpre hl
  have hx := C.1
  have hb := C.2.1
  have S : Sd D G [(14, 0), (15, 0), (19, 0), (18, 2)] s.heap s.heap [] := Sd.start hO
  have hl : lv_has ls 5 [(0, .ref a0)] := hl
  refine lv_aload_n hx hb dX11_dear_0 rfl (lv_at hl 0 rfl) ?_
  refine q_gr (T := TX11) C S.1 ga0 5 kF_X11_41 dX11_dear_1 rfl rfl (by decide) rfl (by decide) rfl (fun g1 => ?_)
  refine callV_Ev C S (c_X8_learnCharges l D G (fR D s.heap 10 a0 5) g1) kV_X11_259 g1 (trivial) (by decide +kernel) dX11_dear_4 hl.1 rfl rfl (by decide) cd_X8_learnCharges ⟨Nat.le_of_ble_eq_true rfl, Nat.le_of_ble_eq_true rfl, Nat.le_of_ble_eq_true rfl, Nat.le_of_ble_eq_true rfl, Nat.le_of_ble_eq_true rfl⟩ (fun H2 L2 S2 K2 q2 => ?_)
  refine lv_iconst (v := 0) hx hb dX11_dear_7 (by decide) ?_
  refine lv_istore_n (lv' := [(1, .int (0 : Int32)), (0, .ref a0)]) hx hb dX11_dear_8 rfl hl (by decide) rfl (fun ls hl => ?_)
  refine lv_iconst (v := -1) hx hb dX11_dear_9 (by decide) ?_
  refine lv_istore_n (lv' := [(2, .int (-1 : Int32)), (1, .int (0 : Int32)), (0, .ref a0)]) hx hb dX11_dear_10 rfl hl (by decide) rfl (fun ls hl => ?_)
  refine lv_iconst (v := 0) hx hb dX11_dear_11 (by decide) ?_
  refine lv_istore_n (lv' := [(3, .int (0 : Int32)), (2, .int (-1 : Int32)), (1, .int (0 : Int32)), (0, .ref a0)]) hx hb dX11_dear_12 rfl hl (by decide) rfl (fun ls hl => ?_)
  have Lp13 : ∀ (n : Nat) (x3_13 : Int32) (x2_13 : Int32) (x1_13 : Int32) (H_13 : Heap) (L_13 : List Loc) (ls : Array Slot), (Sd D G [(14, 0), (15, 0), (19, 0), (18, 2)] s.heap H_13 L_13) → (0 ≤ x3_13.toInt ∧ x3_13.toInt ≤ 2147483647) → 2147483648 - x3_13.toInt ≤ (n : Int) → lv_has ls 5 [(3, .int x3_13), (2, .int x2_13), (1, .int x1_13), (0, .ref a0)] → W p l e (rmU 4 0 0) s m args below meth c H_13 L_13 0 0 Q (F0 m 13 ls []) := by
    intro n
    induction n with
    | zero =>
      intro x3_13 x2_13 x1_13 H_13 L_13 ls S_13 j13_0 hn hl
      exact absurd hn (by omega)
    | succ n ih13 =>
      intro x3_13 x2_13 x1_13 H_13 L_13 ls S_13 j13_0 hn hl
      refine lv_iload_n hx hb dX11_dear_13 rfl (lv_at hl 0 rfl) ?_
      refine lv_bipush (v := 20) hx hb dX11_dear_14 (by decide) ?_
      have k_20 : (20 : Int32).toInt = 20 := by decide
      refine lv_icmp_gt (tgt := 46) hx hb dX11_dear_16 (by decide) (fun c3 => ?_) (fun c3 => ?_)
      · have b3 : (20 : Int32).toInt < x3_13.toInt := i_lt.mp c3
        refine lv_iload_n hx hb dX11_dear_46 rfl (lv_at hl 2 rfl) ?_
        exact retE_i hQ C S_13 hr dX11_dear_47 (trivial)
      · have b3 : ¬ (20 : Int32).toInt < x3_13.toInt := fun z9 => c3 (i_lt.mpr z9)
        refine lv_aload_n hx hb dX11_dear_19 rfl (lv_at hl 3 rfl) ?_
        refine q_gr (T := TX11) C S_13.1 ga0 5 kF_X11_41 dX11_dear_20 rfl rfl (by decide) rfl (by decide) rfl (fun g4 => ?_)
        refine lv_iload_n hx hb dX11_dear_23 rfl (lv_at hl 0 rfl) ?_
        refine callV_Ei C S_13 (c_X8_yieldBy l D G (fR D H_13 10 a0 5) x3_13 g4) kV_X11_268 g4 (trivial) (by decide +kernel) dX11_dear_24 hl.1 rfl rfl (by decide) cd_X8_yieldBy ⟨Nat.le_of_ble_eq_true rfl, Nat.le_of_ble_eq_true rfl, Nat.le_of_ble_eq_true rfl, Nat.le_of_ble_eq_true rfl, Nat.le_of_ble_eq_true rfl⟩ (fun v5 H5 L5 S5 K5 q5 => ?_)
        refine lv_istore (lv' := [(4, .int v5), (3, .int x3_13), (2, .int x2_13), (1, .int x1_13), (0, .ref a0)]) hx hb dX11_dear_27 hl (by decide) rfl (fun ls hl => ?_)
        refine lv_iload hx hb dX11_dear_29 (lv_at hl 0 rfl) ?_
        refine lv_iload_n hx hb dX11_dear_31 rfl (lv_at hl 2 rfl) ?_
        refine lv_icmp_le (tgt := 40) hx hb dX11_dear_32 (by decide) (fun c6 => ?_) (fun c6 => ?_)
        · have b6 : v5.toInt ≤ x2_13.toInt := i_le.mp c6
          obtain ⟨v7, ev7⟩ : ∃ y : Int32, y = x3_13 + (1) := ⟨_, rfl⟩
          have k_1 : (1 : Int32).toInt = 1 := by decide
          have f8 : v7.toInt = x3_13.toInt + (1) := by rw [ev7]; exact i_addc k_1 (by omega) (by omega)
          refine lv_iinc (v := v7) (lv' := [(3, .int v7), (4, .int v5), (2, .int x2_13), (1, .int x1_13), (0, .ref a0)]) hx hb dX11_dear_40 hl (k := 1) rfl (by rw [ev7]; rfl) (by decide) rfl (fun ls hl => ?_)
          refine lv_goto (tgt := 13) hx hb dX11_dear_43 (by decide) ?_
          exact ih13 v7 x2_13 x1_13 H5 L5 ls S5 (by omega) (by omega) (lv_sub hl [0, 2, 3, 4] rfl)
        · have b6 : ¬ v5.toInt ≤ x2_13.toInt := fun z9 => c6 (i_le.mpr z9)
          refine lv_iload hx hb dX11_dear_35 (lv_at hl 0 rfl) ?_
          refine lv_istore_n (lv' := [(2, .int v5), (4, .int v5), (3, .int x3_13), (1, .int x1_13), (0, .ref a0)]) hx hb dX11_dear_37 rfl hl (by decide) rfl (fun ls hl => ?_)
          refine lv_iload_n hx hb dX11_dear_38 rfl (lv_at hl 2 rfl) ?_
          refine lv_istore_n (lv' := [(1, .int x3_13), (2, .int v5), (4, .int v5), (3, .int x3_13), (0, .ref a0)]) hx hb dX11_dear_39 rfl hl (by decide) rfl (fun ls hl => ?_)
          obtain ⟨v9, ev9⟩ : ∃ y : Int32, y = x3_13 + (1) := ⟨_, rfl⟩
          have k_1 : (1 : Int32).toInt = 1 := by decide
          have f10 : v9.toInt = x3_13.toInt + (1) := by rw [ev9]; exact i_addc k_1 (by omega) (by omega)
          refine lv_iinc (v := v9) (lv' := [(3, .int v9), (1, .int x3_13), (2, .int v5), (4, .int v5), (0, .ref a0)]) hx hb dX11_dear_40 hl (k := 3) rfl (by rw [ev9]; rfl) (by decide) rfl (fun ls hl => ?_)
          refine lv_goto (tgt := 13) hx hb dX11_dear_43 (by decide) ?_
          exact ih13 v9 v5 x3_13 H5 L5 ls S5 (by omega) (by omega) (lv_sub hl [0, 2, 1, 4] rfl)
  have k_0 : (0 : Int32).toInt = 0 := by decide
  have k_m1 : (-1 : Int32).toInt = -1 := by decide
  exact Lp13 2147483648 (0 : Int32) (-1 : Int32) (0 : Int32) H2 L2 ls S2 (by omega)  (by omega) (lv_sub hl [0, 1, 2, 3] rfl)
