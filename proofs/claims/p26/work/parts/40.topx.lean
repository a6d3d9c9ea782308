set_option maxRecDepth 100000 in
set_option maxHeartbeats 4000000 in
theorem c_X11_odds (l : Launch) (D : DD) (G : Nat → Nat) (a0 : Nat) (x1 : Int32) (ga0 : G a0 = 1) : CX l D G yX11_odds cX11_odds 2 (some .int) 1 1 6 [.ref a0, .int x1] (fun _ => True) [] (xI (fun H r H1 => True)) (fun H En H1 => En = "java/lang/IndexOutOfBoundsException") := by
  refine enterX (by decide) (Nat.le_of_ble_eq_true rfl) ?_
  intro hl0 p e s m args below meth c ls Q hA hQ ht C hr hO hpre hl
  have hx := C.1
  have hb := C.2.1
  have S : Sd D G [] s.heap s.heap [] := Sd.start hO
  have hl : lv_has ls 2 [(0, .ref a0), (1, .int x1)] := hl
  refine lv_aload_n hx hb dX11_odds_0 rfl (lv_at hl 0 rfl) ?_
  refine lv_iload_n hx hb dX11_odds_1 rfl (lv_at hl 1 rfl) ?_
  refine callV_Xv hl0 C S (c_X11_needHouse l D G a0 x1 ga0) kV_X11_125 ga0 (trivial) (by decide +kernel) dX11_odds_2 hl.1 rfl rfl (by decide) cd_X11_needHouse ⟨Nat.le_of_ble_eq_true rfl, Nat.le_of_ble_eq_true rfl, Nat.le_of_ble_eq_true rfl, Nat.le_of_ble_eq_true rfl, Nat.le_of_ble_eq_true rfl⟩ (fun H1 L1 S1 K1 q1 => ?_) (fun En H1 L1 q9 ce S1 K1 X1 h7 h8 h9 => outX hQ C ht S1 h7 h8 h9 (by decide) (by decide) (by rcases X1 with rfl <;> simp))
  refine lv_aload_n hx hb dX11_odds_5 rfl (lv_at hl 0 rfl) ?_
  refine q_gr (T := TX11) C S1.1 ga0 1 kF_X11_19 dX11_odds_6 rfl rfl (by decide) rfl (by decide) rfl (fun g2 => ?_)
  refine q_gi (T := TX5) C S1.1 g2 8 kF_X11_289 dX11_odds_9 rfl rfl (by decide) rfl (by decide) rfl ?_
  refine lv_bipush (v := 100) hx hb dX11_odds_12 (by decide) ?_
  have k_100 : (100 : Int32).toInt = 100 := by decide
  refine lv_imul hx hb dX11_odds_14 ?_
  refine lv_topi (fun v3 ev3 => ?_)
  refine lv_bipush (v := 100) hx hb dX11_odds_15 (by decide) ?_
  refine lv_aload_n hx hb dX11_odds_17 rfl (lv_at hl 0 rfl) ?_
  refine q_gr (T := TX11) C S1.1 ga0 1 kF_X11_19 dX11_odds_18 rfl rfl (by decide) rfl (by decide) rfl (fun g4 => ?_)
  refine q_gi (T := TX5) C S1.1 g4 8 kF_X11_289 dX11_odds_21 rfl rfl (by decide) rfl (by decide) rfl ?_
  refine lv_isub hx hb dX11_odds_24 ?_
  refine lv_topi (fun v5 ev5 => ?_)
  refine lv_aload_n hx hb dX11_odds_25 rfl (lv_at hl 0 rfl) ?_
  refine q_gr (T := TX11) C S1.1 ga0 1 kF_X11_19 dX11_odds_26 rfl rfl (by decide) rfl (by decide) rfl (fun g6 => ?_)
  refine q_gr (T := TX5) C S1.1 g6 0 kF_X11_128 dX11_odds_29 rfl rfl (by decide) rfl (by decide) rfl (fun g7 => ?_)
  refine lv_iload_n hx hb dX11_odds_32 rfl (lv_at hl 1 rfl) ?_
  refine q_aald C S1.1 g7 (by omega) (by omega) dX11_odds_33 rfl (by decide) rfl rfl (fun g8 => ?_)
  refine q_gi (T := TX2) C S1.1 g8 4 kF_X11_146 dX11_odds_34 rfl rfl (by decide) rfl (by decide) rfl ?_
  refine lv_imul hx hb dX11_odds_37 ?_
  refine lv_topi (fun v9 ev9 => ?_)
  refine lv_iadd hx hb dX11_odds_38 ?_
  refine lv_topi (fun v10 ev10 => ?_)
  exact retX_i hQ C S1 hr dX11_odds_39 (by decide) (by decide) (trivial)

set_option maxRecDepth 100000 in
set_option maxHeartbeats 4000000 in
theorem c_X11_led (l : Launch) (D : DD) (G : Nat → Nat) (a0 : Nat) (x1 : Int32) (x2 : Int32) (ga0 : G a0 = 1) (ix2 : 0 ≤ x2.toInt ∧ x2.toInt ≤ 1) : CX l D G yX11_led cX11_led 3 (some .int) 2 1 6 [.ref a0, .int x1, .int x2] (fun _ => True) [] (xI (fun H r H1 => True)) (fun H En H1 => En = "java/lang/IndexOutOfBoundsException") := by
  refine enterX (by decide) (Nat.le_of_ble_eq_true rfl) ?_
  intro hl0 p e s m args below meth c ls Q hA hQ ht C hr hO hpre hl
  have hx := C.1
  have hb := C.2.1
  have S : Sd D G [] s.heap s.heap [] := Sd.start hO
  have hl : lv_has ls 3 [(0, .ref a0), (1, .int x1), (2, .int x2)] := hl
  refine lv_aload_n hx hb dX11_led_0 rfl (lv_at hl 0 rfl) ?_
  refine lv_iload_n hx hb dX11_led_1 rfl (lv_at hl 1 rfl) ?_
  refine callV_Xv hl0 C S (c_X11_needHouse l D G a0 x1 ga0) kV_X11_125 ga0 (trivial) (by decide +kernel) dX11_led_2 hl.1 rfl rfl (by decide) cd_X11_needHouse ⟨Nat.le_of_ble_eq_true rfl, Nat.le_of_ble_eq_true rfl, Nat.le_of_ble_eq_true rfl, Nat.le_of_ble_eq_true rfl, Nat.le_of_ble_eq_true rfl⟩ (fun H1 L1 S1 K1 q1 => ?_) (fun En H1 L1 q9 ce S1 K1 X1 h7 h8 h9 => outX hQ C ht S1 h7 h8 h9 (by decide) (by decide) (by rcases X1 with rfl <;> simp))
  refine lv_iload_n hx hb dX11_led_5 rfl (lv_at hl 2 rfl) ?_
  have k_0 : (0 : Int32).toInt = 0 := by decide
  refine lv_if_eq (tgt := 23) hx hb dX11_led_6 (by decide) (fun c2 => ?_) (fun c2 => ?_)
  · have b2 : x2.toInt = (0 : Int32).toInt := i_eq.mp c2
    refine lv_aload_n hx hb dX11_led_23 rfl (lv_at hl 0 rfl) ?_
    refine q_gr (T := TX11) C S1.1 ga0 1 kF_X11_19 dX11_led_24 rfl rfl (by decide) rfl (by decide) rfl (fun g3 => ?_)
    refine q_gr (T := TX5) C S1.1 g3 2 kF_X11_317 dX11_led_27 rfl rfl (by decide) rfl (by decide) rfl (fun g4 => ?_)
    refine lv_iload_n hx hb dX11_led_30 rfl (lv_at hl 1 rfl) ?_
    refine callV_Pi C S1.1 S1.2.1.2.1 (c_X0_rowsOf l D G (fR D H1 5 (fR D H1 10 a0 1) 2) x1 g4) kV_X11_326 g4 (trivial) dX11_led_31 hl.1 rfl rfl (by decide) cd_X0_rowsOf ⟨Nat.le_of_ble_eq_true rfl, Nat.le_of_ble_eq_true rfl, Nat.le_of_ble_eq_true rfl, Nat.le_of_ble_eq_true rfl, Nat.le_of_ble_eq_true rfl⟩ (fun v5 q5 => ?_)
    exact retX_i hQ C S1 hr dX11_led_34 (by decide) (by decide) (trivial)
  · have b2 : ¬ x2.toInt = (0 : Int32).toInt := fun z9 => c2 (i_eq.mpr z9)
    refine lv_aload_n hx hb dX11_led_9 rfl (lv_at hl 0 rfl) ?_
    refine q_gr (T := TX11) C S1.1 ga0 1 kF_X11_19 dX11_led_10 rfl rfl (by decide) rfl (by decide) rfl (fun g6 => ?_)
    refine q_gr (T := TX5) C S1.1 g6 2 kF_X11_317 dX11_led_13 rfl rfl (by decide) rfl (by decide) rfl (fun g7 => ?_)
    refine lv_iload_n hx hb dX11_led_16 rfl (lv_at hl 1 rfl) ?_
    refine callV_Pi C S1.1 S1.2.1.2.1 (c_X0_latestOf l D G (fR D H1 5 (fR D H1 10 a0 1) 2) x1 g7) kV_X11_321 g7 (trivial) dX11_led_17 hl.1 rfl rfl (by decide) cd_X0_latestOf ⟨Nat.le_of_ble_eq_true rfl, Nat.le_of_ble_eq_true rfl, Nat.le_of_ble_eq_true rfl, Nat.le_of_ble_eq_true rfl, Nat.le_of_ble_eq_true rfl⟩ (fun v8 q8 => ?_)
    refine lv_goto (tgt := 34) hx hb dX11_led_20 (by decide) ?_
    exact retX_i hQ C S1 hr dX11_led_34 (by decide) (by decide) (trivial)

set_option maxRecDepth 100000 in
set_option maxHeartbeats 4000000 in
theorem c_X11_window (l : Launch) (D : DD) (G : Nat → Nat) (a0 : Nat) (x1 : Int32) (ga0 : G a0 = 1) : CX l D G yX11_window cX11_window 2 (some .int) 4 1 6 [.ref a0, .int x1] (fun _ => True) [(14, 0), (15, 0)] (xI (fun H r H1 => True)) (fun H En H1 => En = "java/lang/IndexOutOfBoundsException") := by
  refine enterX (by decide) (Nat.le_of_ble_eq_true rfl) ?_
  intro hl0 p e s m args below meth c ls Q hA hQ ht C hr hO hpre hl
  have hx := C.1
  have hb := C.2.1
  have S : Sd D G [(14, 0), (15, 0)] s.heap s.heap [] := Sd.start hO
  have hl : lv_has ls 2 [(0, .ref a0), (1, .int x1)] := hl
  refine lv_aload_n hx hb dX11_window_0 rfl (lv_at hl 0 rfl) ?_
  refine lv_iload_n hx hb dX11_window_1 rfl (lv_at hl 1 rfl) ?_
  refine callV_Xv hl0 C S (c_X11_needHouse l D G a0 x1 ga0) kV_X11_125 ga0 (trivial) (by decide +kernel) dX11_window_2 hl.1 rfl rfl (by decide) cd_X11_needHouse ⟨Nat.le_of_ble_eq_true rfl, Nat.le_of_ble_eq_true rfl, Nat.le_of_ble_eq_true rfl, Nat.le_of_ble_eq_true rfl, Nat.le_of_ble_eq_true rfl⟩ (fun H1 L1 S1 K1 q1 => ?_) (fun En H1 L1 q9 ce S1 K1 X1 h7 h8 h9 => outX hQ C ht S1 h7 h8 h9 (by decide) (by decide) (by rcases X1 with rfl <;> simp))
  refine lv_iconst (v := 0) hx hb dX11_window_5 (by decide) ?_
  refine lv_aload_n hx hb dX11_window_6 rfl (lv_at hl 0 rfl) ?_
  refine q_gr (T := TX11) C S1.1 ga0 1 kF_X11_19 dX11_window_7 rfl rfl (by decide) rfl (by decide) rfl (fun g2 => ?_)
  refine q_gr (T := TX5) C S1.1 g2 0 kF_X11_128 dX11_window_10 rfl rfl (by decide) rfl (by decide) rfl (fun g3 => ?_)
  refine lv_iload_n hx hb dX11_window_13 rfl (lv_at hl 1 rfl) ?_
  refine q_aald C S1.1 g3 (by omega) (by omega) dX11_window_14 rfl (by decide) rfl rfl (fun g4 => ?_)
  refine q_gi (T := TX2) C S1.1 g4 2 kF_X11_140 dX11_window_15 rfl rfl (by decide) rfl (by decide) rfl ?_
  refine lv_bipush (v := 6) hx hb dX11_window_18 (by decide) ?_
  have k_6 : (6 : Int32).toInt = 6 := by decide
  refine lv_isub hx hb dX11_window_20 ?_
  refine lv_topi (fun v5 ev5 => ?_)
  have k_0 : (0 : Int32).toInt = 0 := by decide
  refine q_max C kN_X11_286 dX11_window_21 hl.1 ⟨Nat.le_of_ble_eq_true rfl, Nat.le_of_ble_eq_true rfl, Nat.le_of_ble_eq_true rfl, Nat.le_of_ble_eq_true rfl⟩ (fun v6 fv6 => ?_)
  refine lv_aload_n hx hb dX11_window_24 rfl (lv_at hl 0 rfl) ?_
  refine q_gr (T := TX11) C S1.1 ga0 1 kF_X11_19 dX11_window_25 rfl rfl (by decide) rfl (by decide) rfl (fun g7 => ?_)
  refine lv_iload_n hx hb dX11_window_28 rfl (lv_at hl 1 rfl) ?_
  refine callV_Ei C S1 (c_X5_paysOf l D G (fR D H1 10 a0 1) x1 g7) kV_X11_149 g7 (trivial) (by decide +kernel) dX11_window_29 hl.1 rfl rfl (by decide) cd_X5_paysOf ⟨Nat.le_of_ble_eq_true rfl, Nat.le_of_ble_eq_true rfl, Nat.le_of_ble_eq_true rfl, Nat.le_of_ble_eq_true rfl, Nat.le_of_ble_eq_true rfl⟩ (fun v8 H8 L8 S8 K8 q8 => ?_)
  refine lv_isub hx hb dX11_window_32 ?_
  refine lv_topi (fun v9 ev9 => ?_)
  exact retX_i hQ C S8 hr dX11_window_33 (by decide) (by decide) (trivial)

set_option maxRecDepth 100000 in
set_option maxHeartbeats 4000000 in
theorem c_X11_wall (l : Launch) (D : DD) (G : Nat → Nat) (a0 : Nat) (x1 : Int32) (ga0 : G a0 = 1) : CX l D G yX11_wall cX11_wall 4 (some .int) 3 2 12 [.ref a0, .int x1] (fun _ => True) [(7, 0), (7, 1), (7, 2), (7, 3), (7, 4), (8, 0), (8, 1), (8, 2), (8, 3), (8, 4), (8, 5), (11, 0), (9, 1), (9, 2), (4, 3), (4, 4), (4, 5), (4, 6), (4, 7), (4, 8), (4, 9), (4, 10), (4, 11), (4, 12), (4, 13), (16, 1), (16, 2)] (xI (fun H r H1 => (True) ∧ (∀ Vv Kv : Sg, CI D H a0 Vv Kv → CI D H1 a0 Vv Kv))) (fun H En H1 => (En = "java/lang/IndexOutOfBoundsException" ∨ En = "java/lang/IllegalStateException") ∧ (∀ Vv Kv : Sg, CI D H a0 Vv Kv → CI D H1 a0 Vv Kv)) := by
  refine enterX (by decide) (Nat.le_of_ble_eq_true rfl) ?_
  intro hl0 p e s m args below meth c ls Q hA hQ ht C hr hO hpre hl
  have hx := C.1
  have hb := C.2.1
  have S : Sd D G [(7, 0), (7, 1), (7, 2), (7, 3), (7, 4), (8, 0), (8, 1), (8, 2), (8, 3), (8, 4), (8, 5), (11, 0), (9, 1), (9, 2), (4, 3), (4, 4), (4, 5), (4, 6), (4, 7), (4, 8), (4, 9), (4, 10), (4, 11), (4, 12), (4, 13), (16, 1), (16, 2)] s.heap s.heap [] := Sd.start hO
  have hl : lv_has ls 4 [(0, .ref a0), (1, .int x1)] := hl
  have rk0 : ∀ Vv Kv : Sg, CI D s.heap a0 Vv Kv → CI D s.heap a0 Vv Kv := fun Vv Kv hv => hv
  refine lv_aload_n hx hb dX11_wall_0 rfl (lv_at hl 0 rfl) ?_
  refine lv_iload_n hx hb dX11_wall_1 rfl (lv_at hl 1 rfl) ?_
  refine callV_Xv hl0 C S (c_X11_needHearth l D G a0 x1 ga0) kV_X11_173 ga0 (trivial) (by decide +kernel) dX11_wall_2 hl.1 rfl rfl (by decide) cd_X11_needHearth ⟨Nat.le_of_ble_eq_true rfl, Nat.le_of_ble_eq_true rfl, Nat.le_of_ble_eq_true rfl, Nat.le_of_ble_eq_true rfl, Nat.le_of_ble_eq_true rfl⟩ (fun H1 L1 S1 K1 q1 => ?_) (fun En H1 L1 q9 ce S1 K1 X1 h7 h8 h9 => outX hQ C ht S1 h7 h8 h9 (by decide) (by decide) ⟨(by rcases X1 with rfl <;> simp), fun Vv Kv hv => (rk0 Vv Kv hv).keep S.1 ga0 K1 (by decide +kernel)⟩)
  have rk1 : ∀ Vv Kv : Sg, CI D s.heap a0 Vv Kv → CI D H1 a0 Vv Kv := fun Vv Kv hv => (rk0 Vv Kv hv).keep S.1 ga0 K1 (by decide +kernel)
  refine lv_aload_n hx hb dX11_wall_5 rfl (lv_at hl 0 rfl) ?_
  refine q_gr (T := TX11) C S1.1 ga0 1 kF_X11_19 dX11_wall_6 rfl rfl (by decide) rfl (by decide) rfl (fun g2 => ?_)
  refine q_gr (T := TX5) C S1.1 g2 1 kF_X11_176 dX11_wall_9 rfl rfl (by decide) rfl (by decide) rfl (fun g3 => ?_)
  refine lv_iload_n hx hb dX11_wall_12 rfl (lv_at hl 1 rfl) ?_
  refine q_aald C S1.1 g3 (by omega) (by omega) dX11_wall_13 rfl (by decide) rfl rfl (fun g4 => ?_)
  refine lv_astore_n (lv' := [(2, .ref (eR H1 (fR D H1 5 (fR D H1 10 a0 1) 1) x1.toInt.toNat)), (0, .ref a0), (1, .int x1)]) hx hb dX11_wall_14 rfl hl (by decide) rfl (fun ls hl => ?_)
  refine lv_aload_n hx hb dX11_wall_15 rfl (lv_at hl 1 rfl) ?_
  refine q_gr (T := TX11) C S1.1 ga0 1 kF_X11_19 dX11_wall_16 rfl rfl (by decide) rfl (by decide) rfl (fun g5 => ?_)
  refine q_gr (T := TX5) C S1.1 g5 0 kF_X11_128 dX11_wall_19 rfl rfl (by decide) rfl (by decide) rfl (fun g6 => ?_)
  refine lv_aload_n hx hb dX11_wall_22 rfl (lv_at hl 0 rfl) ?_
  refine q_gi (T := TX1) C S1.1 g4 0 kF_X11_180 dX11_wall_23 rfl rfl (by decide) rfl (by decide) rfl ?_
  have r7 : 0 ≤ (fI D H1 1 (eR H1 (fR D H1 5 (fR D H1 10 a0 1) 1) x1.toInt.toNat) 0).toInt ∧ (fI D H1 1 (eR H1 (fR D H1 5 (fR D H1 10 a0 1) 1) x1.toInt.toNat) 0).toInt ≤ 5 := S1.1.rng g4 rfl (by decide) rfl
  refine q_aald C S1.1 g6 (by omega) (by omega) dX11_wall_26 rfl (by decide) rfl rfl (fun g8 => ?_)
  refine lv_astore_n (lv' := [(3, .ref (eR H1 (fR D H1 5 (fR D H1 10 a0 1) 0) (fI D H1 1 (eR H1 (fR D H1 5 (fR D H1 10 a0 1) 1) x1.toInt.toNat) 0).toInt.toNat)), (2, .ref (eR H1 (fR D H1 5 (fR D H1 10 a0 1) 1) x1.toInt.toNat)), (0, .ref a0), (1, .int x1)]) hx hb dX11_wall_27 rfl hl (by decide) rfl (fun ls hl => ?_)
  refine lv_aload_n hx hb dX11_wall_28 rfl (lv_at hl 1 rfl) ?_
  refine q_gi (T := TX1) C S1.1 g4 5 kF_X11_197 dX11_wall_29 rfl rfl (by decide) rfl (by decide) rfl ?_
  refine lv_iconst (v := 1) hx hb dX11_wall_32 (by decide) ?_
  have k_1 : (1 : Int32).toInt = 1 := by decide
  refine lv_icmp_eq (tgt := 47) hx hb dX11_wall_33 (by decide) (fun c9 => ?_) (fun c9 => ?_)
  · have b9 : (fI D H1 1 (eR H1 (fR D H1 5 (fR D H1 10 a0 1) 1) x1.toInt.toNat) 5).toInt = (1 : Int32).toInt := i_eq.mp c9
    exact q_throw hl0 hQ C ht S1 kL_X11_208 kI_ISE ks_X11_210 ka_X11_212 kf_ISE dX11_wall_47 dX11_wall_50 dX11_wall_51 dX11_wall_53 dX11_wall_56 hl.1 ⟨Nat.le_of_ble_eq_true rfl, Nat.le_of_ble_eq_true rfl, Nat.le_of_ble_eq_true rfl, Nat.le_of_ble_eq_true rfl⟩ (by decide) (by decide) (fun H1 g1 g2 => ⟨by simp, fun Vv Kv hv => (rk1 Vv Kv hv).keep S1.1 ga0 (Keep.grow (E := []) S1.1 g1 g2) (by decide)⟩)
  · have b9 : ¬ (fI D H1 1 (eR H1 (fR D H1 5 (fR D H1 10 a0 1) 1) x1.toInt.toNat) 5).toInt = (1 : Int32).toInt := fun z9 => c9 (i_eq.mpr z9)
    refine lv_aload_n hx hb dX11_wall_36 rfl (lv_at hl 0 rfl) ?_
    refine q_gi (T := TX2) C S1.1 g8 0 kF_X11_132 dX11_wall_37 rfl rfl (by decide) rfl (by decide) rfl ?_
    refine lv_aload_n hx hb dX11_wall_40 rfl (lv_at hl 1 rfl) ?_
    refine q_gi (T := TX1) C S1.1 g4 4 kF_X11_194 dX11_wall_41 rfl rfl (by decide) rfl (by decide) rfl ?_
    refine lv_icmp_ge (tgt := 57) hx hb dX11_wall_44 (by decide) (fun c10 => ?_) (fun c10 => ?_)
    · have b10 : (fI D H1 1 (eR H1 (fR D H1 5 (fR D H1 10 a0 1) 1) x1.toInt.toNat) 4).toInt ≤ (fI D H1 2 (eR H1 (fR D H1 5 (fR D H1 10 a0 1) 0) (fI D H1 1 (eR H1 (fR D H1 5 (fR D H1 10 a0 1) 1) x1.toInt.toNat) 0).toInt.toNat) 0).toInt := i_le.mp c10
      refine lv_aload_n hx hb dX11_wall_57 rfl (lv_at hl 2 rfl) ?_
      refine q_gr (T := TX11) C S1.1 ga0 4 kF_X11_32 dX11_wall_58 rfl rfl (by decide) rfl (by decide) rfl (fun g11 => ?_)
      refine lv_aload_n hx hb dX11_wall_61 rfl (lv_at hl 2 rfl) ?_
      refine q_gr (T := TX11) C S1.1 ga0 1 kF_X11_19 dX11_wall_62 rfl rfl (by decide) rfl (by decide) rfl (fun g12 => ?_)
      refine callV_Ev C S1 (c_X7_remember l D G (fR D H1 10 a0 4) (fR D H1 10 a0 1) g11 g12) kV_X11_213 g11 (trivial) (by decide +kernel) dX11_wall_65 hl.1 rfl rfl (by decide) cd_X7_remember ⟨Nat.le_of_ble_eq_true rfl, Nat.le_of_ble_eq_true rfl, Nat.le_of_ble_eq_true rfl, Nat.le_of_ble_eq_true rfl, Nat.le_of_ble_eq_true rfl⟩ (fun H13 L13 S13 K13 q13 => ?_)
      have rk13 : ∀ Vv Kv : Sg, CI D s.heap a0 Vv Kv → CI D H13 a0 Vv Kv := fun Vv Kv hv => (rk1 Vv Kv hv).rem S1.1 ga0 K13 (by decide +kernel) (by decide +kernel) q13.1 (S1.1.rng (k := 1) (gPast S1.1 ga0) rfl (by decide) rfl) (S1.1.rng (k := 2) (gPast S1.1 ga0) rfl (by decide) rfl) q13.2.1 q13.2.2
      refine lv_aload_n hx hb dX11_wall_68 rfl (lv_at hl 1 rfl) ?_
      refine lv_iconst (v := 1) hx hb dX11_wall_69 (by decide) ?_
      refine q_put (T := TX1) C S13 g4 5 kF_X11_197 dX11_wall_70 rfl rfl (by decide) (by decide) rfl rfl rfl rfl rfl (vok_a rfl) (by decide +kernel) (fun H14 L14 S14 P14 => ?_)
      have rk14 : ∀ Vv Kv : Sg, CI D s.heap a0 Vv Kv → CI D H14 a0 Vv Kv := fun Vv Kv hv => (rk13 Vv Kv hv).keep S13.1 ga0 (Pt.keep g4 rfl (by decide) P14) (by decide)
      refine lv_aload_n hx hb dX11_wall_73 rfl (lv_at hl 0 rfl) ?_
      refine lv_dup hx hb dX11_wall_74 rfl ?_
      refine q_gi (T := TX2) C S14.1 g8 0 kF_X11_132 dX11_wall_75 rfl rfl (by decide) rfl (by decide) rfl ?_
      refine lv_aload_n hx hb dX11_wall_78 rfl (lv_at hl 1 rfl) ?_
      refine q_gi (T := TX1) C S14.1 g4 4 kF_X11_194 dX11_wall_79 rfl rfl (by decide) rfl (by decide) rfl ?_
      refine lv_isub hx hb dX11_wall_82 ?_
      refine lv_topi (fun v15 ev15 => ?_)
      refine q_put (T := TX2) C S14 g8 0 kF_X11_132 dX11_wall_83 rfl rfl (by decide) (by decide) rfl rfl rfl rfl rfl (vok_a rfl) (by decide +kernel) (fun H16 L16 S16 P16 => ?_)
      have rk16 : ∀ Vv Kv : Sg, CI D s.heap a0 Vv Kv → CI D H16 a0 Vv Kv := fun Vv Kv hv => (rk14 Vv Kv hv).keep S14.1 ga0 (Pt.keep g8 rfl (by decide) P16) (by decide)
      refine lv_aload_n hx hb dX11_wall_86 rfl (lv_at hl 0 rfl) ?_
      refine q_gi (T := TX2) C S16.1 g8 0 kF_X11_132 dX11_wall_87 rfl rfl (by decide) rfl (by decide) rfl ?_
      exact retX_i hQ C S16 hr dX11_wall_90 (by decide) (by decide) (⟨trivial, rk16⟩)
    · have b10 : ¬ (fI D H1 1 (eR H1 (fR D H1 5 (fR D H1 10 a0 1) 1) x1.toInt.toNat) 4).toInt ≤ (fI D H1 2 (eR H1 (fR D H1 5 (fR D H1 10 a0 1) 0) (fI D H1 1 (eR H1 (fR D H1 5 (fR D H1 10 a0 1) 1) x1.toInt.toNat) 0).toInt.toNat) 0).toInt := fun z9 => c10 (i_le.mpr z9)
      exact q_throw hl0 hQ C ht S1 kL_X11_208 kI_ISE ks_X11_210 ka_X11_212 kf_ISE dX11_wall_47 dX11_wall_50 dX11_wall_51 dX11_wall_53 dX11_wall_56 hl.1 ⟨Nat.le_of_ble_eq_true rfl, Nat.le_of_ble_eq_true rfl, Nat.le_of_ble_eq_true rfl, Nat.le_of_ble_eq_true rfl⟩ (by decide) (by decide) (fun H1 g1 g2 => ⟨by simp, fun Vv Kv hv => (rk1 Vv Kv hv).keep S1.1 ga0 (Keep.grow (E := []) S1.1 g1 g2) (by decide)⟩)

set_option maxRecDepth 100000 in
set_option maxHeartbeats 4000000 in
theorem c_X11_open (l : Launch) (D : DD) (G : Nat → Nat) (a0 : Nat) (x1 : Int32) (ga0 : G a0 = 1) : CX l D G yX11_open cX11_open 4 (some .int) 3 2 12 [.ref a0, .int x1] (fun _ => True) [(7, 0), (7, 1), (7, 2), (7, 3), (7, 4), (8, 0), (8, 1), (8, 2), (8, 3), (8, 4), (8, 5), (11, 0), (9, 1), (9, 2), (4, 3), (4, 4), (4, 5), (4, 6), (4, 7), (4, 8), (4, 9), (4, 10), (4, 11), (4, 12), (4, 13), (16, 1), (16, 2)] (xI (fun H r H1 => (True) ∧ (∀ Vv Kv : Sg, CI D H a0 Vv Kv → CI D H1 a0 Vv Kv))) (fun H En H1 => (En = "java/lang/IndexOutOfBoundsException" ∨ En = "java/lang/IllegalStateException") ∧ (∀ Vv Kv : Sg, CI D H a0 Vv Kv → CI D H1 a0 Vv Kv)) := by
  refine enterX (by decide) (Nat.le_of_ble_eq_true rfl) ?_
  intro hl0 p e s m args below meth c ls Q hA hQ ht C hr hO hpre hl
  have hx := C.1
  have hb := C.2.1
  have S : Sd D G [(7, 0), (7, 1), (7, 2), (7, 3), (7, 4), (8, 0), (8, 1), (8, 2), (8, 3), (8, 4), (8, 5), (11, 0), (9, 1), (9, 2), (4, 3), (4, 4), (4, 5), (4, 6), (4, 7), (4, 8), (4, 9), (4, 10), (4, 11), (4, 12), (4, 13), (16, 1), (16, 2)] s.heap s.heap [] := Sd.start hO
  have hl : lv_has ls 4 [(0, .ref a0), (1, .int x1)] := hl
  have rk0 : ∀ Vv Kv : Sg, CI D s.heap a0 Vv Kv → CI D s.heap a0 Vv Kv := fun Vv Kv hv => hv
  refine lv_aload_n hx hb dX11_open_0 rfl (lv_at hl 0 rfl) ?_
  refine lv_iload_n hx hb dX11_open_1 rfl (lv_at hl 1 rfl) ?_
  refine callV_Xv hl0 C S (c_X11_needHearth l D G a0 x1 ga0) kV_X11_173 ga0 (trivial) (by decide +kernel) dX11_open_2 hl.1 rfl rfl (by decide) cd_X11_needHearth ⟨Nat.le_of_ble_eq_true rfl, Nat.le_of_ble_eq_true rfl, Nat.le_of_ble_eq_true rfl, Nat.le_of_ble_eq_true rfl, Nat.le_of_ble_eq_true rfl⟩ (fun H1 L1 S1 K1 q1 => ?_) (fun En H1 L1 q9 ce S1 K1 X1 h7 h8 h9 => outX hQ C ht S1 h7 h8 h9 (by decide) (by decide) ⟨(by rcases X1 with rfl <;> simp), fun Vv Kv hv => (rk0 Vv Kv hv).keep S.1 ga0 K1 (by decide +kernel)⟩)
  have rk1 : ∀ Vv Kv : Sg, CI D s.heap a0 Vv Kv → CI D H1 a0 Vv Kv := fun Vv Kv hv => (rk0 Vv Kv hv).keep S.1 ga0 K1 (by decide +kernel)
  refine lv_aload_n hx hb dX11_open_5 rfl (lv_at hl 0 rfl) ?_
  refine q_gr (T := TX11) C S1.1 ga0 1 kF_X11_19 dX11_open_6 rfl rfl (by decide) rfl (by decide) rfl (fun g2 => ?_)
  refine q_gr (T := TX5) C S1.1 g2 1 kF_X11_176 dX11_open_9 rfl rfl (by decide) rfl (by decide) rfl (fun g3 => ?_)
  refine lv_iload_n hx hb dX11_open_12 rfl (lv_at hl 1 rfl) ?_
  refine q_aald C S1.1 g3 (by omega) (by omega) dX11_open_13 rfl (by decide) rfl rfl (fun g4 => ?_)
  refine lv_astore_n (lv' := [(2, .ref (eR H1 (fR D H1 5 (fR D H1 10 a0 1) 1) x1.toInt.toNat)), (0, .ref a0), (1, .int x1)]) hx hb dX11_open_14 rfl hl (by decide) rfl (fun ls hl => ?_)
  refine lv_aload_n hx hb dX11_open_15 rfl (lv_at hl 0 rfl) ?_
  refine q_gi (T := TX1) C S1.1 g4 5 kF_X11_197 dX11_open_16 rfl rfl (by decide) rfl (by decide) rfl ?_
  have k_0 : (0 : Int32).toInt = 0 := by decide
  refine lv_if_ne (tgt := 32) hx hb dX11_open_19 (by decide) (fun c5 => ?_) (fun c5 => ?_)
  · have b5 : ¬ (fI D H1 1 (eR H1 (fR D H1 5 (fR D H1 10 a0 1) 1) x1.toInt.toNat) 5).toInt = (0 : Int32).toInt := fun z9 => c5 (i_eq.mpr z9)
    refine lv_aload_n hx hb dX11_open_32 rfl (lv_at hl 1 rfl) ?_
    refine q_gr (T := TX11) C S1.1 ga0 4 kF_X11_32 dX11_open_33 rfl rfl (by decide) rfl (by decide) rfl (fun g6 => ?_)
    refine lv_aload_n hx hb dX11_open_36 rfl (lv_at hl 1 rfl) ?_
    refine q_gr (T := TX11) C S1.1 ga0 1 kF_X11_19 dX11_open_37 rfl rfl (by decide) rfl (by decide) rfl (fun g7 => ?_)
    refine callV_Ev C S1 (c_X7_remember l D G (fR D H1 10 a0 4) (fR D H1 10 a0 1) g6 g7) kV_X11_213 g6 (trivial) (by decide +kernel) dX11_open_40 hl.1 rfl rfl (by decide) cd_X7_remember ⟨Nat.le_of_ble_eq_true rfl, Nat.le_of_ble_eq_true rfl, Nat.le_of_ble_eq_true rfl, Nat.le_of_ble_eq_true rfl, Nat.le_of_ble_eq_true rfl⟩ (fun H8 L8 S8 K8 q8 => ?_)
    have rk8 : ∀ Vv Kv : Sg, CI D s.heap a0 Vv Kv → CI D H8 a0 Vv Kv := fun Vv Kv hv => (rk1 Vv Kv hv).rem S1.1 ga0 K8 (by decide +kernel) (by decide +kernel) q8.1 (S1.1.rng (k := 1) (gPast S1.1 ga0) rfl (by decide) rfl) (S1.1.rng (k := 2) (gPast S1.1 ga0) rfl (by decide) rfl) q8.2.1 q8.2.2
    refine lv_aload_n hx hb dX11_open_43 rfl (lv_at hl 0 rfl) ?_
    refine q_gi (T := TX1) C S8.1 g4 5 kF_X11_197 dX11_open_44 rfl rfl (by decide) rfl (by decide) rfl ?_
    refine lv_istore_n (lv' := [(3, .int (fI D H8 1 (eR H1 (fR D H1 5 (fR D H1 10 a0 1) 1) x1.toInt.toNat) 5)), (2, .ref (eR H1 (fR D H1 5 (fR D H1 10 a0 1) 1) x1.toInt.toNat)), (0, .ref a0), (1, .int x1)]) hx hb dX11_open_47 rfl hl (by decide) rfl (fun ls hl => ?_)
    refine lv_aload_n hx hb dX11_open_48 rfl (lv_at hl 1 rfl) ?_
    refine lv_iconst (v := 0) hx hb dX11_open_49 (by decide) ?_
    refine q_put (T := TX1) C S8 g4 5 kF_X11_197 dX11_open_50 rfl rfl (by decide) (by decide) rfl rfl rfl rfl rfl (vok_a rfl) (by decide +kernel) (fun H9 L9 S9 P9 => ?_)
    have rk9 : ∀ Vv Kv : Sg, CI D s.heap a0 Vv Kv → CI D H9 a0 Vv Kv := fun Vv Kv hv => (rk8 Vv Kv hv).keep S8.1 ga0 (Pt.keep g4 rfl (by decide) P9) (by decide)
    refine lv_iload_n hx hb dX11_open_53 rfl (lv_at hl 0 rfl) ?_
    exact retX_i hQ C S9 hr dX11_open_54 (by decide) (by decide) (⟨trivial, rk9⟩)
  · have b5 : (fI D H1 1 (eR H1 (fR D H1 5 (fR D H1 10 a0 1) 1) x1.toInt.toNat) 5).toInt = (0 : Int32).toInt := i_eq.mp c5
    exact q_throw hl0 hQ C ht S1 kL_X11_208 kI_ISE ks_X11_216 ka_X11_212 kf_ISE dX11_open_22 dX11_open_25 dX11_open_26 dX11_open_28 dX11_open_31 hl.1 ⟨Nat.le_of_ble_eq_true rfl, Nat.le_of_ble_eq_true rfl, Nat.le_of_ble_eq_true rfl, Nat.le_of_ble_eq_true rfl⟩ (by decide) (by decide) (fun H1 g1 g2 => ⟨by simp, fun Vv Kv hv => (rk1 Vv Kv hv).keep S1.1 ga0 (Keep.grow (E := []) S1.1 g1 g2) (by decide)⟩)

set_option maxRecDepth 100000 in
set_option maxHeartbeats 4000000 in
theorem c_X11_hide (l : Launch) (D : DD) (G : Nat → Nat) (a0 : Nat) (x1 : Int32) (ga0 : G a0 = 1) : CX l D G yX11_hide cX11_hide 4 (some .int) 3 2 12 [.ref a0, .int x1] (fun _ => True) [(7, 0), (7, 1), (7, 2), (7, 3), (7, 4), (8, 0), (8, 1), (8, 2), (8, 3), (8, 4), (8, 5), (11, 0), (9, 1), (9, 2), (4, 3), (4, 4), (4, 5), (4, 6), (4, 7), (4, 8), (4, 9), (4, 10), (4, 11), (4, 12), (4, 13), (16, 1), (16, 2)] (xI (fun H r H1 => (True) ∧ (∀ Vv Kv : Sg, CI D H a0 Vv Kv → CI D H1 a0 Vv Kv))) (fun H En H1 => (En = "java/lang/IndexOutOfBoundsException" ∨ En = "java/lang/IllegalStateException") ∧ (∀ Vv Kv : Sg, CI D H a0 Vv Kv → CI D H1 a0 Vv Kv)) := by
  refine enterX (by decide) (Nat.le_of_ble_eq_true rfl) ?_
  intro hl0 p e s m args below meth c ls Q hA hQ ht C hr hO hpre hl
  have hx := C.1
  have hb := C.2.1
  have S : Sd D G [(7, 0), (7, 1), (7, 2), (7, 3), (7, 4), (8, 0), (8, 1), (8, 2), (8, 3), (8, 4), (8, 5), (11, 0), (9, 1), (9, 2), (4, 3), (4, 4), (4, 5), (4, 6), (4, 7), (4, 8), (4, 9), (4, 10), (4, 11), (4, 12), (4, 13), (16, 1), (16, 2)] s.heap s.heap [] := Sd.start hO
  have hl : lv_has ls 4 [(0, .ref a0), (1, .int x1)] := hl
  have rk0 : ∀ Vv Kv : Sg, CI D s.heap a0 Vv Kv → CI D s.heap a0 Vv Kv := fun Vv Kv hv => hv
  refine lv_aload_n hx hb dX11_hide_0 rfl (lv_at hl 0 rfl) ?_
  refine lv_iload_n hx hb dX11_hide_1 rfl (lv_at hl 1 rfl) ?_
  refine callV_Xv hl0 C S (c_X11_needHearth l D G a0 x1 ga0) kV_X11_173 ga0 (trivial) (by decide +kernel) dX11_hide_2 hl.1 rfl rfl (by decide) cd_X11_needHearth ⟨Nat.le_of_ble_eq_true rfl, Nat.le_of_ble_eq_true rfl, Nat.le_of_ble_eq_true rfl, Nat.le_of_ble_eq_true rfl, Nat.le_of_ble_eq_true rfl⟩ (fun H1 L1 S1 K1 q1 => ?_) (fun En H1 L1 q9 ce S1 K1 X1 h7 h8 h9 => outX hQ C ht S1 h7 h8 h9 (by decide) (by decide) ⟨(by rcases X1 with rfl <;> simp), fun Vv Kv hv => (rk0 Vv Kv hv).keep S.1 ga0 K1 (by decide +kernel)⟩)
  have rk1 : ∀ Vv Kv : Sg, CI D s.heap a0 Vv Kv → CI D H1 a0 Vv Kv := fun Vv Kv hv => (rk0 Vv Kv hv).keep S.1 ga0 K1 (by decide +kernel)
  refine lv_aload_n hx hb dX11_hide_5 rfl (lv_at hl 0 rfl) ?_
  refine q_gr (T := TX11) C S1.1 ga0 1 kF_X11_19 dX11_hide_6 rfl rfl (by decide) rfl (by decide) rfl (fun g2 => ?_)
  refine q_gr (T := TX5) C S1.1 g2 1 kF_X11_176 dX11_hide_9 rfl rfl (by decide) rfl (by decide) rfl (fun g3 => ?_)
  refine lv_iload_n hx hb dX11_hide_12 rfl (lv_at hl 1 rfl) ?_
  refine q_aald C S1.1 g3 (by omega) (by omega) dX11_hide_13 rfl (by decide) rfl rfl (fun g4 => ?_)
  refine lv_astore_n (lv' := [(2, .ref (eR H1 (fR D H1 5 (fR D H1 10 a0 1) 1) x1.toInt.toNat)), (0, .ref a0), (1, .int x1)]) hx hb dX11_hide_14 rfl hl (by decide) rfl (fun ls hl => ?_)
  refine lv_aload_n hx hb dX11_hide_15 rfl (lv_at hl 1 rfl) ?_
  refine q_gr (T := TX11) C S1.1 ga0 1 kF_X11_19 dX11_hide_16 rfl rfl (by decide) rfl (by decide) rfl (fun g5 => ?_)
  refine q_gr (T := TX5) C S1.1 g5 0 kF_X11_128 dX11_hide_19 rfl rfl (by decide) rfl (by decide) rfl (fun g6 => ?_)
  refine lv_aload_n hx hb dX11_hide_22 rfl (lv_at hl 0 rfl) ?_
  refine q_gi (T := TX1) C S1.1 g4 0 kF_X11_180 dX11_hide_23 rfl rfl (by decide) rfl (by decide) rfl ?_
  have r7 : 0 ≤ (fI D H1 1 (eR H1 (fR D H1 5 (fR D H1 10 a0 1) 1) x1.toInt.toNat) 0).toInt ∧ (fI D H1 1 (eR H1 (fR D H1 5 (fR D H1 10 a0 1) 1) x1.toInt.toNat) 0).toInt ≤ 5 := S1.1.rng g4 rfl (by decide) rfl
  refine q_aald C S1.1 g6 (by omega) (by omega) dX11_hide_26 rfl (by decide) rfl rfl (fun g8 => ?_)
  refine lv_astore_n (lv' := [(3, .ref (eR H1 (fR D H1 5 (fR D H1 10 a0 1) 0) (fI D H1 1 (eR H1 (fR D H1 5 (fR D H1 10 a0 1) 1) x1.toInt.toNat) 0).toInt.toNat)), (2, .ref (eR H1 (fR D H1 5 (fR D H1 10 a0 1) 1) x1.toInt.toNat)), (0, .ref a0), (1, .int x1)]) hx hb dX11_hide_27 rfl hl (by decide) rfl (fun ls hl => ?_)
  refine lv_aload_n hx hb dX11_hide_28 rfl (lv_at hl 1 rfl) ?_
  refine q_gi (T := TX1) C S1.1 g4 5 kF_X11_197 dX11_hide_29 rfl rfl (by decide) rfl (by decide) rfl ?_
  have k_0 : (0 : Int32).toInt = 0 := by decide
  refine lv_if_ne (tgt := 49) hx hb dX11_hide_32 (by decide) (fun c9 => ?_) (fun c9 => ?_)
  · have b9 : ¬ (fI D H1 1 (eR H1 (fR D H1 5 (fR D H1 10 a0 1) 1) x1.toInt.toNat) 5).toInt = (0 : Int32).toInt := fun z9 => c9 (i_eq.mpr z9)
    exact q_throw hl0 hQ C ht S1 kL_X11_208 kI_ISE ks_X11_221 ka_X11_212 kf_ISE dX11_hide_49 dX11_hide_52 dX11_hide_53 dX11_hide_55 dX11_hide_58 hl.1 ⟨Nat.le_of_ble_eq_true rfl, Nat.le_of_ble_eq_true rfl, Nat.le_of_ble_eq_true rfl, Nat.le_of_ble_eq_true rfl⟩ (by decide) (by decide) (fun H1 g1 g2 => ⟨by simp, fun Vv Kv hv => (rk1 Vv Kv hv).keep S1.1 ga0 (Keep.grow (E := []) S1.1 g1 g2) (by decide)⟩)
  · have b9 : (fI D H1 1 (eR H1 (fR D H1 5 (fR D H1 10 a0 1) 1) x1.toInt.toNat) 5).toInt = (0 : Int32).toInt := i_eq.mp c9
    refine lv_aload_n hx hb dX11_hide_35 rfl (lv_at hl 0 rfl) ?_
    refine q_gi (T := TX2) C S1.1 g8 0 kF_X11_132 dX11_hide_36 rfl rfl (by decide) rfl (by decide) rfl ?_
    refine lv_aload_n hx hb dX11_hide_39 rfl (lv_at hl 2 rfl) ?_
    refine q_gr (T := TX11) C S1.1 ga0 1 kF_X11_19 dX11_hide_40 rfl rfl (by decide) rfl (by decide) rfl (fun g10 => ?_)
    refine q_gi (T := TX5) C S1.1 g10 9 kF_X11_218 dX11_hide_43 rfl rfl (by decide) rfl (by decide) rfl ?_
    refine lv_icmp_ge (tgt := 59) hx hb dX11_hide_46 (by decide) (fun c11 => ?_) (fun c11 => ?_)
    · have b11 : (fI D H1 5 (fR D H1 10 a0 1) 9).toInt ≤ (fI D H1 2 (eR H1 (fR D H1 5 (fR D H1 10 a0 1) 0) (fI D H1 1 (eR H1 (fR D H1 5 (fR D H1 10 a0 1) 1) x1.toInt.toNat) 0).toInt.toNat) 0).toInt := i_le.mp c11
      refine lv_aload_n hx hb dX11_hide_59 rfl (lv_at hl 2 rfl) ?_
      refine q_gr (T := TX11) C S1.1 ga0 4 kF_X11_32 dX11_hide_60 rfl rfl (by decide) rfl (by decide) rfl (fun g12 => ?_)
      refine lv_aload_n hx hb dX11_hide_63 rfl (lv_at hl 2 rfl) ?_
      refine q_gr (T := TX11) C S1.1 ga0 1 kF_X11_19 dX11_hide_64 rfl rfl (by decide) rfl (by decide) rfl (fun g13 => ?_)
      refine callV_Ev C S1 (c_X7_remember l D G (fR D H1 10 a0 4) (fR D H1 10 a0 1) g12 g13) kV_X11_213 g12 (trivial) (by decide +kernel) dX11_hide_67 hl.1 rfl rfl (by decide) cd_X7_remember ⟨Nat.le_of_ble_eq_true rfl, Nat.le_of_ble_eq_true rfl, Nat.le_of_ble_eq_true rfl, Nat.le_of_ble_eq_true rfl, Nat.le_of_ble_eq_true rfl⟩ (fun H14 L14 S14 K14 q14 => ?_)
      have rk14 : ∀ Vv Kv : Sg, CI D s.heap a0 Vv Kv → CI D H14 a0 Vv Kv := fun Vv Kv hv => (rk1 Vv Kv hv).rem S1.1 ga0 K14 (by decide +kernel) (by decide +kernel) q14.1 (S1.1.rng (k := 1) (gPast S1.1 ga0) rfl (by decide) rfl) (S1.1.rng (k := 2) (gPast S1.1 ga0) rfl (by decide) rfl) q14.2.1 q14.2.2
      refine lv_aload_n hx hb dX11_hide_70 rfl (lv_at hl 1 rfl) ?_
      refine lv_iconst (v := 2) hx hb dX11_hide_71 (by decide) ?_
      have k_2 : (2 : Int32).toInt = 2 := by decide
      refine q_put (T := TX1) C S14 g4 5 kF_X11_197 dX11_hide_72 rfl rfl (by decide) (by decide) rfl rfl rfl rfl rfl (vok_a rfl) (by decide +kernel) (fun H15 L15 S15 P15 => ?_)
      have rk15 : ∀ Vv Kv : Sg, CI D s.heap a0 Vv Kv → CI D H15 a0 Vv Kv := fun Vv Kv hv => (rk14 Vv Kv hv).keep S14.1 ga0 (Pt.keep g4 rfl (by decide) P15) (by decide)
      refine lv_aload_n hx hb dX11_hide_75 rfl (lv_at hl 0 rfl) ?_
      refine lv_dup hx hb dX11_hide_76 rfl ?_
      refine q_gi (T := TX2) C S15.1 g8 0 kF_X11_132 dX11_hide_77 rfl rfl (by decide) rfl (by decide) rfl ?_
      refine lv_aload_n hx hb dX11_hide_80 rfl (lv_at hl 2 rfl) ?_
      refine q_gr (T := TX11) C S15.1 ga0 1 kF_X11_19 dX11_hide_81 rfl rfl (by decide) rfl (by decide) rfl (fun g16 => ?_)
      refine q_gi (T := TX5) C S15.1 g16 9 kF_X11_218 dX11_hide_84 rfl rfl (by decide) rfl (by decide) rfl ?_
      refine lv_isub hx hb dX11_hide_87 ?_
      refine lv_topi (fun v17 ev17 => ?_)
      refine q_put (T := TX2) C S15 g8 0 kF_X11_132 dX11_hide_88 rfl rfl (by decide) (by decide) rfl rfl rfl rfl rfl (vok_a rfl) (by decide +kernel) (fun H18 L18 S18 P18 => ?_)
      have rk18 : ∀ Vv Kv : Sg, CI D s.heap a0 Vv Kv → CI D H18 a0 Vv Kv := fun Vv Kv hv => (rk15 Vv Kv hv).keep S15.1 ga0 (Pt.keep g8 rfl (by decide) P18) (by decide)
      refine lv_aload_n hx hb dX11_hide_91 rfl (lv_at hl 0 rfl) ?_
      refine q_gi (T := TX2) C S18.1 g8 0 kF_X11_132 dX11_hide_92 rfl rfl (by decide) rfl (by decide) rfl ?_
      exact retX_i hQ C S18 hr dX11_hide_95 (by decide) (by decide) (⟨trivial, rk18⟩)
    · have b11 : ¬ (fI D H1 5 (fR D H1 10 a0 1) 9).toInt ≤ (fI D H1 2 (eR H1 (fR D H1 5 (fR D H1 10 a0 1) 0) (fI D H1 1 (eR H1 (fR D H1 5 (fR D H1 10 a0 1) 1) x1.toInt.toNat) 0).toInt.toNat) 0).toInt := fun z9 => c11 (i_le.mpr z9)
      exact q_throw hl0 hQ C ht S1 kL_X11_208 kI_ISE ks_X11_221 ka_X11_212 kf_ISE dX11_hide_49 dX11_hide_52 dX11_hide_53 dX11_hide_55 dX11_hide_58 hl.1 ⟨Nat.le_of_ble_eq_true rfl, Nat.le_of_ble_eq_true rfl, Nat.le_of_ble_eq_true rfl, Nat.le_of_ble_eq_true rfl⟩ (by decide) (by decide) (fun H1 g1 g2 => ⟨by simp, fun Vv Kv hv => (rk1 Vv Kv hv).keep S1.1 ga0 (Keep.grow (E := []) S1.1 g1 g2) (by decide)⟩)

set_option maxRecDepth 100000 in
set_option maxHeartbeats 4000000 in
theorem c_X11_paper (l : Launch) (D : DD) (G : Nat → Nat) (a0 : Nat) (x1 : Int32) (x2 : Int32) (ga0 : G a0 = 1) (ix2 : 0 ≤ x2.toInt ∧ x2.toInt ≤ 1) : CX l D G yX11_paper cX11_paper 4 (some .boolean) 3 1 6 [.ref a0, .int x1, .int x2] (fun _ => True) [(7, 0), (7, 1), (7, 2), (7, 3), (7, 4), (8, 0), (8, 1), (8, 2), (8, 3), (8, 4), (8, 5), (11, 0), (9, 1), (9, 2), (4, 3), (4, 4), (4, 5), (4, 6), (4, 7), (4, 8), (4, 9), (4, 10), (4, 11), (4, 12), (4, 13), (16, 1), (16, 2)] (xI (fun H r H1 => (0 ≤ r.toInt ∧ r.toInt ≤ 1) ∧ (∀ Vv Kv : Sg, CI D H a0 Vv Kv → CI D H1 a0 Vv Kv))) (fun H En H1 => (En = "java/lang/IndexOutOfBoundsException") ∧ (∀ Vv Kv : Sg, CI D H a0 Vv Kv → CI D H1 a0 Vv Kv)) := by
  refine enterX (by decide) (Nat.le_of_ble_eq_true rfl) ?_
  intro hl0 p e s m args below meth c ls Q hA hQ ht C hr hO hpre hl
  have hx := C.1
  have hb := C.2.1
  have S : Sd D G [(7, 0), (7, 1), (7, 2), (7, 3), (7, 4), (8, 0), (8, 1), (8, 2), (8, 3), (8, 4), (8, 5), (11, 0), (9, 1), (9, 2), (4, 3), (4, 4), (4, 5), (4, 6), (4, 7), (4, 8), (4, 9), (4, 10), (4, 11), (4, 12), (4, 13), (16, 1), (16, 2)] s.heap s.heap [] := Sd.start hO
  have hl : lv_has ls 4 [(0, .ref a0), (1, .int x1), (2, .int x2)] := hl
  have rk0 : ∀ Vv Kv : Sg, CI D s.heap a0 Vv Kv → CI D s.heap a0 Vv Kv := fun Vv Kv hv => hv
  refine lv_aload_n hx hb dX11_paper_0 rfl (lv_at hl 0 rfl) ?_
  refine lv_iload_n hx hb dX11_paper_1 rfl (lv_at hl 1 rfl) ?_
  refine callV_Xv hl0 C S (c_X11_needHouse l D G a0 x1 ga0) kV_X11_125 ga0 (trivial) (by decide +kernel) dX11_paper_2 hl.1 rfl rfl (by decide) cd_X11_needHouse ⟨Nat.le_of_ble_eq_true rfl, Nat.le_of_ble_eq_true rfl, Nat.le_of_ble_eq_true rfl, Nat.le_of_ble_eq_true rfl, Nat.le_of_ble_eq_true rfl⟩ (fun H1 L1 S1 K1 q1 => ?_) (fun En H1 L1 q9 ce S1 K1 X1 h7 h8 h9 => outX hQ C ht S1 h7 h8 h9 (by decide) (by decide) ⟨(by rcases X1 with rfl <;> simp), fun Vv Kv hv => (rk0 Vv Kv hv).keep S.1 ga0 K1 (by decide +kernel)⟩)
  have rk1 : ∀ Vv Kv : Sg, CI D s.heap a0 Vv Kv → CI D H1 a0 Vv Kv := fun Vv Kv hv => (rk0 Vv Kv hv).keep S.1 ga0 K1 (by decide +kernel)
  refine lv_aload_n hx hb dX11_paper_5 rfl (lv_at hl 0 rfl) ?_
  refine q_gr (T := TX11) C S1.1 ga0 1 kF_X11_19 dX11_paper_6 rfl rfl (by decide) rfl (by decide) rfl (fun g2 => ?_)
  refine q_gr (T := TX5) C S1.1 g2 0 kF_X11_128 dX11_paper_9 rfl rfl (by decide) rfl (by decide) rfl (fun g3 => ?_)
  refine lv_iload_n hx hb dX11_paper_12 rfl (lv_at hl 1 rfl) ?_
  refine q_aald C S1.1 g3 (by omega) (by omega) dX11_paper_13 rfl (by decide) rfl rfl (fun g4 => ?_)
  refine lv_astore_n (lv' := [(3, .ref (eR H1 (fR D H1 5 (fR D H1 10 a0 1) 0) x1.toInt.toNat)), (0, .ref a0), (1, .int x1), (2, .int x2)]) hx hb dX11_paper_14 rfl hl (by decide) rfl (fun ls hl => ?_)
  refine lv_aload_n hx hb dX11_paper_15 rfl (lv_at hl 0 rfl) ?_
  refine q_gi (T := TX2) C S1.1 g4 1 kF_X11_137 dX11_paper_16 rfl rfl (by decide) rfl (by decide) rfl ?_
  have r5 : 0 ≤ (fI D H1 2 (eR H1 (fR D H1 5 (fR D H1 10 a0 1) 0) x1.toInt.toNat) 1).toInt ∧ (fI D H1 2 (eR H1 (fR D H1 5 (fR D H1 10 a0 1) 0) x1.toInt.toNat) 1).toInt ≤ 1 := S1.1.rng g4 rfl (by decide) rfl
  refine lv_iload_n hx hb dX11_paper_19 rfl (lv_at hl 3 rfl) ?_
  refine lv_icmp_ne (tgt := 25) hx hb dX11_paper_20 (by decide) (fun c6 => ?_) (fun c6 => ?_)
  · have b6 : ¬ (fI D H1 2 (eR H1 (fR D H1 5 (fR D H1 10 a0 1) 0) x1.toInt.toNat) 1).toInt = x2.toInt := fun z9 => c6 (i_eq.mpr z9)
    refine lv_aload_n hx hb dX11_paper_25 rfl (lv_at hl 1 rfl) ?_
    refine q_gr (T := TX11) C S1.1 ga0 4 kF_X11_32 dX11_paper_26 rfl rfl (by decide) rfl (by decide) rfl (fun g7 => ?_)
    refine lv_aload_n hx hb dX11_paper_29 rfl (lv_at hl 1 rfl) ?_
    refine q_gr (T := TX11) C S1.1 ga0 1 kF_X11_19 dX11_paper_30 rfl rfl (by decide) rfl (by decide) rfl (fun g8 => ?_)
    refine callV_Ev C S1 (c_X7_remember l D G (fR D H1 10 a0 4) (fR D H1 10 a0 1) g7 g8) kV_X11_213 g7 (trivial) (by decide +kernel) dX11_paper_33 hl.1 rfl rfl (by decide) cd_X7_remember ⟨Nat.le_of_ble_eq_true rfl, Nat.le_of_ble_eq_true rfl, Nat.le_of_ble_eq_true rfl, Nat.le_of_ble_eq_true rfl, Nat.le_of_ble_eq_true rfl⟩ (fun H9 L9 S9 K9 q9 => ?_)
    have rk9 : ∀ Vv Kv : Sg, CI D s.heap a0 Vv Kv → CI D H9 a0 Vv Kv := fun Vv Kv hv => (rk1 Vv Kv hv).rem S1.1 ga0 K9 (by decide +kernel) (by decide +kernel) q9.1 (S1.1.rng (k := 1) (gPast S1.1 ga0) rfl (by decide) rfl) (S1.1.rng (k := 2) (gPast S1.1 ga0) rfl (by decide) rfl) q9.2.1 q9.2.2
    refine lv_aload_n hx hb dX11_paper_36 rfl (lv_at hl 0 rfl) ?_
    refine lv_iload_n hx hb dX11_paper_37 rfl (lv_at hl 3 rfl) ?_
    refine q_put (T := TX2) C S9 g4 1 kF_X11_137 dX11_paper_38 rfl rfl (by decide) (by decide) rfl rfl rfl (nar_z (by omega) (by omega)) (fit_z (by omega) (by omega)) (vok_i rfl (by omega) (by omega)) (by decide +kernel) (fun H10 L10 S10 P10 => ?_)
    have rk10 : ∀ Vv Kv : Sg, CI D s.heap a0 Vv Kv → CI D H10 a0 Vv Kv := fun Vv Kv hv => (rk9 Vv Kv hv).keep S9.1 ga0 (Pt.keep g4 rfl (by decide) P10) (by decide)
    refine lv_iconst (v := 1) hx hb dX11_paper_41 (by decide) ?_
    have k_1 : (1 : Int32).toInt = 1 := by decide
    exact retX_z hQ C S10 hr dX11_paper_42 (z01 (by omega) (by omega)) (by decide) (by decide) (⟨by omega, rk10⟩)
  · have b6 : (fI D H1 2 (eR H1 (fR D H1 5 (fR D H1 10 a0 1) 0) x1.toInt.toNat) 1).toInt = x2.toInt := i_eq.mp c6
    refine lv_iconst (v := 0) hx hb dX11_paper_23 (by decide) ?_
    have k_0 : (0 : Int32).toInt = 0 := by decide
    exact retX_z hQ C S1 hr dX11_paper_24 (z01 (by omega) (by omega)) (by decide) (by decide) (⟨by omega, rk1⟩)

set_option maxRecDepth 100000 in
set_option maxHeartbeats 4000000 in
theorem c_X11_flue (l : Launch) (D : DD) (G : Nat → Nat) (a0 : Nat) (x1 : Int32) (x2 : Int32) (ga0 : G a0 = 1) : CX l D G yX11_flue cX11_flue 5 (some .int) 3 2 12 [.ref a0, .int x1, .int x2] (fun _ => True) [(7, 0), (7, 1), (7, 2), (7, 3), (7, 4), (8, 0), (8, 1), (8, 2), (8, 3), (8, 4), (8, 5), (11, 0), (9, 1), (9, 2), (4, 3), (4, 4), (4, 5), (4, 6), (4, 7), (4, 8), (4, 9), (4, 10), (4, 11), (4, 12), (4, 13), (16, 1), (16, 2)] (xI (fun H r H1 => (True) ∧ (∀ Vv Kv : Sg, CI D H a0 Vv Kv → CI D H1 a0 Vv Kv))) (fun H En H1 => (En = "java/lang/IndexOutOfBoundsException") ∧ (∀ Vv Kv : Sg, CI D H a0 Vv Kv → CI D H1 a0 Vv Kv)) := by
  refine enterX (by decide) (Nat.le_of_ble_eq_true rfl) ?_
  intro hl0 p e s m args below meth c ls Q hA hQ ht C hr hO hpre hl
  have hx := C.1
  have hb := C.2.1
  have S : Sd D G [(7, 0), (7, 1), (7, 2), (7, 3), (7, 4), (8, 0), (8, 1), (8, 2), (8, 3), (8, 4), (8, 5), (11, 0), (9, 1), (9, 2), (4, 3), (4, 4), (4, 5), (4, 6), (4, 7), (4, 8), (4, 9), (4, 10), (4, 11), (4, 12), (4, 13), (16, 1), (16, 2)] s.heap s.heap [] := Sd.start hO
  have hl : lv_has ls 5 [(0, .ref a0), (1, .int x1), (2, .int x2)] := hl
  have rk0 : ∀ Vv Kv : Sg, CI D s.heap a0 Vv Kv → CI D s.heap a0 Vv Kv := fun Vv Kv hv => hv
  refine lv_aload_n hx hb dX11_flue_0 rfl (lv_at hl 0 rfl) ?_
  refine lv_iload_n hx hb dX11_flue_1 rfl (lv_at hl 1 rfl) ?_
  refine callV_Xv hl0 C S (c_X11_needHearth l D G a0 x1 ga0) kV_X11_173 ga0 (trivial) (by decide +kernel) dX11_flue_2 hl.1 rfl rfl (by decide) cd_X11_needHearth ⟨Nat.le_of_ble_eq_true rfl, Nat.le_of_ble_eq_true rfl, Nat.le_of_ble_eq_true rfl, Nat.le_of_ble_eq_true rfl, Nat.le_of_ble_eq_true rfl⟩ (fun H1 L1 S1 K1 q1 => ?_) (fun En H1 L1 q9 ce S1 K1 X1 h7 h8 h9 => outX hQ C ht S1 h7 h8 h9 (by decide) (by decide) ⟨(by rcases X1 with rfl <;> simp), fun Vv Kv hv => (rk0 Vv Kv hv).keep S.1 ga0 K1 (by decide +kernel)⟩)
  have rk1 : ∀ Vv Kv : Sg, CI D s.heap a0 Vv Kv → CI D H1 a0 Vv Kv := fun Vv Kv hv => (rk0 Vv Kv hv).keep S.1 ga0 K1 (by decide +kernel)
  refine lv_iload_n hx hb dX11_flue_5 rfl (lv_at hl 2 rfl) ?_
  have k_0 : (0 : Int32).toInt = 0 := by decide
  refine lv_if_lt (tgt := 15) hx hb dX11_flue_6 (by decide) (fun c2 => ?_) (fun c2 => ?_)
  · have b2 : x2.toInt < (0 : Int32).toInt := i_lt.mp c2
    exact q_throw hl0 hQ C ht S1 kL_X11_223 kI_IOB ks_X11_225 ka_X11_227 kf_IOB dX11_flue_15 dX11_flue_18 dX11_flue_19 dX11_flue_21 dX11_flue_24 hl.1 ⟨Nat.le_of_ble_eq_true rfl, Nat.le_of_ble_eq_true rfl, Nat.le_of_ble_eq_true rfl, Nat.le_of_ble_eq_true rfl⟩ (by decide) (by decide) (fun H1 g1 g2 => ⟨by simp, fun Vv Kv hv => (rk1 Vv Kv hv).keep S1.1 ga0 (Keep.grow (E := []) S1.1 g1 g2) (by decide)⟩)
  · have b2 : ¬ x2.toInt < (0 : Int32).toInt := fun z9 => c2 (i_lt.mpr z9)
    refine lv_iload_n hx hb dX11_flue_9 rfl (lv_at hl 2 rfl) ?_
    refine lv_bipush (v := 10) hx hb dX11_flue_10 (by decide) ?_
    have k_10 : (10 : Int32).toInt = 10 := by decide
    refine lv_icmp_lt (tgt := 25) hx hb dX11_flue_12 (by decide) (fun c3 => ?_) (fun c3 => ?_)
    · have b3 : x2.toInt < (10 : Int32).toInt := i_lt.mp c3
      refine lv_aload_n hx hb dX11_flue_25 rfl (lv_at hl 0 rfl) ?_
      refine q_gr (T := TX11) C S1.1 ga0 4 kF_X11_32 dX11_flue_26 rfl rfl (by decide) rfl (by decide) rfl (fun g4 => ?_)
      refine lv_aload_n hx hb dX11_flue_29 rfl (lv_at hl 0 rfl) ?_
      refine q_gr (T := TX11) C S1.1 ga0 1 kF_X11_19 dX11_flue_30 rfl rfl (by decide) rfl (by decide) rfl (fun g5 => ?_)
      refine callV_Ev C S1 (c_X7_remember l D G (fR D H1 10 a0 4) (fR D H1 10 a0 1) g4 g5) kV_X11_213 g4 (trivial) (by decide +kernel) dX11_flue_33 hl.1 rfl rfl (by decide) cd_X7_remember ⟨Nat.le_of_ble_eq_true rfl, Nat.le_of_ble_eq_true rfl, Nat.le_of_ble_eq_true rfl, Nat.le_of_ble_eq_true rfl, Nat.le_of_ble_eq_true rfl⟩ (fun H6 L6 S6 K6 q6 => ?_)
      have rk6 : ∀ Vv Kv : Sg, CI D s.heap a0 Vv Kv → CI D H6 a0 Vv Kv := fun Vv Kv hv => (rk1 Vv Kv hv).rem S1.1 ga0 K6 (by decide +kernel) (by decide +kernel) q6.1 (S1.1.rng (k := 1) (gPast S1.1 ga0) rfl (by decide) rfl) (S1.1.rng (k := 2) (gPast S1.1 ga0) rfl (by decide) rfl) q6.2.1 q6.2.2
      refine lv_aload_n hx hb dX11_flue_36 rfl (lv_at hl 0 rfl) ?_
      refine q_gr (T := TX11) C S6.1 ga0 1 kF_X11_19 dX11_flue_37 rfl rfl (by decide) rfl (by decide) rfl (fun g7 => ?_)
      refine q_gr (T := TX5) C S6.1 g7 1 kF_X11_176 dX11_flue_40 rfl rfl (by decide) rfl (by decide) rfl (fun g8 => ?_)
      refine lv_iload_n hx hb dX11_flue_43 rfl (lv_at hl 1 rfl) ?_
      refine q_aald C S6.1 g8 (by omega) (by omega) dX11_flue_44 rfl (by decide) rfl rfl (fun g9 => ?_)
      refine lv_astore_n (lv' := [(3, .ref (eR H6 (fR D H6 5 (fR D H6 10 a0 1) 1) x1.toInt.toNat)), (0, .ref a0), (1, .int x1), (2, .int x2)]) hx hb dX11_flue_45 rfl hl (by decide) rfl (fun ls hl => ?_)
      refine lv_aload_n hx hb dX11_flue_46 rfl (lv_at hl 0 rfl) ?_
      refine q_gi (T := TX1) C S6.1 g9 2 kF_X11_188 dX11_flue_47 rfl rfl (by decide) rfl (by decide) rfl ?_
      refine lv_istore (lv' := [(4, .int (fI D H6 1 (eR H6 (fR D H6 5 (fR D H6 10 a0 1) 1) x1.toInt.toNat) 2)), (3, .ref (eR H6 (fR D H6 5 (fR D H6 10 a0 1) 1) x1.toInt.toNat)), (0, .ref a0), (1, .int x1), (2, .int x2)]) hx hb dX11_flue_50 hl (by decide) rfl (fun ls hl => ?_)
      refine lv_aload_n hx hb dX11_flue_52 rfl (lv_at hl 1 rfl) ?_
      refine lv_iload_n hx hb dX11_flue_53 rfl (lv_at hl 4 rfl) ?_
      refine q_put (T := TX1) C S6 g9 2 kF_X11_188 dX11_flue_54 rfl rfl (by decide) (by decide) rfl rfl rfl rfl rfl (vok_a rfl) (by decide +kernel) (fun H10 L10 S10 P10 => ?_)
      have rk10 : ∀ Vv Kv : Sg, CI D s.heap a0 Vv Kv → CI D H10 a0 Vv Kv := fun Vv Kv hv => (rk6 Vv Kv hv).keep S6.1 ga0 (Pt.keep g9 rfl (by decide) P10) (by decide)
      refine lv_iload hx hb dX11_flue_57 (lv_at hl 0 rfl) ?_
      exact retX_i hQ C S10 hr dX11_flue_59 (by decide) (by decide) (⟨trivial, rk10⟩)
    · have b3 : ¬ x2.toInt < (10 : Int32).toInt := fun z9 => c3 (i_lt.mpr z9)
      exact q_throw hl0 hQ C ht S1 kL_X11_223 kI_IOB ks_X11_225 ka_X11_227 kf_IOB dX11_flue_15 dX11_flue_18 dX11_flue_19 dX11_flue_21 dX11_flue_24 hl.1 ⟨Nat.le_of_ble_eq_true rfl, Nat.le_of_ble_eq_true rfl, Nat.le_of_ble_eq_true rfl, Nat.le_of_ble_eq_true rfl⟩ (by decide) (by decide) (fun H1 g1 g2 => ⟨by simp, fun Vv Kv hv => (rk1 Vv Kv hv).keep S1.1 ga0 (Keep.grow (E := []) S1.1 g1 g2) (by decide)⟩)

set_option maxRecDepth 100000 in
set_option maxHeartbeats 4000000 in
theorem c_X11_rate (l : Launch) (D : DD) (G : Nat → Nat) (a0 : Nat) (x1 : Int32) (ga0 : G a0 = 1) : CX l D G yX11_rate cX11_rate 3 (some .int) 3 1 6 [.ref a0, .int x1] (fun _ => True) [(7, 0), (7, 1), (7, 2), (7, 3), (7, 4), (8, 0), (8, 1), (8, 2), (8, 3), (8, 4), (8, 5), (11, 0), (9, 1), (9, 2), (4, 3), (4, 4), (4, 5), (4, 6), (4, 7), (4, 8), (4, 9), (4, 10), (4, 11), (4, 12), (4, 13), (16, 1), (16, 2)] (xI (fun H r H1 => (True) ∧ (∀ Vv Kv : Sg, CI D H a0 Vv Kv → CI D H1 a0 Vv Kv))) (fun H En H1 => (En = "java/lang/IllegalArgumentException") ∧ (∀ Vv Kv : Sg, CI D H a0 Vv Kv → CI D H1 a0 Vv Kv)) := by
  refine enterX (by decide) (Nat.le_of_ble_eq_true rfl) ?_
  intro hl0 p e s m args below meth c ls Q hA hQ ht C hr hO hpre hl
  have hx := C.1
  have hb := C.2.1
  have S : Sd D G [(7, 0), (7, 1), (7, 2), (7, 3), (7, 4), (8, 0), (8, 1), (8, 2), (8, 3), (8, 4), (8, 5), (11, 0), (9, 1), (9, 2), (4, 3), (4, 4), (4, 5), (4, 6), (4, 7), (4, 8), (4, 9), (4, 10), (4, 11), (4, 12), (4, 13), (16, 1), (16, 2)] s.heap s.heap [] := Sd.start hO
  have hl : lv_has ls 3 [(0, .ref a0), (1, .int x1)] := hl
  have rk0 : ∀ Vv Kv : Sg, CI D s.heap a0 Vv Kv → CI D s.heap a0 Vv Kv := fun Vv Kv hv => hv
  refine lv_aload_n hx hb dX11_rate_0 rfl (lv_at hl 0 rfl) ?_
  refine lv_iload_n hx hb dX11_rate_1 rfl (lv_at hl 1 rfl) ?_
  refine lv_iconst (v := 0) hx hb dX11_rate_2 (by decide) ?_
  refine lv_bipush (v := 20) hx hb dX11_rate_3 (by decide) ?_
  have k_0 : (0 : Int32).toInt = 0 := by decide
  have k_20 : (20 : Int32).toInt = 20 := by decide
  refine callV_Xv hl0 C S (c_X11_needNumber l D G a0 x1 (0 : Int32) (20 : Int32) ga0) kV_X11_228 ga0 (trivial) (by decide +kernel) dX11_rate_5 hl.1 rfl rfl (by decide) cd_X11_needNumber ⟨Nat.le_of_ble_eq_true rfl, Nat.le_of_ble_eq_true rfl, Nat.le_of_ble_eq_true rfl, Nat.le_of_ble_eq_true rfl, Nat.le_of_ble_eq_true rfl⟩ (fun H1 L1 S1 K1 q1 => ?_) (fun En H1 L1 q9 ce S1 K1 X1 h7 h8 h9 => outX hQ C ht S1 h7 h8 h9 (by decide) (by decide) ⟨(by rcases X1 with rfl <;> simp), fun Vv Kv hv => (rk0 Vv Kv hv).keep S.1 ga0 K1 (by decide +kernel)⟩)
  have rk1 : ∀ Vv Kv : Sg, CI D s.heap a0 Vv Kv → CI D H1 a0 Vv Kv := fun Vv Kv hv => (rk0 Vv Kv hv).keep S.1 ga0 K1 (by decide +kernel)
  refine lv_aload_n hx hb dX11_rate_8 rfl (lv_at hl 0 rfl) ?_
  refine q_gr (T := TX11) C S1.1 ga0 4 kF_X11_32 dX11_rate_9 rfl rfl (by decide) rfl (by decide) rfl (fun g2 => ?_)
  refine lv_aload_n hx hb dX11_rate_12 rfl (lv_at hl 0 rfl) ?_
  refine q_gr (T := TX11) C S1.1 ga0 1 kF_X11_19 dX11_rate_13 rfl rfl (by decide) rfl (by decide) rfl (fun g3 => ?_)
  refine callV_Ev C S1 (c_X7_remember l D G (fR D H1 10 a0 4) (fR D H1 10 a0 1) g2 g3) kV_X11_213 g2 (trivial) (by decide +kernel) dX11_rate_16 hl.1 rfl rfl (by decide) cd_X7_remember ⟨Nat.le_of_ble_eq_true rfl, Nat.le_of_ble_eq_true rfl, Nat.le_of_ble_eq_true rfl, Nat.le_of_ble_eq_true rfl, Nat.le_of_ble_eq_true rfl⟩ (fun H4 L4 S4 K4 q4 => ?_)
  have rk4 : ∀ Vv Kv : Sg, CI D s.heap a0 Vv Kv → CI D H4 a0 Vv Kv := fun Vv Kv hv => (rk1 Vv Kv hv).rem S1.1 ga0 K4 (by decide +kernel) (by decide +kernel) q4.1 (S1.1.rng (k := 1) (gPast S1.1 ga0) rfl (by decide) rfl) (S1.1.rng (k := 2) (gPast S1.1 ga0) rfl (by decide) rfl) q4.2.1 q4.2.2
  refine lv_aload_n hx hb dX11_rate_19 rfl (lv_at hl 0 rfl) ?_
  refine q_gr (T := TX11) C S4.1 ga0 1 kF_X11_19 dX11_rate_20 rfl rfl (by decide) rfl (by decide) rfl (fun g5 => ?_)
  refine q_gi (T := TX5) C S4.1 g5 6 kF_X11_232 dX11_rate_23 rfl rfl (by decide) rfl (by decide) rfl ?_
  refine lv_istore_n (lv' := [(2, .int (fI D H4 5 (fR D H4 10 a0 1) 6)), (0, .ref a0), (1, .int x1)]) hx hb dX11_rate_26 rfl hl (by decide) rfl (fun ls hl => ?_)
  refine lv_aload_n hx hb dX11_rate_27 rfl (lv_at hl 1 rfl) ?_
  refine q_gr (T := TX11) C S4.1 ga0 1 kF_X11_19 dX11_rate_28 rfl rfl (by decide) rfl (by decide) rfl (fun g6 => ?_)
  refine lv_iload_n hx hb dX11_rate_31 rfl (lv_at hl 2 rfl) ?_
  refine q_put (T := TX5) C S4 g6 6 kF_X11_232 dX11_rate_32 rfl rfl (by decide) (by decide) rfl rfl rfl rfl rfl (vok_a rfl) (by decide +kernel) (fun H7 L7 S7 P7 => ?_)
  have rk7 : ∀ Vv Kv : Sg, CI D s.heap a0 Vv Kv → CI D H7 a0 Vv Kv := fun Vv Kv hv => (rk4 Vv Kv hv).keep S4.1 ga0 (Pt.keep g6 rfl (by decide) P7) (by decide)
  refine lv_iload_n hx hb dX11_rate_35 rfl (lv_at hl 0 rfl) ?_
  exact retX_i hQ C S7 hr dX11_rate_36 (by decide) (by decide) (⟨trivial, rk7⟩)

set_option maxRecDepth 100000 in
set_option maxHeartbeats 4000000 in
theorem c_X11_give (l : Launch) (D : DD) (G : Nat → Nat) (a0 : Nat) (x1 : Int32) (x2 : Int32) (ga0 : G a0 = 1) : CX l D G yX11_give cX11_give 4 (some .int) 3 2 12 [.ref a0, .int x1, .int x2] (fun _ => True) [(7, 0), (7, 1), (7, 2), (7, 3), (7, 4), (8, 0), (8, 1), (8, 2), (8, 3), (8, 4), (8, 5), (11, 0), (9, 1), (9, 2), (4, 3), (4, 4), (4, 5), (4, 6), (4, 7), (4, 8), (4, 9), (4, 10), (4, 11), (4, 12), (4, 13), (16, 1), (16, 2)] (xI (fun H r H1 => (True) ∧ (∀ Vv Kv : Sg, CI D H a0 Vv Kv → CI D H1 a0 Vv Kv))) (fun H En H1 => (En = "java/lang/IndexOutOfBoundsException" ∨ En = "java/lang/IllegalArgumentException") ∧ (∀ Vv Kv : Sg, CI D H a0 Vv Kv → CI D H1 a0 Vv Kv)) := by
  refine enterX (by decide) (Nat.le_of_ble_eq_true rfl) ?_
  intro hl0 p e s m args below meth c ls Q hA hQ ht C hr hO hpre hl
  have hx := C.1
  have hb := C.2.1
  have S : Sd D G [(7, 0), (7, 1), (7, 2), (7, 3), (7, 4), (8, 0), (8, 1), (8, 2), (8, 3), (8, 4), (8, 5), (11, 0), (9, 1), (9, 2), (4, 3), (4, 4), (4, 5), (4, 6), (4, 7), (4, 8), (4, 9), (4, 10), (4, 11), (4, 12), (4, 13), (16, 1), (16, 2)] s.heap s.heap [] := Sd.start hO
  have hl : lv_has ls 4 [(0, .ref a0), (1, .int x1), (2, .int x2)] := hl
  have rk0 : ∀ Vv Kv : Sg, CI D s.heap a0 Vv Kv → CI D s.heap a0 Vv Kv := fun Vv Kv hv => hv
  refine lv_aload_n hx hb dX11_give_0 rfl (lv_at hl 0 rfl) ?_
  refine lv_iload_n hx hb dX11_give_1 rfl (lv_at hl 1 rfl) ?_
  refine callV_Xv hl0 C S (c_X11_needHouse l D G a0 x1 ga0) kV_X11_125 ga0 (trivial) (by decide +kernel) dX11_give_2 hl.1 rfl rfl (by decide) cd_X11_needHouse ⟨Nat.le_of_ble_eq_true rfl, Nat.le_of_ble_eq_true rfl, Nat.le_of_ble_eq_true rfl, Nat.le_of_ble_eq_true rfl, Nat.le_of_ble_eq_true rfl⟩ (fun H1 L1 S1 K1 q1 => ?_) (fun En H1 L1 q9 ce S1 K1 X1 h7 h8 h9 => outX hQ C ht S1 h7 h8 h9 (by decide) (by decide) ⟨(by rcases X1 with rfl <;> simp), fun Vv Kv hv => (rk0 Vv Kv hv).keep S.1 ga0 K1 (by decide +kernel)⟩)
  have rk1 : ∀ Vv Kv : Sg, CI D s.heap a0 Vv Kv → CI D H1 a0 Vv Kv := fun Vv Kv hv => (rk0 Vv Kv hv).keep S.1 ga0 K1 (by decide +kernel)
  refine lv_aload_n hx hb dX11_give_5 rfl (lv_at hl 0 rfl) ?_
  refine lv_iload_n hx hb dX11_give_6 rfl (lv_at hl 2 rfl) ?_
  refine lv_iconst (v := 1) hx hb dX11_give_7 (by decide) ?_
  refine lv_sipush (v := 999) hx hb dX11_give_8 (by decide) ?_
  have k_1 : (1 : Int32).toInt = 1 := by decide
  have k_999 : (999 : Int32).toInt = 999 := by decide
  refine callV_Xv hl0 C S1 (c_X11_needNumber l D G a0 x2 (1 : Int32) (999 : Int32) ga0) kV_X11_228 ga0 (trivial) (by decide +kernel) dX11_give_11 hl.1 rfl rfl (by decide) cd_X11_needNumber ⟨Nat.le_of_ble_eq_true rfl, Nat.le_of_ble_eq_true rfl, Nat.le_of_ble_eq_true rfl, Nat.le_of_ble_eq_true rfl, Nat.le_of_ble_eq_true rfl⟩ (fun H2 L2 S2 K2 q2 => ?_) (fun En H2 L2 q9 ce S2 K2 X2 h7 h8 h9 => outX hQ C ht S2 h7 h8 h9 (by decide) (by decide) ⟨(by rcases X2 with rfl <;> simp), fun Vv Kv hv => (rk1 Vv Kv hv).keep S1.1 ga0 K2 (by decide +kernel)⟩)
  have rk2 : ∀ Vv Kv : Sg, CI D s.heap a0 Vv Kv → CI D H2 a0 Vv Kv := fun Vv Kv hv => (rk1 Vv Kv hv).keep S1.1 ga0 K2 (by decide +kernel)
  refine lv_aload_n hx hb dX11_give_14 rfl (lv_at hl 0 rfl) ?_
  refine q_gr (T := TX11) C S2.1 ga0 4 kF_X11_32 dX11_give_15 rfl rfl (by decide) rfl (by decide) rfl (fun g3 => ?_)
  refine lv_aload_n hx hb dX11_give_18 rfl (lv_at hl 0 rfl) ?_
  refine q_gr (T := TX11) C S2.1 ga0 1 kF_X11_19 dX11_give_19 rfl rfl (by decide) rfl (by decide) rfl (fun g4 => ?_)
  refine callV_Ev C S2 (c_X7_remember l D G (fR D H2 10 a0 4) (fR D H2 10 a0 1) g3 g4) kV_X11_213 g3 (trivial) (by decide +kernel) dX11_give_22 hl.1 rfl rfl (by decide) cd_X7_remember ⟨Nat.le_of_ble_eq_true rfl, Nat.le_of_ble_eq_true rfl, Nat.le_of_ble_eq_true rfl, Nat.le_of_ble_eq_true rfl, Nat.le_of_ble_eq_true rfl⟩ (fun H5 L5 S5 K5 q5 => ?_)
  have rk5 : ∀ Vv Kv : Sg, CI D s.heap a0 Vv Kv → CI D H5 a0 Vv Kv := fun Vv Kv hv => (rk2 Vv Kv hv).rem S2.1 ga0 K5 (by decide +kernel) (by decide +kernel) q5.1 (S2.1.rng (k := 1) (gPast S2.1 ga0) rfl (by decide) rfl) (S2.1.rng (k := 2) (gPast S2.1 ga0) rfl (by decide) rfl) q5.2.1 q5.2.2
  refine lv_aload_n hx hb dX11_give_25 rfl (lv_at hl 0 rfl) ?_
  refine q_gr (T := TX11) C S5.1 ga0 1 kF_X11_19 dX11_give_26 rfl rfl (by decide) rfl (by decide) rfl (fun g6 => ?_)
  refine q_gr (T := TX5) C S5.1 g6 0 kF_X11_128 dX11_give_29 rfl rfl (by decide) rfl (by decide) rfl (fun g7 => ?_)
  refine lv_iload_n hx hb dX11_give_32 rfl (lv_at hl 1 rfl) ?_
  refine q_aald C S5.1 g7 (by omega) (by omega) dX11_give_33 rfl (by decide) rfl rfl (fun g8 => ?_)
  refine lv_astore_n (lv' := [(3, .ref (eR H5 (fR D H5 5 (fR D H5 10 a0 1) 0) x1.toInt.toNat)), (0, .ref a0), (1, .int x1), (2, .int x2)]) hx hb dX11_give_34 rfl hl (by decide) rfl (fun ls hl => ?_)
  refine lv_aload_n hx hb dX11_give_35 rfl (lv_at hl 0 rfl) ?_
  refine lv_sipush (v := 9999) hx hb dX11_give_36 (by decide) ?_
  refine lv_aload_n hx hb dX11_give_39 rfl (lv_at hl 0 rfl) ?_
  refine q_gi (T := TX2) C S5.1 g8 0 kF_X11_132 dX11_give_40 rfl rfl (by decide) rfl (by decide) rfl ?_
  refine lv_iload_n hx hb dX11_give_43 rfl (lv_at hl 3 rfl) ?_
  refine lv_iadd hx hb dX11_give_44 ?_
  refine lv_topi (fun v9 ev9 => ?_)
  have k_9999 : (9999 : Int32).toInt = 9999 := by decide
  refine q_min C kN_X11_235 dX11_give_45 hl.1 ⟨Nat.le_of_ble_eq_true rfl, Nat.le_of_ble_eq_true rfl, Nat.le_of_ble_eq_true rfl, Nat.le_of_ble_eq_true rfl⟩ (fun v10 fv10 => ?_)
  refine q_put (T := TX2) C S5 g8 0 kF_X11_132 dX11_give_48 rfl rfl (by decide) (by decide) rfl rfl rfl rfl rfl (vok_a rfl) (by decide +kernel) (fun H11 L11 S11 P11 => ?_)
  have rk11 : ∀ Vv Kv : Sg, CI D s.heap a0 Vv Kv → CI D H11 a0 Vv Kv := fun Vv Kv hv => (rk5 Vv Kv hv).keep S5.1 ga0 (Pt.keep g8 rfl (by decide) P11) (by decide)
  refine lv_aload_n hx hb dX11_give_51 rfl (lv_at hl 0 rfl) ?_
  refine q_gi (T := TX2) C S11.1 g8 0 kF_X11_132 dX11_give_52 rfl rfl (by decide) rfl (by decide) rfl ?_
  exact retX_i hQ C S11 hr dX11_give_55 (by decide) (by decide) (⟨trivial, rk11⟩)

set_option maxRecDepth 100000 in
set_option maxHeartbeats 4000000 in
theorem c_X11_quarters (l : Launch) (D : DD) (G : Nat → Nat) (a0 : Nat) (x1 : Int32) (ga0 : G a0 = 1) : CX l D G yX11_quarters cX11_quarters 4 (some .int) 6 1 6 [.ref a0, .int x1] (fun _ => True) [(7, 0), (7, 1), (7, 2), (7, 3), (7, 4), (8, 0), (8, 1), (8, 2), (8, 3), (8, 4), (8, 5), (11, 0), (9, 1), (9, 2), (4, 3), (4, 4), (4, 5), (4, 6), (4, 7), (4, 8), (4, 9), (4, 10), (4, 11), (4, 12), (4, 13), (16, 1), (16, 2), (14, 0), (15, 0)] (xI (fun H r H1 => (True) ∧ (∀ Vv Kv : Sg, CI D H a0 Vv Kv → CI D H1 a0 Vv Kv))) (fun H En H1 => (En = "java/lang/IllegalArgumentException") ∧ (∀ Vv Kv : Sg, CI D H a0 Vv Kv → CI D H1 a0 Vv Kv)) := by
  refine enterX (by decide) (Nat.le_of_ble_eq_true rfl) ?_
  intro hl0 p e s m args below meth c ls Q hA hQ ht C hr hO hpre hl
  have hx := C.1
  have hb := C.2.1
  have S : Sd D G [(7, 0), (7, 1), (7, 2), (7, 3), (7, 4), (8, 0), (8, 1), (8, 2), (8, 3), (8, 4), (8, 5), (11, 0), (9, 1), (9, 2), (4, 3), (4, 4), (4, 5), (4, 6), (4, 7), (4, 8), (4, 9), (4, 10), (4, 11), (4, 12), (4, 13), (16, 1), (16, 2), (14, 0), (15, 0)] s.heap s.heap [] := Sd.start hO
  have hl : lv_has ls 4 [(0, .ref a0), (1, .int x1)] := hl
  have rk0 : ∀ Vv Kv : Sg, CI D s.heap a0 Vv Kv → CI D s.heap a0 Vv Kv := fun Vv Kv hv => hv
  refine lv_aload_n hx hb dX11_quarters_0 rfl (lv_at hl 0 rfl) ?_
  refine lv_iload_n hx hb dX11_quarters_1 rfl (lv_at hl 1 rfl) ?_
  refine lv_iconst (v := 1) hx hb dX11_quarters_2 (by decide) ?_
  refine lv_bipush (v := 60) hx hb dX11_quarters_3 (by decide) ?_
  have k_1 : (1 : Int32).toInt = 1 := by decide
  have k_60 : (60 : Int32).toInt = 60 := by decide
  refine callV_Xv hl0 C S (c_X11_needNumber l D G a0 x1 (1 : Int32) (60 : Int32) ga0) kV_X11_228 ga0 (trivial) (by decide +kernel) dX11_quarters_5 hl.1 rfl rfl (by decide) cd_X11_needNumber ⟨Nat.le_of_ble_eq_true rfl, Nat.le_of_ble_eq_true rfl, Nat.le_of_ble_eq_true rfl, Nat.le_of_ble_eq_true rfl, Nat.le_of_ble_eq_true rfl⟩ (fun H1 L1 S1 K1 q1 => ?_) (fun En H1 L1 q9 ce S1 K1 X1 h7 h8 h9 => outX hQ C ht S1 h7 h8 h9 (by decide) (by decide) ⟨(by rcases X1 with rfl <;> simp), fun Vv Kv hv => (rk0 Vv Kv hv).keep S.1 ga0 K1 (by decide +kernel)⟩)
  have rk1 : ∀ Vv Kv : Sg, CI D s.heap a0 Vv Kv → CI D H1 a0 Vv Kv := fun Vv Kv hv => (rk0 Vv Kv hv).keep S.1 ga0 K1 (by decide +kernel)
  refine lv_aload_n hx hb dX11_quarters_8 rfl (lv_at hl 0 rfl) ?_
  refine q_gr (T := TX11) C S1.1 ga0 4 kF_X11_32 dX11_quarters_9 rfl rfl (by decide) rfl (by decide) rfl (fun g2 => ?_)
  refine lv_aload_n hx hb dX11_quarters_12 rfl (lv_at hl 0 rfl) ?_
  refine q_gr (T := TX11) C S1.1 ga0 1 kF_X11_19 dX11_quarters_13 rfl rfl (by decide) rfl (by decide) rfl (fun g3 => ?_)
  refine callV_Ev C S1 (c_X7_remember l D G (fR D H1 10 a0 4) (fR D H1 10 a0 1) g2 g3) kV_X11_213 g2 (trivial) (by decide +kernel) dX11_quarters_16 hl.1 rfl rfl (by decide) cd_X7_remember ⟨Nat.le_of_ble_eq_true rfl, Nat.le_of_ble_eq_true rfl, Nat.le_of_ble_eq_true rfl, Nat.le_of_ble_eq_true rfl, Nat.le_of_ble_eq_true rfl⟩ (fun H4 L4 S4 K4 q4 => ?_)
  have rk4 : ∀ Vv Kv : Sg, CI D s.heap a0 Vv Kv → CI D H4 a0 Vv Kv := fun Vv Kv hv => (rk1 Vv Kv hv).rem S1.1 ga0 K4 (by decide +kernel) (by decide +kernel) q4.1 (S1.1.rng (k := 1) (gPast S1.1 ga0) rfl (by decide) rfl) (S1.1.rng (k := 2) (gPast S1.1 ga0) rfl (by decide) rfl) q4.2.1 q4.2.2
  refine lv_iconst (v := 0) hx hb dX11_quarters_19 (by decide) ?_
  refine lv_istore_n (lv' := [(2, .int (0 : Int32)), (0, .ref a0), (1, .int x1)]) hx hb dX11_quarters_20 rfl hl (by decide) rfl (fun ls hl => ?_)
  refine lv_iconst (v := 0) hx hb dX11_quarters_21 (by decide) ?_
  refine lv_istore_n (lv' := [(3, .int (0 : Int32)), (2, .int (0 : Int32)), (0, .ref a0), (1, .int x1)]) hx hb dX11_quarters_22 rfl hl (by decide) rfl (fun ls hl => ?_)
  have Lp23 : ∀ (n : Nat) (x3_23 : Int32) (x2_23 : Int32) (H_23 : Heap) (L_23 : List Loc) (ls : Array Slot), (Sd D G [(7, 0), (7, 1), (7, 2), (7, 3), (7, 4), (8, 0), (8, 1), (8, 2), (8, 3), (8, 4), (8, 5), (11, 0), (9, 1), (9, 2), (4, 3), (4, 4), (4, 5), (4, 6), (4, 7), (4, 8), (4, 9), (4, 10), (4, 11), (4, 12), (4, 13), (16, 1), (16, 2), (14, 0), (15, 0)] s.heap H_23 L_23) → (0 ≤ x3_23.toInt ∧ x3_23.toInt ≤ 2147483647) → (∀ Vv Kv : Sg, CI D s.heap a0 Vv Kv → CI D H_23 a0 Vv Kv) → 2147483648 - x3_23.toInt ≤ (n : Int) → lv_has ls 4 [(3, .int x3_23), (2, .int x2_23), (0, .ref a0), (1, .int x1)] → W p l e (rmU 6 1 6) s m args below meth c H_23 L_23 1 6 Q (F0 m 23 ls []) := by
    intro n
    induction n with
    | zero =>
      intro x3_23 x2_23 H_23 L_23 ls S_23 j23_0 u23_0 hn hl
      exact absurd hn (by omega)
    | succ n ih23 =>
      intro x3_23 x2_23 H_23 L_23 ls S_23 j23_0 u23_0 hn hl
      refine lv_iload_n hx hb dX11_quarters_23 rfl (lv_at hl 0 rfl) ?_
      refine lv_iload_n hx hb dX11_quarters_24 rfl (lv_at hl 3 rfl) ?_
      have r6 := i_rng x3_23
      refine lv_icmp_ge (tgt := 45) hx hb dX11_quarters_25 (by decide) (fun c5 => ?_) (fun c5 => ?_)
      · have b5 : x1.toInt ≤ x3_23.toInt := i_le.mp c5
        refine lv_iload_n hx hb dX11_quarters_45 rfl (lv_at hl 1 rfl) ?_
        exact retX_i hQ C S_23 hr dX11_quarters_46 (by decide) (by decide) (⟨trivial, u23_0⟩)
      · have b5 : ¬ x1.toInt ≤ x3_23.toInt := fun z9 => c5 (i_le.mpr z9)
        refine lv_iload_n hx hb dX11_quarters_28 rfl (lv_at hl 1 rfl) ?_
        refine lv_aload_n hx hb dX11_quarters_29 rfl (lv_at hl 2 rfl) ?_
        refine q_gr (T := TX11) C S_23.1 ga0 1 kF_X11_19 dX11_quarters_30 rfl rfl (by decide) rfl (by decide) rfl (fun g7 => ?_)
        refine lv_iconst (v := 1) hx hb dX11_quarters_33 (by decide) ?_
        refine callV_Ei C S_23 (c_X5_passQuarter l D G (fR D H_23 10 a0 1) (1 : Int32) g7 (by omega)) kV_X11_241 g7 (trivial) (by decide +kernel) dX11_quarters_34 hl.1 rfl rfl (by decide) cd_X5_passQuarter ⟨Nat.le_of_ble_eq_true rfl, Nat.le_of_ble_eq_true rfl, Nat.le_of_ble_eq_true rfl, Nat.le_of_ble_eq_true rfl, Nat.le_of_ble_eq_true rfl⟩ (fun v8 H8 L8 S8 K8 q8 => ?_)
        have rk8 : ∀ Vv Kv : Sg, CI D s.heap a0 Vv Kv → CI D H8 a0 Vv Kv := fun Vv Kv hv => (u23_0 Vv Kv hv).keep S_23.1 ga0 K8 (by decide +kernel)
        refine lv_iadd hx hb dX11_quarters_37 ?_
        refine lv_topi (fun v9 ev9 => ?_)
        refine lv_istore_n (lv' := [(2, .int v9), (3, .int x3_23), (0, .ref a0), (1, .int x1)]) hx hb dX11_quarters_38 rfl hl (by decide) rfl (fun ls hl => ?_)
        obtain ⟨v10, ev10⟩ : ∃ y : Int32, y = x3_23 + (1) := ⟨_, rfl⟩
        have f11 : v10.toInt = x3_23.toInt + (1) := by rw [ev10]; exact i_addc k_1 (by omega) (by omega)
        refine lv_iinc (v := v10) (lv' := [(3, .int v10), (2, .int v9), (0, .ref a0), (1, .int x1)]) hx hb dX11_quarters_39 hl (k := 1) rfl (by rw [ev10]; rfl) (by decide) rfl (fun ls hl => ?_)
        refine lv_goto (tgt := 23) hx hb dX11_quarters_42 (by decide) ?_
        exact ih23 v10 v9 H8 L8 ls S8 (by omega) rk8 (by omega) (lv_sub hl [0, 1, 2, 3] rfl)
  have k_0 : (0 : Int32).toInt = 0 := by decide
  exact Lp23 2147483648 (0 : Int32) (0 : Int32) H4 L4 ls S4 (by omega) rk4  (by omega) (lv_sub hl [0, 1, 2, 3] rfl)

set_option maxRecDepth 100000 in
set_option maxHeartbeats 4000000 in
theorem c_X11_stacks (l : Launch) (D : DD) (G : Nat → Nat) (a0 : Nat) (x1 : Int32) (ga0 : G a0 = 1) : CX l D G yX11_stacks cX11_stacks 4 (some .int) 1 1 6 [.ref a0, .int x1] (fun _ => True) [] (xI (fun H r H1 => True)) (fun H En H1 => En = "java/lang/IndexOutOfBoundsException") := by
  refine enterX (by decide) (Nat.le_of_ble_eq_true rfl) ?_
  intro hl0 p e s m args below meth c ls Q hA hQ ht C hr hO hpre hl
  have hx := C.1
  have hb := C.2.1
  have S : Sd D G [] s.heap s.heap [] := Sd.start hO
  have hl : lv_has ls 4 [(0, .ref a0), (1, .int x1)] := hl
  refine lv_iload_n hx hb dX11_stacks_0 rfl (lv_at hl 1 rfl) ?_
  have k_0 : (0 : Int32).toInt = 0 := by decide
  refine lv_if_lt (tgt := 9) hx hb dX11_stacks_1 (by decide) (fun c1 => ?_) (fun c1 => ?_)
  · have b1 : x1.toInt < (0 : Int32).toInt := i_lt.mp c1
    exact q_throw hl0 hQ C ht S kL_X11_223 kI_IOB ks_X11_245 ka_X11_227 kf_IOB dX11_stacks_9 dX11_stacks_12 dX11_stacks_13 dX11_stacks_15 dX11_stacks_18 hl.1 ⟨Nat.le_of_ble_eq_true rfl, Nat.le_of_ble_eq_true rfl, Nat.le_of_ble_eq_true rfl, Nat.le_of_ble_eq_true rfl⟩ (by decide) (by decide) (fun H1 g1 g2 => by simp)
  · have b1 : ¬ x1.toInt < (0 : Int32).toInt := fun z9 => c1 (i_lt.mpr z9)
    refine lv_iload_n hx hb dX11_stacks_4 rfl (lv_at hl 1 rfl) ?_
    refine lv_iconst (v := 5) hx hb dX11_stacks_5 (by decide) ?_
    have k_5 : (5 : Int32).toInt = 5 := by decide
    refine lv_icmp_lt (tgt := 19) hx hb dX11_stacks_6 (by decide) (fun c2 => ?_) (fun c2 => ?_)
    · have b2 : x1.toInt < (5 : Int32).toInt := i_lt.mp c2
      refine lv_iconst (v := 0) hx hb dX11_stacks_19 (by decide) ?_
      refine lv_istore_n (lv' := [(2, .int (0 : Int32)), (0, .ref a0), (1, .int x1)]) hx hb dX11_stacks_20 rfl hl (by decide) rfl (fun ls hl => ?_)
      refine lv_iconst (v := 0) hx hb dX11_stacks_21 (by decide) ?_
      refine lv_istore_n (lv' := [(3, .int (0 : Int32)), (2, .int (0 : Int32)), (0, .ref a0), (1, .int x1)]) hx hb dX11_stacks_22 rfl hl (by decide) rfl (fun ls hl => ?_)
      have Lp23 : ∀ (n : Nat) (x3_23 : Int32) (x2_23 : Int32) (ls : Array Slot), (0 ≤ x3_23.toInt ∧ x3_23.toInt ≤ 2147483647) → 2147483648 - x3_23.toInt ≤ (n : Int) → lv_has ls 4 [(3, .int x3_23), (2, .int x2_23), (0, .ref a0), (1, .int x1)] → W p l e (rmU 1 1 6) s m args below meth c s.heap [] 0 0 Q (F0 m 23 ls []) := by
        intro n
        induction n with
        | zero =>
          intro x3_23 x2_23 ls j23_0 hn hl
          exact absurd hn (by omega)
        | succ n ih23 =>
          intro x3_23 x2_23 ls j23_0 hn hl
          refine lv_iload_n hx hb dX11_stacks_23 rfl (lv_at hl 0 rfl) ?_
          refine lv_aload_n hx hb dX11_stacks_24 rfl (lv_at hl 2 rfl) ?_
          refine q_gr (T := TX11) C S.1 ga0 1 kF_X11_19 dX11_stacks_25 rfl rfl (by decide) rfl (by decide) rfl (fun g3 => ?_)
          refine q_gi (T := TX5) C S.1 g3 3 kF_X11_247 dX11_stacks_28 rfl rfl (by decide) rfl (by decide) rfl ?_
          have r4 : 0 ≤ (fI D s.heap 5 (fR D s.heap 10 a0 1) 3).toInt ∧ (fI D s.heap 5 (fR D s.heap 10 a0 1) 3).toInt ≤ 6 := S.1.rng g3 rfl (by decide) rfl
          have r6 := i_rng x3_23
          refine lv_icmp_ge (tgt := 74) hx hb dX11_stacks_31 (by decide) (fun c5 => ?_) (fun c5 => ?_)
          · have b5 : (fI D s.heap 5 (fR D s.heap 10 a0 1) 3).toInt ≤ x3_23.toInt := i_le.mp c5
            refine lv_iload_n hx hb dX11_stacks_74 rfl (lv_at hl 1 rfl) ?_
            exact retX_i hQ C S hr dX11_stacks_75 (by decide) (by decide) (trivial)
          · have b5 : ¬ (fI D s.heap 5 (fR D s.heap 10 a0 1) 3).toInt ≤ x3_23.toInt := fun z9 => c5 (i_le.mpr z9)
            refine lv_aload_n hx hb dX11_stacks_34 rfl (lv_at hl 2 rfl) ?_
            refine q_gr (T := TX11) C S.1 ga0 1 kF_X11_19 dX11_stacks_35 rfl rfl (by decide) rfl (by decide) rfl (fun g7 => ?_)
            refine q_gr (T := TX5) C S.1 g7 0 kF_X11_128 dX11_stacks_38 rfl rfl (by decide) rfl (by decide) rfl (fun g8 => ?_)
            refine lv_iload_n hx hb dX11_stacks_41 rfl (lv_at hl 0 rfl) ?_
            refine q_aald C S.1 g8 (by omega) (by omega) dX11_stacks_42 rfl (by decide) rfl rfl (fun g9 => ?_)
            refine q_gi (T := TX2) C S.1 g9 3 kF_X11_143 dX11_stacks_43 rfl rfl (by decide) rfl (by decide) rfl ?_
            refine lv_iload_n hx hb dX11_stacks_46 rfl (lv_at hl 3 rfl) ?_
            refine lv_ishr hx hb dX11_stacks_47 ?_
            refine lv_topi (fun v10 ev10 => ?_)
            refine lv_iconst (v := 1) hx hb dX11_stacks_48 (by decide) ?_
            have k_1 : (1 : Int32).toInt = 1 := by decide
            refine lv_iand hx hb dX11_stacks_49 ?_
            have r11 := i_rng v10
            refine lv_topi (fun v12 ev12 => ?_)
            have f13 : 0 ≤ v12.toInt ∧ v12.toInt ≤ (1 : Int32).toInt := by rw [ev12]; exact i_and (by omega)
            refine lv_iconst (v := 1) hx hb dX11_stacks_50 (by decide) ?_
            refine lv_icmp_ne (tgt := 68) hx hb dX11_stacks_51 (by decide) (fun c14 => ?_) (fun c14 => ?_)
            · have b14 : ¬ v12.toInt = (1 : Int32).toInt := fun z9 => c14 (i_eq.mpr z9)
              obtain ⟨v15, ev15⟩ : ∃ y : Int32, y = x3_23 + (1) := ⟨_, rfl⟩
              have f16 : v15.toInt = x3_23.toInt + (1) := by rw [ev15]; exact i_addc k_1 (by omega) (by omega)
              refine lv_iinc (v := v15) (lv' := [(3, .int v15), (2, .int x2_23), (0, .ref a0), (1, .int x1)]) hx hb dX11_stacks_68 hl (k := 0) rfl (by rw [ev15]; rfl) (by decide) rfl (fun ls hl => ?_)
              refine lv_goto (tgt := 23) hx hb dX11_stacks_71 (by decide) ?_
              exact ih23 v15 x2_23 ls (by omega) (by omega) (lv_sub hl [0, 1, 2, 3] rfl)
            · have b14 : v12.toInt = (1 : Int32).toInt := i_eq.mp c14
              refine lv_iload_n hx hb dX11_stacks_54 rfl (lv_at hl 1 rfl) ?_
              refine lv_aload_n hx hb dX11_stacks_55 rfl (lv_at hl 2 rfl) ?_
              refine q_gr (T := TX11) C S.1 ga0 1 kF_X11_19 dX11_stacks_56 rfl rfl (by decide) rfl (by decide) rfl (fun g17 => ?_)
              refine lv_iload_n hx hb dX11_stacks_59 rfl (lv_at hl 0 rfl) ?_
              refine callV_Pi C S.1 S.2.1.2.1 (c_X5_smokeOf l D G (fR D s.heap 10 a0 1) x3_23 g17) kV_X11_159 g17 (trivial) dX11_stacks_60 hl.1 rfl rfl (by decide) cd_X5_smokeOf ⟨Nat.le_of_ble_eq_true rfl, Nat.le_of_ble_eq_true rfl, Nat.le_of_ble_eq_true rfl, Nat.le_of_ble_eq_true rfl, Nat.le_of_ble_eq_true rfl⟩ (fun v18 q18 => ?_)
              refine callS_Pi C S.1 S.2.1.2.1 (c_J6_bitCount_0f7a4 l D G v18) kS_X11_250 (trivial) dX11_stacks_63 hl.1 cd_J6_bitCount_0f7a4 ⟨Nat.le_of_ble_eq_true rfl, Nat.le_of_ble_eq_true rfl, Nat.le_of_ble_eq_true rfl, Nat.le_of_ble_eq_true rfl, Nat.le_of_ble_eq_true rfl⟩ (fun v19 q19 => ?_)
              refine lv_iadd hx hb dX11_stacks_66 ?_
              refine lv_topi (fun v20 ev20 => ?_)
              refine lv_istore_n (lv' := [(2, .int v20), (3, .int x3_23), (0, .ref a0), (1, .int x1)]) hx hb dX11_stacks_67 rfl hl (by decide) rfl (fun ls hl => ?_)
              obtain ⟨v21, ev21⟩ : ∃ y : Int32, y = x3_23 + (1) := ⟨_, rfl⟩
              have f22 : v21.toInt = x3_23.toInt + (1) := by rw [ev21]; exact i_addc k_1 (by omega) (by omega)
              refine lv_iinc (v := v21) (lv' := [(3, .int v21), (2, .int v20), (0, .ref a0), (1, .int x1)]) hx hb dX11_stacks_68 hl (k := 1) rfl (by rw [ev21]; rfl) (by decide) rfl (fun ls hl => ?_)
              refine lv_goto (tgt := 23) hx hb dX11_stacks_71 (by decide) ?_
              exact ih23 v21 v20 ls (by omega) (by omega) (lv_sub hl [0, 1, 2, 3] rfl)
      exact Lp23 2147483648 (0 : Int32) (0 : Int32) ls (by omega)  (by omega) (lv_sub hl [0, 1, 2, 3] rfl)
    · have b2 : ¬ x1.toInt < (5 : Int32).toInt := fun z9 => c2 (i_lt.mpr z9)
      exact q_throw hl0 hQ C ht S kL_X11_223 kI_IOB ks_X11_245 ka_X11_227 kf_IOB dX11_stacks_9 dX11_stacks_12 dX11_stacks_13 dX11_stacks_15 dX11_stacks_18 hl.1 ⟨Nat.le_of_ble_eq_true rfl, Nat.le_of_ble_eq_true rfl, Nat.le_of_ble_eq_true rfl, Nat.le_of_ble_eq_true rfl⟩ (by decide) (by decide) (fun H1 g1 g2 => by simp)

set_option maxRecDepth 100000 in
set_option maxHeartbeats 4000000 in
theorem c_X11_plan (l : Launch) (D : DD) (G : Nat → Nat) (a0 : Nat) (x1 : Int32) (x2 : Int32) (ga0 : G a0 = 1) (ix2 : 0 ≤ x2.toInt ∧ x2.toInt ≤ 1) : CX l D G yX11_plan cX11_plan 4 (some .int) 4 1 6 [.ref a0, .int x1, .int x2] (fun _ => True) [(14, 0), (15, 0), (19, 0), (18, 2)] (xI (fun H r H1 => True)) (fun H En H1 => En = "java/lang/IndexOutOfBoundsException") := by
  refine enterX (by decide) (Nat.le_of_ble_eq_true rfl) ?_
  intro hl0 p e s m args below meth c ls Q hA hQ ht C hr hO hpre hl
  have hx := C.1
  have hb := C.2.1
  have S : Sd D G [(14, 0), (15, 0), (19, 0), (18, 2)] s.heap s.heap [] := Sd.start hO
  have hl : lv_has ls 4 [(0, .ref a0), (1, .int x1), (2, .int x2)] := hl
  refine lv_aload_n hx hb dX11_plan_0 rfl (lv_at hl 0 rfl) ?_
  refine lv_iload_n hx hb dX11_plan_1 rfl (lv_at hl 1 rfl) ?_
  refine callV_Xv hl0 C S (c_X11_needHouse l D G a0 x1 ga0) kV_X11_125 ga0 (trivial) (by decide +kernel) dX11_plan_2 hl.1 rfl rfl (by decide) cd_X11_needHouse ⟨Nat.le_of_ble_eq_true rfl, Nat.le_of_ble_eq_true rfl, Nat.le_of_ble_eq_true rfl, Nat.le_of_ble_eq_true rfl, Nat.le_of_ble_eq_true rfl⟩ (fun H1 L1 S1 K1 q1 => ?_) (fun En H1 L1 q9 ce S1 K1 X1 h7 h8 h9 => outX hQ C ht S1 h7 h8 h9 (by decide) (by decide) (by rcases X1 with rfl <;> simp))
  refine lv_aload_n hx hb dX11_plan_5 rfl (lv_at hl 0 rfl) ?_
  refine q_gr (T := TX11) C S1.1 ga0 5 kF_X11_41 dX11_plan_6 rfl rfl (by decide) rfl (by decide) rfl (fun g2 => ?_)
  refine callV_Ev C S1 (c_X8_learnCharges l D G (fR D H1 10 a0 5) g2) kV_X11_259 g2 (trivial) (by decide +kernel) dX11_plan_9 hl.1 rfl rfl (by decide) cd_X8_learnCharges ⟨Nat.le_of_ble_eq_true rfl, Nat.le_of_ble_eq_true rfl, Nat.le_of_ble_eq_true rfl, Nat.le_of_ble_eq_true rfl, Nat.le_of_ble_eq_true rfl⟩ (fun H3 L3 S3 K3 q3 => ?_)
  refine lv_aload_n hx hb dX11_plan_12 rfl (lv_at hl 0 rfl) ?_
  refine q_gr (T := TX11) C S3.1 ga0 5 kF_X11_41 dX11_plan_13 rfl rfl (by decide) rfl (by decide) rfl (fun g4 => ?_)
  refine lv_iload_n hx hb dX11_plan_16 rfl (lv_at hl 1 rfl) ?_
  refine lv_aload_n hx hb dX11_plan_17 rfl (lv_at hl 0 rfl) ?_
  refine q_gr (T := TX11) C S3.1 ga0 1 kF_X11_19 dX11_plan_18 rfl rfl (by decide) rfl (by decide) rfl (fun g5 => ?_)
  refine q_gi (T := TX5) C S3.1 g5 6 kF_X11_232 dX11_plan_21 rfl rfl (by decide) rfl (by decide) rfl ?_
  refine callV_Ei C S3 (c_X8_bestWalls l D G (fR D H3 10 a0 5) x1 (fI D H3 5 (fR D H3 10 a0 1) 6) g4) kV_X11_262 g4 (trivial) (by decide +kernel) dX11_plan_24 hl.1 rfl rfl (by decide) cd_X8_bestWalls ⟨Nat.le_of_ble_eq_true rfl, Nat.le_of_ble_eq_true rfl, Nat.le_of_ble_eq_true rfl, Nat.le_of_ble_eq_true rfl, Nat.le_of_ble_eq_true rfl⟩ (fun v6 H6 L6 S6 K6 q6 => ?_)
  refine lv_istore_n (lv' := [(3, .int v6), (0, .ref a0), (1, .int x1), (2, .int x2)]) hx hb dX11_plan_27 rfl hl (by decide) rfl (fun ls hl => ?_)
  refine lv_iload_n hx hb dX11_plan_28 rfl (lv_at hl 3 rfl) ?_
  have k_0 : (0 : Int32).toInt = 0 := by decide
  refine lv_if_eq (tgt := 42) hx hb dX11_plan_29 (by decide) (fun c7 => ?_) (fun c7 => ?_)
  · have b7 : x2.toInt = (0 : Int32).toInt := i_eq.mp c7
    refine lv_iload_n hx hb dX11_plan_42 rfl (lv_at hl 0 rfl) ?_
    exact retX_i hQ C S6 hr dX11_plan_43 (by decide) (by decide) (trivial)
  · have b7 : ¬ x2.toInt = (0 : Int32).toInt := fun z9 => c7 (i_eq.mpr z9)
    refine lv_aload_n hx hb dX11_plan_32 rfl (lv_at hl 1 rfl) ?_
    refine q_gr (T := TX11) C S6.1 ga0 5 kF_X11_41 dX11_plan_33 rfl rfl (by decide) rfl (by decide) rfl (fun g8 => ?_)
    refine q_gi (T := TX8) C S6.1 g8 2 kF_X11_265 dX11_plan_36 rfl rfl (by decide) rfl (by decide) rfl ?_
    refine lv_goto (tgt := 43) hx hb dX11_plan_39 (by decide) ?_
    exact retX_i hQ C S6 hr dX11_plan_43 (by decide) (by decide) (trivial)

set_option maxRecDepth 100000 in
set_option maxHeartbeats 4000000 in
theorem c_X11_brings (l : Launch) (D : DD) (G : Nat → Nat) (a0 : Nat) (x1 : Int32) (ga0 : G a0 = 1) : CX l D G yX11_brings cX11_brings 2 (some .int) 4 1 6 [.ref a0, .int x1] (fun _ => True) [(14, 0), (15, 0), (19, 0), (18, 2)] (xI (fun H r H1 => True)) (fun H En H1 => En = "java/lang/IllegalArgumentException") := by
  refine enterX (by decide) (Nat.le_of_ble_eq_true rfl) ?_
  intro hl0 p e s m args below meth c ls Q hA hQ ht C hr hO hpre hl
  have hx := C.1
  have hb := C.2.1
  have S : Sd D G [(14, 0), (15, 0), (19, 0), (18, 2)] s.heap s.heap [] := Sd.start hO
  have hl : lv_has ls 2 [(0, .ref a0), (1, .int x1)] := hl
  refine lv_aload_n hx hb dX11_brings_0 rfl (lv_at hl 0 rfl) ?_
  refine lv_iload_n hx hb dX11_brings_1 rfl (lv_at hl 1 rfl) ?_
  refine lv_iconst (v := 0) hx hb dX11_brings_2 (by decide) ?_
  refine lv_bipush (v := 20) hx hb dX11_brings_3 (by decide) ?_
  have k_0 : (0 : Int32).toInt = 0 := by decide
  have k_20 : (20 : Int32).toInt = 20 := by decide
  refine callV_Xv hl0 C S (c_X11_needNumber l D G a0 x1 (0 : Int32) (20 : Int32) ga0) kV_X11_228 ga0 (trivial) (by decide +kernel) dX11_brings_5 hl.1 rfl rfl (by decide) cd_X11_needNumber ⟨Nat.le_of_ble_eq_true rfl, Nat.le_of_ble_eq_true rfl, Nat.le_of_ble_eq_true rfl, Nat.le_of_ble_eq_true rfl, Nat.le_of_ble_eq_true rfl⟩ (fun H1 L1 S1 K1 q1 => ?_) (fun En H1 L1 q9 ce S1 K1 X1 h7 h8 h9 => outX hQ C ht S1 h7 h8 h9 (by decide) (by decide) (by rcases X1 with rfl <;> simp))
  refine lv_aload_n hx hb dX11_brings_8 rfl (lv_at hl 0 rfl) ?_
  refine q_gr (T := TX11) C S1.1 ga0 5 kF_X11_41 dX11_brings_9 rfl rfl (by decide) rfl (by decide) rfl (fun g2 => ?_)
  refine callV_Ev C S1 (c_X8_learnCharges l D G (fR D H1 10 a0 5) g2) kV_X11_259 g2 (trivial) (by decide +kernel) dX11_brings_12 hl.1 rfl rfl (by decide) cd_X8_learnCharges ⟨Nat.le_of_ble_eq_true rfl, Nat.le_of_ble_eq_true rfl, Nat.le_of_ble_eq_true rfl, Nat.le_of_ble_eq_true rfl, Nat.le_of_ble_eq_true rfl⟩ (fun H3 L3 S3 K3 q3 => ?_)
  refine lv_aload_n hx hb dX11_brings_15 rfl (lv_at hl 0 rfl) ?_
  refine q_gr (T := TX11) C S3.1 ga0 5 kF_X11_41 dX11_brings_16 rfl rfl (by decide) rfl (by decide) rfl (fun g4 => ?_)
  refine lv_iload_n hx hb dX11_brings_19 rfl (lv_at hl 1 rfl) ?_
  refine callV_Ei C S3 (c_X8_yieldBy l D G (fR D H3 10 a0 5) x1 g4) kV_X11_268 g4 (trivial) (by decide +kernel) dX11_brings_20 hl.1 rfl rfl (by decide) cd_X8_yieldBy ⟨Nat.le_of_ble_eq_true rfl, Nat.le_of_ble_eq_true rfl, Nat.le_of_ble_eq_true rfl, Nat.le_of_ble_eq_true rfl, Nat.le_of_ble_eq_true rfl⟩ (fun v5 H5 L5 S5 K5 q5 => ?_)
  exact retX_i hQ C S5 hr dX11_brings_23 (by decide) (by decide) (trivial)

set_option maxRecDepth 100000 in
set_option maxHeartbeats 4000000 in
theorem c_X11_round (l : Launch) (D : DD) (G : Nat → Nat) (a0 : Nat) (x1 : Int32) (ga0 : G a0 = 1) : CX l D G yX11_round cX11_round 7 (some .int) 6 1 6 [.ref a0, .int x1] (fun _ => True) [(14, 0), (15, 0)] (xI (fun H r H1 => True)) (fun H En H1 => En = "java/lang/IllegalArgumentException") := by
  refine enterX (by decide) (Nat.le_of_ble_eq_true rfl) ?_
  intro hl0 p e s m args below meth c ls Q hA hQ ht C hr hO hpre hl
  have hx := C.1
  have hb := C.2.1
  have S : Sd D G [(14, 0), (15, 0)] s.heap s.heap [] := Sd.start hO
  have hl : lv_has ls 7 [(0, .ref a0), (1, .int x1)] := hl
  refine lv_aload_n hx hb dX11_round_0 rfl (lv_at hl 0 rfl) ?_
  refine lv_iload_n hx hb dX11_round_1 rfl (lv_at hl 1 rfl) ?_
  refine lv_iconst (v := 0) hx hb dX11_round_2 (by decide) ?_
  refine lv_bipush (v := 6) hx hb dX11_round_3 (by decide) ?_
  have k_0 : (0 : Int32).toInt = 0 := by decide
  have k_6 : (6 : Int32).toInt = 6 := by decide
  refine callV_Xv hl0 C S (c_X11_needNumber l D G a0 x1 (0 : Int32) (6 : Int32) ga0) kV_X11_228 ga0 (trivial) (by decide +kernel) dX11_round_5 hl.1 rfl rfl (by decide) cd_X11_needNumber ⟨Nat.le_of_ble_eq_true rfl, Nat.le_of_ble_eq_true rfl, Nat.le_of_ble_eq_true rfl, Nat.le_of_ble_eq_true rfl, Nat.le_of_ble_eq_true rfl⟩ (fun H1 L1 S1 K1 q1 => ?_) (fun En H1 L1 q9 ce S1 K1 X1 h7 h8 h9 => outX hQ C ht S1 h7 h8 h9 (by decide) (by decide) (by rcases X1 with rfl <;> simp))
  refine lv_iconst (v := 0) hx hb dX11_round_8 (by decide) ?_
  refine lv_istore_n (lv' := [(2, .int (0 : Int32)), (0, .ref a0), (1, .int x1)]) hx hb dX11_round_9 rfl hl (by decide) rfl (fun ls hl => ?_)
  refine lv_iconst (v := 0) hx hb dX11_round_10 (by decide) ?_
  refine lv_istore_n (lv' := [(3, .int (0 : Int32)), (2, .int (0 : Int32)), (0, .ref a0), (1, .int x1)]) hx hb dX11_round_11 rfl hl (by decide) rfl (fun ls hl => ?_)
  refine lv_iconst (v := 1) hx hb dX11_round_12 (by decide) ?_
  refine lv_istore (lv' := [(4, .int (1 : Int32)), (3, .int (0 : Int32)), (2, .int (0 : Int32)), (0, .ref a0), (1, .int x1)]) hx hb dX11_round_13 hl (by decide) rfl (fun ls hl => ?_)
  have Lp15 : ∀ (n : Nat) (x4_15 : Int32) (x3_15 : Int32) (x2_15 : Int32) (H_15 : Heap) (L_15 : List Loc) (ls : Array Slot), (Sd D G [(14, 0), (15, 0)] s.heap H_15 L_15) → (1 ≤ x4_15.toInt ∧ x4_15.toInt ≤ 2147483647) → 2147483648 - x4_15.toInt ≤ (n : Int) → lv_has ls 7 [(4, .int x4_15), (3, .int x3_15), (2, .int x2_15), (0, .ref a0), (1, .int x1)] → W p l e (rmU 6 1 6) s m args below meth c H_15 L_15 1 6 Q (F0 m 15 ls []) := by
    intro n
    induction n with
    | zero =>
      intro x4_15 x3_15 x2_15 H_15 L_15 ls S_15 j15_0 hn hl
      exact absurd hn (by omega)
    | succ n ih15 =>
      intro x4_15 x3_15 x2_15 H_15 L_15 ls S_15 j15_0 hn hl
      refine lv_iload hx hb dX11_round_15 (lv_at hl 0 rfl) ?_
      refine lv_iconst (v := 1) hx hb dX11_round_17 (by decide) ?_
      refine lv_aload_n hx hb dX11_round_18 rfl (lv_at hl 3 rfl) ?_
      refine q_gr (T := TX11) C S_15.1 ga0 1 kF_X11_19 dX11_round_19 rfl rfl (by decide) rfl (by decide) rfl (fun g2 => ?_)
      refine q_gi (T := TX5) C S_15.1 g2 3 kF_X11_247 dX11_round_22 rfl rfl (by decide) rfl (by decide) rfl ?_
      have r3 : 0 ≤ (fI D H_15 5 (fR D H_15 10 a0 1) 3).toInt ∧ (fI D H_15 5 (fR D H_15 10 a0 1) 3).toInt ≤ 6 := S_15.1.rng g2 rfl (by decide) rfl
      have k_1 : (1 : Int32).toInt = 1 := by decide
      refine lv_ishl hx hb dX11_round_25 ?_
      refine lv_topi (fun v4 ev4 => ?_)
      have f5 : 1 ≤ v4.toInt ∧ v4.toInt ≤ 64 := by rw [ev4]; exact i_shl1 6 (by omega) (by omega) (by decide)
      have r7 := i_rng x4_15
      refine lv_icmp_ge (tgt := 90) hx hb dX11_round_26 (by decide) (fun c6 => ?_) (fun c6 => ?_)
      · have b6 : v4.toInt ≤ x4_15.toInt := i_le.mp c6
        refine lv_iload_n hx hb dX11_round_90 rfl (lv_at hl 2 rfl) ?_
        exact retX_i hQ C S_15 hr dX11_round_91 (by decide) (by decide) (trivial)
      · have b6 : ¬ v4.toInt ≤ x4_15.toInt := fun z9 => c6 (i_le.mpr z9)
        refine lv_iload hx hb dX11_round_29 (lv_at hl 0 rfl) ?_
        refine callS_Pi C S_15.1 S_15.2.1.2.1 (c_J6_bitCount_0f7a4 l D G x4_15) kS_X11_250 (trivial) dX11_round_31 hl.1 cd_J6_bitCount_0f7a4 ⟨Nat.le_of_ble_eq_true rfl, Nat.le_of_ble_eq_true rfl, Nat.le_of_ble_eq_true rfl, Nat.le_of_ble_eq_true rfl, Nat.le_of_ble_eq_true rfl⟩ (fun v8 q8 => ?_)
        refine lv_istore (lv' := [(5, .int v8), (4, .int x4_15), (3, .int x3_15), (2, .int x2_15), (0, .ref a0), (1, .int x1)]) hx hb dX11_round_34 hl (by decide) rfl (fun ls hl => ?_)
        refine lv_iload hx hb dX11_round_36 (lv_at hl 0 rfl) ?_
        refine lv_iload_n hx hb dX11_round_38 rfl (lv_at hl 5 rfl) ?_
        have r10 := i_rng v8
        refine lv_icmp_le (tgt := 46) hx hb dX11_round_39 (by decide) (fun c9 => ?_) (fun c9 => ?_)
        · have b9 : v8.toInt ≤ x1.toInt := i_le.mp c9
          refine lv_aload_n hx hb dX11_round_46 rfl (lv_at hl 4 rfl) ?_
          refine q_gr (T := TX11) C S_15.1 ga0 1 kF_X11_19 dX11_round_47 rfl rfl (by decide) rfl (by decide) rfl (fun g11 => ?_)
          refine lv_iload hx hb dX11_round_50 (lv_at hl 1 rfl) ?_
          refine callV_Ei C S_15 (c_X5_hopesOfSet l D G (fR D H_15 10 a0 1) x4_15 g11) kV_X11_271 g11 (trivial) (by decide +kernel) dX11_round_52 hl.1 rfl rfl (by decide) cd_X5_hopesOfSet ⟨Nat.le_of_ble_eq_true rfl, Nat.le_of_ble_eq_true rfl, Nat.le_of_ble_eq_true rfl, Nat.le_of_ble_eq_true rfl, Nat.le_of_ble_eq_true rfl⟩ (fun v12 H12 L12 S12 K12 q12 => ?_)
          refine lv_istore (lv' := [(6, .int v12), (5, .int v8), (4, .int x4_15), (3, .int x3_15), (2, .int x2_15), (0, .ref a0), (1, .int x1)]) hx hb dX11_round_55 hl (by decide) rfl (fun ls hl => ?_)
          refine lv_iload hx hb dX11_round_57 (lv_at hl 0 rfl) ?_
          refine lv_iload_n hx hb dX11_round_59 rfl (lv_at hl 3 rfl) ?_
          refine lv_icmp_gt (tgt := 78) hx hb dX11_round_60 (by decide) (fun c13 => ?_) (fun c13 => ?_)
          · have b13 : x3_15.toInt < v12.toInt := i_lt.mp c13
            refine lv_iload hx hb dX11_round_78 (lv_at hl 0 rfl) ?_
            refine lv_istore_n (lv' := [(3, .int v12), (6, .int v12), (5, .int v8), (4, .int x4_15), (2, .int x2_15), (0, .ref a0), (1, .int x1)]) hx hb dX11_round_80 rfl hl (by decide) rfl (fun ls hl => ?_)
            refine lv_iload hx hb dX11_round_81 (lv_at hl 3 rfl) ?_
            refine lv_istore_n (lv' := [(2, .int x4_15), (3, .int v12), (6, .int v12), (5, .int v8), (4, .int x4_15), (0, .ref a0), (1, .int x1)]) hx hb dX11_round_83 rfl hl (by decide) rfl (fun ls hl => ?_)
            obtain ⟨v14, ev14⟩ : ∃ y : Int32, y = x4_15 + (1) := ⟨_, rfl⟩
            have f15 : v14.toInt = x4_15.toInt + (1) := by rw [ev14]; exact i_addc k_1 (by omega) (by omega)
            refine lv_iinc (v := v14) (lv' := [(4, .int v14), (2, .int x4_15), (3, .int v12), (6, .int v12), (5, .int v8), (0, .ref a0), (1, .int x1)]) hx hb dX11_round_84 hl (k := 4) rfl (by rw [ev14]; rfl) (by decide) rfl (fun ls hl => ?_)
            refine lv_goto (tgt := 15) hx hb dX11_round_87 (by decide) ?_
            exact ih15 v14 v12 x4_15 H12 L12 ls S12 (by omega) (by omega) (lv_sub hl [0, 2, 1, 5, 6] rfl)
          · have b13 : ¬ x3_15.toInt < v12.toInt := fun z9 => c13 (i_lt.mpr z9)
            refine lv_iload hx hb dX11_round_63 (lv_at hl 0 rfl) ?_
            refine lv_iload_n hx hb dX11_round_65 rfl (lv_at hl 3 rfl) ?_
            refine lv_icmp_ne (tgt := 84) hx hb dX11_round_66 (by decide) (fun c16 => ?_) (fun c16 => ?_)
            · have b16 : ¬ v12.toInt = x3_15.toInt := fun z9 => c16 (i_eq.mpr z9)
              obtain ⟨v17, ev17⟩ : ∃ y : Int32, y = x4_15 + (1) := ⟨_, rfl⟩
              have f18 : v17.toInt = x4_15.toInt + (1) := by rw [ev17]; exact i_addc k_1 (by omega) (by omega)
              refine lv_iinc (v := v17) (lv' := [(4, .int v17), (6, .int v12), (5, .int v8), (3, .int x3_15), (2, .int x2_15), (0, .ref a0), (1, .int x1)]) hx hb dX11_round_84 hl (k := 2) rfl (by rw [ev17]; rfl) (by decide) rfl (fun ls hl => ?_)
              refine lv_goto (tgt := 15) hx hb dX11_round_87 (by decide) ?_
              exact ih15 v17 x3_15 x2_15 H12 L12 ls S12 (by omega) (by omega) (lv_sub hl [0, 3, 4, 5, 6] rfl)
            · have b16 : v12.toInt = x3_15.toInt := i_eq.mp c16
              refine lv_iload hx hb dX11_round_69 (lv_at hl 1 rfl) ?_
              refine lv_iload_n hx hb dX11_round_71 rfl (lv_at hl 4 rfl) ?_
              refine callS_Pi C S12.1 S12.2.1.2.1 (c_J6_bitCount_0f7a4 l D G x2_15) kS_X11_250 (trivial) dX11_round_72 hl.1 cd_J6_bitCount_0f7a4 ⟨Nat.le_of_ble_eq_true rfl, Nat.le_of_ble_eq_true rfl, Nat.le_of_ble_eq_true rfl, Nat.le_of_ble_eq_true rfl, Nat.le_of_ble_eq_true rfl⟩ (fun v19 q19 => ?_)
              have r21 := i_rng v19
              refine lv_icmp_ge (tgt := 84) hx hb dX11_round_75 (by decide) (fun c20 => ?_) (fun c20 => ?_)
              · have b20 : v19.toInt ≤ v8.toInt := i_le.mp c20
                obtain ⟨v22, ev22⟩ : ∃ y : Int32, y = x4_15 + (1) := ⟨_, rfl⟩
                have f23 : v22.toInt = x4_15.toInt + (1) := by rw [ev22]; exact i_addc k_1 (by omega) (by omega)
                refine lv_iinc (v := v22) (lv' := [(4, .int v22), (6, .int v12), (5, .int v8), (3, .int x3_15), (2, .int x2_15), (0, .ref a0), (1, .int x1)]) hx hb dX11_round_84 hl (k := 2) rfl (by rw [ev22]; rfl) (by decide) rfl (fun ls hl => ?_)
                refine lv_goto (tgt := 15) hx hb dX11_round_87 (by decide) ?_
                exact ih15 v22 x3_15 x2_15 H12 L12 ls S12 (by omega) (by omega) (lv_sub hl [0, 3, 4, 5, 6] rfl)
              · have b20 : ¬ v19.toInt ≤ v8.toInt := fun z9 => c20 (i_le.mpr z9)
                refine lv_iload hx hb dX11_round_78 (lv_at hl 0 rfl) ?_
                refine lv_istore_n (lv' := [(3, .int v12), (6, .int v12), (5, .int v8), (4, .int x4_15), (2, .int x2_15), (0, .ref a0), (1, .int x1)]) hx hb dX11_round_80 rfl hl (by decide) rfl (fun ls hl => ?_)
                refine lv_iload hx hb dX11_round_81 (lv_at hl 3 rfl) ?_
                refine lv_istore_n (lv' := [(2, .int x4_15), (3, .int v12), (6, .int v12), (5, .int v8), (4, .int x4_15), (0, .ref a0), (1, .int x1)]) hx hb dX11_round_83 rfl hl (by decide) rfl (fun ls hl => ?_)
                obtain ⟨v24, ev24⟩ : ∃ y : Int32, y = x4_15 + (1) := ⟨_, rfl⟩
                have f25 : v24.toInt = x4_15.toInt + (1) := by rw [ev24]; exact i_addc k_1 (by omega) (by omega)
                refine lv_iinc (v := v24) (lv' := [(4, .int v24), (2, .int x4_15), (3, .int v12), (6, .int v12), (5, .int v8), (0, .ref a0), (1, .int x1)]) hx hb dX11_round_84 hl (k := 4) rfl (by rw [ev24]; rfl) (by decide) rfl (fun ls hl => ?_)
                refine lv_goto (tgt := 15) hx hb dX11_round_87 (by decide) ?_
                exact ih15 v24 v12 x4_15 H12 L12 ls S12 (by omega) (by omega) (lv_sub hl [0, 2, 1, 5, 6] rfl)
        · have b9 : ¬ v8.toInt ≤ x1.toInt := fun z9 => c9 (i_le.mpr z9)
          refine lv_iconst (v := -1) hx hb dX11_round_42 (by decide) ?_
          refine lv_goto (tgt := 55) hx hb dX11_round_43 (by decide) ?_
          refine lv_istore (lv' := [(6, .int (-1 : Int32)), (5, .int v8), (4, .int x4_15), (3, .int x3_15), (2, .int x2_15), (0, .ref a0), (1, .int x1)]) hx hb dX11_round_55 hl (by decide) rfl (fun ls hl => ?_)
          refine lv_iload hx hb dX11_round_57 (lv_at hl 0 rfl) ?_
          refine lv_iload_n hx hb dX11_round_59 rfl (lv_at hl 3 rfl) ?_
          have k_m1 : (-1 : Int32).toInt = -1 := by decide
          refine lv_icmp_gt (tgt := 78) hx hb dX11_round_60 (by decide) (fun c26 => ?_) (fun c26 => ?_)
          · have b26 : x3_15.toInt < (-1 : Int32).toInt := i_lt.mp c26
            refine lv_iload hx hb dX11_round_78 (lv_at hl 0 rfl) ?_
            refine lv_istore_n (lv' := [(3, .int (-1 : Int32)), (6, .int (-1 : Int32)), (5, .int v8), (4, .int x4_15), (2, .int x2_15), (0, .ref a0), (1, .int x1)]) hx hb dX11_round_80 rfl hl (by decide) rfl (fun ls hl => ?_)
            refine lv_iload hx hb dX11_round_81 (lv_at hl 3 rfl) ?_
            refine lv_istore_n (lv' := [(2, .int x4_15), (3, .int (-1 : Int32)), (6, .int (-1 : Int32)), (5, .int v8), (4, .int x4_15), (0, .ref a0), (1, .int x1)]) hx hb dX11_round_83 rfl hl (by decide) rfl (fun ls hl => ?_)
            obtain ⟨v27, ev27⟩ : ∃ y : Int32, y = x4_15 + (1) := ⟨_, rfl⟩
            have f28 : v27.toInt = x4_15.toInt + (1) := by rw [ev27]; exact i_addc k_1 (by omega) (by omega)
            refine lv_iinc (v := v27) (lv' := [(4, .int v27), (2, .int x4_15), (3, .int (-1 : Int32)), (6, .int (-1 : Int32)), (5, .int v8), (0, .ref a0), (1, .int x1)]) hx hb dX11_round_84 hl (k := 4) rfl (by rw [ev27]; rfl) (by decide) rfl (fun ls hl => ?_)
            refine lv_goto (tgt := 15) hx hb dX11_round_87 (by decide) ?_
            exact ih15 v27 (-1 : Int32) x4_15 H_15 L_15 ls S_15 (by omega) (by omega) (lv_sub hl [0, 2, 1, 5, 6] rfl)
          · have b26 : ¬ x3_15.toInt < (-1 : Int32).toInt := fun z9 => c26 (i_lt.mpr z9)
            refine lv_iload hx hb dX11_round_63 (lv_at hl 0 rfl) ?_
            refine lv_iload_n hx hb dX11_round_65 rfl (lv_at hl 3 rfl) ?_
            refine lv_icmp_ne (tgt := 84) hx hb dX11_round_66 (by decide) (fun c29 => ?_) (fun c29 => ?_)
            · have b29 : ¬ (-1 : Int32).toInt = x3_15.toInt := fun z9 => c29 (i_eq.mpr z9)
              obtain ⟨v30, ev30⟩ : ∃ y : Int32, y = x4_15 + (1) := ⟨_, rfl⟩
              have f31 : v30.toInt = x4_15.toInt + (1) := by rw [ev30]; exact i_addc k_1 (by omega) (by omega)
              refine lv_iinc (v := v30) (lv' := [(4, .int v30), (6, .int (-1 : Int32)), (5, .int v8), (3, .int x3_15), (2, .int x2_15), (0, .ref a0), (1, .int x1)]) hx hb dX11_round_84 hl (k := 2) rfl (by rw [ev30]; rfl) (by decide) rfl (fun ls hl => ?_)
              refine lv_goto (tgt := 15) hx hb dX11_round_87 (by decide) ?_
              exact ih15 v30 x3_15 x2_15 H_15 L_15 ls S_15 (by omega) (by omega) (lv_sub hl [0, 3, 4, 5, 6] rfl)
            · have b29 : (-1 : Int32).toInt = x3_15.toInt := i_eq.mp c29
              refine lv_iload hx hb dX11_round_69 (lv_at hl 1 rfl) ?_
              refine lv_iload_n hx hb dX11_round_71 rfl (lv_at hl 4 rfl) ?_
              refine callS_Pi C S_15.1 S_15.2.1.2.1 (c_J6_bitCount_0f7a4 l D G x2_15) kS_X11_250 (trivial) dX11_round_72 hl.1 cd_J6_bitCount_0f7a4 ⟨Nat.le_of_ble_eq_true rfl, Nat.le_of_ble_eq_true rfl, Nat.le_of_ble_eq_true rfl, Nat.le_of_ble_eq_true rfl, Nat.le_of_ble_eq_true rfl⟩ (fun v32 q32 => ?_)
              have r34 := i_rng v32
              refine lv_icmp_ge (tgt := 84) hx hb dX11_round_75 (by decide) (fun c33 => ?_) (fun c33 => ?_)
              · have b33 : v32.toInt ≤ v8.toInt := i_le.mp c33
                obtain ⟨v35, ev35⟩ : ∃ y : Int32, y = x4_15 + (1) := ⟨_, rfl⟩
                have f36 : v35.toInt = x4_15.toInt + (1) := by rw [ev35]; exact i_addc k_1 (by omega) (by omega)
                refine lv_iinc (v := v35) (lv' := [(4, .int v35), (6, .int (-1 : Int32)), (5, .int v8), (3, .int x3_15), (2, .int x2_15), (0, .ref a0), (1, .int x1)]) hx hb dX11_round_84 hl (k := 2) rfl (by rw [ev35]; rfl) (by decide) rfl (fun ls hl => ?_)
                refine lv_goto (tgt := 15) hx hb dX11_round_87 (by decide) ?_
                exact ih15 v35 x3_15 x2_15 H_15 L_15 ls S_15 (by omega) (by omega) (lv_sub hl [0, 3, 4, 5, 6] rfl)
              · have b33 : ¬ v32.toInt ≤ v8.toInt := fun z9 => c33 (i_le.mpr z9)
                refine lv_iload hx hb dX11_round_78 (lv_at hl 0 rfl) ?_
                refine lv_istore_n (lv' := [(3, .int (-1 : Int32)), (6, .int (-1 : Int32)), (5, .int v8), (4, .int x4_15), (2, .int x2_15), (0, .ref a0), (1, .int x1)]) hx hb dX11_round_80 rfl hl (by decide) rfl (fun ls hl => ?_)
                refine lv_iload hx hb dX11_round_81 (lv_at hl 3 rfl) ?_
                refine lv_istore_n (lv' := [(2, .int x4_15), (3, .int (-1 : Int32)), (6, .int (-1 : Int32)), (5, .int v8), (4, .int x4_15), (0, .ref a0), (1, .int x1)]) hx hb dX11_round_83 rfl hl (by decide) rfl (fun ls hl => ?_)
                obtain ⟨v37, ev37⟩ : ∃ y : Int32, y = x4_15 + (1) := ⟨_, rfl⟩
                have f38 : v37.toInt = x4_15.toInt + (1) := by rw [ev37]; exact i_addc k_1 (by omega) (by omega)
                refine lv_iinc (v := v37) (lv' := [(4, .int v37), (2, .int x4_15), (3, .int (-1 : Int32)), (6, .int (-1 : Int32)), (5, .int v8), (0, .ref a0), (1, .int x1)]) hx hb dX11_round_84 hl (k := 4) rfl (by rw [ev37]; rfl) (by decide) rfl (fun ls hl => ?_)
                refine lv_goto (tgt := 15) hx hb dX11_round_87 (by decide) ?_
                exact ih15 v37 (-1 : Int32) x4_15 H_15 L_15 ls S_15 (by omega) (by omega) (lv_sub hl [0, 2, 1, 5, 6] rfl)
  have k_1 : (1 : Int32).toInt = 1 := by decide
  exact Lp15 2147483647 (1 : Int32) (0 : Int32) (0 : Int32) H1 L1 ls S1 (by omega)  (by omega) (lv_sub hl [0, 1, 2, 3, 4] rfl)

set_option maxRecDepth 100000 in
set_option maxHeartbeats 4000000 in
theorem c_X11_crowd (l : Launch) (D : DD) (G : Nat → Nat) (a0 : Nat) (x1 : Int32) (ga0 : G a0 = 1) : CX l D G yX11_crowd cX11_crowd 6 (some .int) 1 1 6 [.ref a0, .int x1] (fun _ => True) [] (xI (fun H r H1 => True)) (fun H En H1 => En = "java/lang/IndexOutOfBoundsException") := by
  refine enterX (by decide) (Nat.le_of_ble_eq_true rfl) ?_
  intro hl0 p e s m args below meth c ls Q hA hQ ht C hr hO hpre hl
  have hx := C.1
  have hb := C.2.1
  have S : Sd D G [] s.heap s.heap [] := Sd.start hO
  have hl : lv_has ls 6 [(0, .ref a0), (1, .int x1)] := hl
  refine lv_aload_n hx hb dX11_crowd_0 rfl (lv_at hl 0 rfl) ?_
  refine lv_iload_n hx hb dX11_crowd_1 rfl (lv_at hl 1 rfl) ?_
  refine callV_Xv hl0 C S (c_X11_needHouse l D G a0 x1 ga0) kV_X11_125 ga0 (trivial) (by decide +kernel) dX11_crowd_2 hl.1 rfl rfl (by decide) cd_X11_needHouse ⟨Nat.le_of_ble_eq_true rfl, Nat.le_of_ble_eq_true rfl, Nat.le_of_ble_eq_true rfl, Nat.le_of_ble_eq_true rfl, Nat.le_of_ble_eq_true rfl⟩ (fun H1 L1 S1 K1 q1 => ?_) (fun En H1 L1 q9 ce S1 K1 X1 h7 h8 h9 => outX hQ C ht S1 h7 h8 h9 (by decide) (by decide) (by rcases X1 with rfl <;> simp))
  refine lv_iconst (v := -1) hx hb dX11_crowd_5 (by decide) ?_
  refine lv_istore_n (lv' := [(2, .int (-1 : Int32)), (0, .ref a0), (1, .int x1)]) hx hb dX11_crowd_6 rfl hl (by decide) rfl (fun ls hl => ?_)
  refine lv_iconst (v := 0) hx hb dX11_crowd_7 (by decide) ?_
  refine lv_istore_n (lv' := [(3, .int (0 : Int32)), (2, .int (-1 : Int32)), (0, .ref a0), (1, .int x1)]) hx hb dX11_crowd_8 rfl hl (by decide) rfl (fun ls hl => ?_)
  refine lv_iconst (v := 0) hx hb dX11_crowd_9 (by decide) ?_
  refine lv_istore (lv' := [(4, .int (0 : Int32)), (3, .int (0 : Int32)), (2, .int (-1 : Int32)), (0, .ref a0), (1, .int x1)]) hx hb dX11_crowd_10 hl (by decide) rfl (fun ls hl => ?_)
  have Lp12 : ∀ (n : Nat) (x4_12 : Int32) (x3_12 : Int32) (x2_12 : Int32) (ls : Array Slot), (0 ≤ x4_12.toInt ∧ x4_12.toInt ≤ 2147483647) → 2147483648 - x4_12.toInt ≤ (n : Int) → lv_has ls 6 [(4, .int x4_12), (3, .int x3_12), (2, .int x2_12), (0, .ref a0), (1, .int x1)] → W p l e (rmU 1 1 6) s m args below meth c H1 L1 1 6 Q (F0 m 12 ls []) := by
    intro n
    induction n with
    | zero =>
      intro x4_12 x3_12 x2_12 ls j12_0 hn hl
      exact absurd hn (by omega)
    | succ n ih12 =>
      intro x4_12 x3_12 x2_12 ls j12_0 hn hl
      refine lv_iload hx hb dX11_crowd_12 (lv_at hl 0 rfl) ?_
      refine lv_bipush (v := 10) hx hb dX11_crowd_14 (by decide) ?_
      have k_10 : (10 : Int32).toInt = 10 := by decide
      refine lv_icmp_ge (tgt := 49) hx hb dX11_crowd_16 (by decide) (fun c2 => ?_) (fun c2 => ?_)
      · have b2 : (10 : Int32).toInt ≤ x4_12.toInt := i_le.mp c2
        refine lv_iload_n hx hb dX11_crowd_49 rfl (lv_at hl 2 rfl) ?_
        exact retX_i hQ C S1 hr dX11_crowd_50 (by decide) (by decide) (trivial)
      · have b2 : ¬ (10 : Int32).toInt ≤ x4_12.toInt := fun z9 => c2 (i_le.mpr z9)
        refine lv_aload_n hx hb dX11_crowd_19 rfl (lv_at hl 3 rfl) ?_
        refine q_gr (T := TX11) C S1.1 ga0 1 kF_X11_19 dX11_crowd_20 rfl rfl (by decide) rfl (by decide) rfl (fun g3 => ?_)
        refine lv_iload_n hx hb dX11_crowd_23 rfl (lv_at hl 4 rfl) ?_
        refine lv_iload hx hb dX11_crowd_24 (lv_at hl 0 rfl) ?_
        refine callV_Pi C S1.1 S1.2.1.2.1 (c_X5_sharing l D G (fR D H1 10 a0 1) x1 x4_12 g3) kV_X11_295 g3 (trivial) dX11_crowd_26 hl.1 rfl rfl (by decide) cd_X5_sharing ⟨Nat.le_of_ble_eq_true rfl, Nat.le_of_ble_eq_true rfl, Nat.le_of_ble_eq_true rfl, Nat.le_of_ble_eq_true rfl, Nat.le_of_ble_eq_true rfl⟩ (fun v4 q4 => ?_)
        refine lv_istore (lv' := [(5, .int v4), (4, .int x4_12), (3, .int x3_12), (2, .int x2_12), (0, .ref a0), (1, .int x1)]) hx hb dX11_crowd_29 hl (by decide) rfl (fun ls hl => ?_)
        refine lv_iload hx hb dX11_crowd_31 (lv_at hl 0 rfl) ?_
        refine lv_iload_n hx hb dX11_crowd_33 rfl (lv_at hl 2 rfl) ?_
        refine lv_icmp_le (tgt := 43) hx hb dX11_crowd_34 (by decide) (fun c5 => ?_) (fun c5 => ?_)
        · have b5 : v4.toInt ≤ x3_12.toInt := i_le.mp c5
          obtain ⟨v6, ev6⟩ : ∃ y : Int32, y = x4_12 + (1) := ⟨_, rfl⟩
          have k_1 : (1 : Int32).toInt = 1 := by decide
          have f7 : v6.toInt = x4_12.toInt + (1) := by rw [ev6]; exact i_addc k_1 (by omega) (by omega)
          refine lv_iinc (v := v6) (lv' := [(4, .int v6), (5, .int v4), (3, .int x3_12), (2, .int x2_12), (0, .ref a0), (1, .int x1)]) hx hb dX11_crowd_43 hl (k := 1) rfl (by rw [ev6]; rfl) (by decide) rfl (fun ls hl => ?_)
          refine lv_goto (tgt := 12) hx hb dX11_crowd_46 (by decide) ?_
          exact ih12 v6 x3_12 x2_12 ls (by omega) (by omega) (lv_sub hl [0, 2, 3, 4, 5] rfl)
        · have b5 : ¬ v4.toInt ≤ x3_12.toInt := fun z9 => c5 (i_le.mpr z9)
          refine lv_iload hx hb dX11_crowd_37 (lv_at hl 0 rfl) ?_
          refine lv_istore_n (lv' := [(3, .int v4), (5, .int v4), (4, .int x4_12), (2, .int x2_12), (0, .ref a0), (1, .int x1)]) hx hb dX11_crowd_39 rfl hl (by decide) rfl (fun ls hl => ?_)
          refine lv_iload hx hb dX11_crowd_40 (lv_at hl 2 rfl) ?_
          refine lv_istore_n (lv' := [(2, .int x4_12), (3, .int v4), (5, .int v4), (4, .int x4_12), (0, .ref a0), (1, .int x1)]) hx hb dX11_crowd_42 rfl hl (by decide) rfl (fun ls hl => ?_)
          obtain ⟨v8, ev8⟩ : ∃ y : Int32, y = x4_12 + (1) := ⟨_, rfl⟩
          have k_1 : (1 : Int32).toInt = 1 := by decide
          have f9 : v8.toInt = x4_12.toInt + (1) := by rw [ev8]; exact i_addc k_1 (by omega) (by omega)
          refine lv_iinc (v := v8) (lv' := [(4, .int v8), (2, .int x4_12), (3, .int v4), (5, .int v4), (0, .ref a0), (1, .int x1)]) hx hb dX11_crowd_43 hl (k := 3) rfl (by rw [ev8]; rfl) (by decide) rfl (fun ls hl => ?_)
          refine lv_goto (tgt := 12) hx hb dX11_crowd_46 (by decide) ?_
          exact ih12 v8 v4 x4_12 ls (by omega) (by omega) (lv_sub hl [0, 2, 1, 4, 5] rfl)
  have k_0 : (0 : Int32).toInt = 0 := by decide
  have k_m1 : (-1 : Int32).toInt = -1 := by decide
  exact Lp12 2147483648 (0 : Int32) (0 : Int32) (-1 : Int32) ls (by omega)  (by omega) (lv_sub hl [0, 1, 2, 3, 4] rfl)

set_option maxRecDepth 100000 in
set_option maxHeartbeats 4000000 in
theorem c_X11_warmer (l : Launch) (D : DD) (G : Nat → Nat) (a0 : Nat) (x1 : Int32) (ga0 : G a0 = 1) : CX l D G yX11_warmer cX11_warmer 7 (some .int) 4 1 6 [.ref a0, .int x1] (fun _ => True) [(14, 0), (15, 0), (19, 0)] (xI (fun H r H1 => True)) (fun H En H1 => En = "java/lang/IndexOutOfBoundsException") := by
  refine enterX (by decide) (Nat.le_of_ble_eq_true rfl) ?_
  intro hl0 p e s m args below meth c ls Q hA hQ ht C hr hO hpre hl
  have hx := C.1
  have hb := C.2.1
  have S : Sd D G [(14, 0), (15, 0), (19, 0)] s.heap s.heap [] := Sd.start hO
  have hl : lv_has ls 7 [(0, .ref a0), (1, .int x1)] := hl
  refine lv_aload_n hx hb dX11_warmer_0 rfl (lv_at hl 0 rfl) ?_
  refine lv_iload_n hx hb dX11_warmer_1 rfl (lv_at hl 1 rfl) ?_
  refine callV_Xv hl0 C S (c_X11_needHouse l D G a0 x1 ga0) kV_X11_125 ga0 (trivial) (by decide +kernel) dX11_warmer_2 hl.1 rfl rfl (by decide) cd_X11_needHouse ⟨Nat.le_of_ble_eq_true rfl, Nat.le_of_ble_eq_true rfl, Nat.le_of_ble_eq_true rfl, Nat.le_of_ble_eq_true rfl, Nat.le_of_ble_eq_true rfl⟩ (fun H1 L1 S1 K1 q1 => ?_) (fun En H1 L1 q9 ce S1 K1 X1 h7 h8 h9 => outX hQ C ht S1 h7 h8 h9 (by decide) (by decide) (by rcases X1 with rfl <;> simp))
  refine lv_aload_n hx hb dX11_warmer_5 rfl (lv_at hl 0 rfl) ?_
  refine q_gr (T := TX11) C S1.1 ga0 5 kF_X11_41 dX11_warmer_6 rfl rfl (by decide) rfl (by decide) rfl (fun g2 => ?_)
  refine callV_Ev C S1 (c_X8_learnCharges l D G (fR D H1 10 a0 5) g2) kV_X11_259 g2 (trivial) (by decide +kernel) dX11_warmer_9 hl.1 rfl rfl (by decide) cd_X8_learnCharges ⟨Nat.le_of_ble_eq_true rfl, Nat.le_of_ble_eq_true rfl, Nat.le_of_ble_eq_true rfl, Nat.le_of_ble_eq_true rfl, Nat.le_of_ble_eq_true rfl⟩ (fun H3 L3 S3 K3 q3 => ?_)
  refine lv_iconst (v := -1) hx hb dX11_warmer_12 (by decide) ?_
  refine lv_istore_n (lv' := [(2, .int (-1 : Int32)), (0, .ref a0), (1, .int x1)]) hx hb dX11_warmer_13 rfl hl (by decide) rfl (fun ls hl => ?_)
  refine lv_iconst (v := 0) hx hb dX11_warmer_14 (by decide) ?_
  refine lv_istore_n (lv' := [(3, .int (0 : Int32)), (2, .int (-1 : Int32)), (0, .ref a0), (1, .int x1)]) hx hb dX11_warmer_15 rfl hl (by decide) rfl (fun ls hl => ?_)
  refine lv_iconst (v := 0) hx hb dX11_warmer_16 (by decide) ?_
  refine lv_istore (lv' := [(4, .int (0 : Int32)), (3, .int (0 : Int32)), (2, .int (-1 : Int32)), (0, .ref a0), (1, .int x1)]) hx hb dX11_warmer_17 hl (by decide) rfl (fun ls hl => ?_)
  have Lp19 : ∀ (n : Nat) (x4_19 : Int32) (x3_19 : Int32) (x2_19 : Int32) (ls : Array Slot), (0 ≤ x4_19.toInt ∧ x4_19.toInt ≤ 2147483647) → 2147483648 - x4_19.toInt ≤ (n : Int) → lv_has ls 7 [(4, .int x4_19), (3, .int x3_19), (2, .int x2_19), (0, .ref a0), (1, .int x1)] → W p l e (rmU 4 1 6) s m args below meth c H3 L3 1 6 Q (F0 m 19 ls []) := by
    intro n
    induction n with
    | zero =>
      intro x4_19 x3_19 x2_19 ls j19_0 hn hl
      exact absurd hn (by omega)
    | succ n ih19 =>
      intro x4_19 x3_19 x2_19 ls j19_0 hn hl
      refine lv_iload hx hb dX11_warmer_19 (lv_at hl 0 rfl) ?_
      refine lv_aload_n hx hb dX11_warmer_21 rfl (lv_at hl 3 rfl) ?_
      refine q_gr (T := TX11) C S3.1 ga0 1 kF_X11_19 dX11_warmer_22 rfl rfl (by decide) rfl (by decide) rfl (fun g4 => ?_)
      refine q_gi (T := TX5) C S3.1 g4 4 kF_X11_283 dX11_warmer_25 rfl rfl (by decide) rfl (by decide) rfl ?_
      have r5 : 0 ≤ (fI D H3 5 (fR D H3 10 a0 1) 4).toInt ∧ (fI D H3 5 (fR D H3 10 a0 1) 4).toInt ≤ 12 := S3.1.rng g4 rfl (by decide) rfl
      have r7 := i_rng x4_19
      refine lv_icmp_ge (tgt := 94) hx hb dX11_warmer_28 (by decide) (fun c6 => ?_) (fun c6 => ?_)
      · have b6 : (fI D H3 5 (fR D H3 10 a0 1) 4).toInt ≤ x4_19.toInt := i_le.mp c6
        refine lv_iload_n hx hb dX11_warmer_94 rfl (lv_at hl 2 rfl) ?_
        exact retX_i hQ C S3 hr dX11_warmer_95 (by decide) (by decide) (trivial)
      · have b6 : ¬ (fI D H3 5 (fR D H3 10 a0 1) 4).toInt ≤ x4_19.toInt := fun z9 => c6 (i_le.mpr z9)
        refine lv_aload_n hx hb dX11_warmer_31 rfl (lv_at hl 3 rfl) ?_
        refine q_gr (T := TX11) C S3.1 ga0 1 kF_X11_19 dX11_warmer_32 rfl rfl (by decide) rfl (by decide) rfl (fun g8 => ?_)
        refine q_gr (T := TX5) C S3.1 g8 1 kF_X11_176 dX11_warmer_35 rfl rfl (by decide) rfl (by decide) rfl (fun g9 => ?_)
        refine lv_iload hx hb dX11_warmer_38 (lv_at hl 0 rfl) ?_
        refine q_aald C S3.1 g9 (by omega) (by omega) dX11_warmer_40 rfl (by decide) rfl rfl (fun g10 => ?_)
        refine lv_astore (lv' := [(5, .ref (eR H3 (fR D H3 5 (fR D H3 10 a0 1) 1) x4_19.toInt.toNat)), (4, .int x4_19), (3, .int x3_19), (2, .int x2_19), (0, .ref a0), (1, .int x1)]) hx hb dX11_warmer_41 hl (by decide) rfl (fun ls hl => ?_)
        refine lv_aload hx hb dX11_warmer_43 (lv_at hl 0 rfl) ?_
        refine q_gi (T := TX1) C S3.1 g10 0 kF_X11_180 dX11_warmer_45 rfl rfl (by decide) rfl (by decide) rfl ?_
        have r11 : 0 ≤ (fI D H3 1 (eR H3 (fR D H3 5 (fR D H3 10 a0 1) 1) x4_19.toInt.toNat) 0).toInt ∧ (fI D H3 1 (eR H3 (fR D H3 5 (fR D H3 10 a0 1) 1) x4_19.toInt.toNat) 0).toInt ≤ 5 := S3.1.rng g10 rfl (by decide) rfl
        refine lv_iload_n hx hb dX11_warmer_48 rfl (lv_at hl 5 rfl) ?_
        refine lv_icmp_ne (tgt := 73) hx hb dX11_warmer_49 (by decide) (fun c12 => ?_) (fun c12 => ?_)
        · have b12 : ¬ (fI D H3 1 (eR H3 (fR D H3 5 (fR D H3 10 a0 1) 1) x4_19.toInt.toNat) 0).toInt = x1.toInt := fun z9 => c12 (i_eq.mpr z9)
          refine lv_iconst (v := 0) hx hb dX11_warmer_73 (by decide) ?_
          refine lv_istore (lv' := [(6, .int (0 : Int32)), (5, .ref (eR H3 (fR D H3 5 (fR D H3 10 a0 1) 1) x4_19.toInt.toNat)), (4, .int x4_19), (3, .int x3_19), (2, .int x2_19), (0, .ref a0), (1, .int x1)]) hx hb dX11_warmer_74 hl (by decide) rfl (fun ls hl => ?_)
          refine lv_iload hx hb dX11_warmer_76 (lv_at hl 0 rfl) ?_
          refine lv_iload_n hx hb dX11_warmer_78 rfl (lv_at hl 3 rfl) ?_
          have k_0 : (0 : Int32).toInt = 0 := by decide
          refine lv_icmp_le (tgt := 88) hx hb dX11_warmer_79 (by decide) (fun c13 => ?_) (fun c13 => ?_)
          · have b13 : (0 : Int32).toInt ≤ x3_19.toInt := i_le.mp c13
            obtain ⟨v14, ev14⟩ : ∃ y : Int32, y = x4_19 + (1) := ⟨_, rfl⟩
            have k_1 : (1 : Int32).toInt = 1 := by decide
            have f15 : v14.toInt = x4_19.toInt + (1) := by rw [ev14]; exact i_addc k_1 (by omega) (by omega)
            refine lv_iinc (v := v14) (lv' := [(4, .int v14), (6, .int (0 : Int32)), (5, .ref (eR H3 (fR D H3 5 (fR D H3 10 a0 1) 1) x4_19.toInt.toNat)), (3, .int x3_19), (2, .int x2_19), (0, .ref a0), (1, .int x1)]) hx hb dX11_warmer_88 hl (k := 2) rfl (by rw [ev14]; rfl) (by decide) rfl (fun ls hl => ?_)
            refine lv_goto (tgt := 19) hx hb dX11_warmer_91 (by decide) ?_
            exact ih19 v14 x3_19 x2_19 ls (by omega) (by omega) (lv_sub hl [0, 3, 4, 5, 6] rfl)
          · have b13 : ¬ (0 : Int32).toInt ≤ x3_19.toInt := fun z9 => c13 (i_le.mpr z9)
            refine lv_iload hx hb dX11_warmer_82 (lv_at hl 0 rfl) ?_
            refine lv_istore_n (lv' := [(3, .int (0 : Int32)), (6, .int (0 : Int32)), (5, .ref (eR H3 (fR D H3 5 (fR D H3 10 a0 1) 1) x4_19.toInt.toNat)), (4, .int x4_19), (2, .int x2_19), (0, .ref a0), (1, .int x1)]) hx hb dX11_warmer_84 rfl hl (by decide) rfl (fun ls hl => ?_)
            refine lv_iload hx hb dX11_warmer_85 (lv_at hl 3 rfl) ?_
            refine lv_istore_n (lv' := [(2, .int x4_19), (3, .int (0 : Int32)), (6, .int (0 : Int32)), (5, .ref (eR H3 (fR D H3 5 (fR D H3 10 a0 1) 1) x4_19.toInt.toNat)), (4, .int x4_19), (0, .ref a0), (1, .int x1)]) hx hb dX11_warmer_87 rfl hl (by decide) rfl (fun ls hl => ?_)
            obtain ⟨v16, ev16⟩ : ∃ y : Int32, y = x4_19 + (1) := ⟨_, rfl⟩
            have k_1 : (1 : Int32).toInt = 1 := by decide
            have f17 : v16.toInt = x4_19.toInt + (1) := by rw [ev16]; exact i_addc k_1 (by omega) (by omega)
            refine lv_iinc (v := v16) (lv' := [(4, .int v16), (2, .int x4_19), (3, .int (0 : Int32)), (6, .int (0 : Int32)), (5, .ref (eR H3 (fR D H3 5 (fR D H3 10 a0 1) 1) x4_19.toInt.toNat)), (0, .ref a0), (1, .int x1)]) hx hb dX11_warmer_88 hl (k := 4) rfl (by rw [ev16]; rfl) (by decide) rfl (fun ls hl => ?_)
            refine lv_goto (tgt := 19) hx hb dX11_warmer_91 (by decide) ?_
            exact ih19 v16 (0 : Int32) x4_19 ls (by omega) (by omega) (lv_sub hl [0, 2, 1, 5, 6] rfl)
        · have b12 : (fI D H3 1 (eR H3 (fR D H3 5 (fR D H3 10 a0 1) 1) x4_19.toInt.toNat) 0).toInt = x1.toInt := i_eq.mp c12
          refine lv_aload hx hb dX11_warmer_52 (lv_at hl 0 rfl) ?_
          refine q_gi (T := TX1) C S3.1 g10 5 kF_X11_197 dX11_warmer_54 rfl rfl (by decide) rfl (by decide) rfl ?_
          refine lv_iconst (v := 1) hx hb dX11_warmer_57 (by decide) ?_
          have k_1 : (1 : Int32).toInt = 1 := by decide
          refine lv_icmp_ne (tgt := 73) hx hb dX11_warmer_58 (by decide) (fun c18 => ?_) (fun c18 => ?_)
          · have b18 : ¬ (fI D H3 1 (eR H3 (fR D H3 5 (fR D H3 10 a0 1) 1) x4_19.toInt.toNat) 5).toInt = (1 : Int32).toInt := fun z9 => c18 (i_eq.mpr z9)
            refine lv_iconst (v := 0) hx hb dX11_warmer_73 (by decide) ?_
            refine lv_istore (lv' := [(6, .int (0 : Int32)), (5, .ref (eR H3 (fR D H3 5 (fR D H3 10 a0 1) 1) x4_19.toInt.toNat)), (4, .int x4_19), (3, .int x3_19), (2, .int x2_19), (0, .ref a0), (1, .int x1)]) hx hb dX11_warmer_74 hl (by decide) rfl (fun ls hl => ?_)
            refine lv_iload hx hb dX11_warmer_76 (lv_at hl 0 rfl) ?_
            refine lv_iload_n hx hb dX11_warmer_78 rfl (lv_at hl 3 rfl) ?_
            have k_0 : (0 : Int32).toInt = 0 := by decide
            refine lv_icmp_le (tgt := 88) hx hb dX11_warmer_79 (by decide) (fun c19 => ?_) (fun c19 => ?_)
            · have b19 : (0 : Int32).toInt ≤ x3_19.toInt := i_le.mp c19
              obtain ⟨v20, ev20⟩ : ∃ y : Int32, y = x4_19 + (1) := ⟨_, rfl⟩
              have f21 : v20.toInt = x4_19.toInt + (1) := by rw [ev20]; exact i_addc k_1 (by omega) (by omega)
              refine lv_iinc (v := v20) (lv' := [(4, .int v20), (6, .int (0 : Int32)), (5, .ref (eR H3 (fR D H3 5 (fR D H3 10 a0 1) 1) x4_19.toInt.toNat)), (3, .int x3_19), (2, .int x2_19), (0, .ref a0), (1, .int x1)]) hx hb dX11_warmer_88 hl (k := 2) rfl (by rw [ev20]; rfl) (by decide) rfl (fun ls hl => ?_)
              refine lv_goto (tgt := 19) hx hb dX11_warmer_91 (by decide) ?_
              exact ih19 v20 x3_19 x2_19 ls (by omega) (by omega) (lv_sub hl [0, 3, 4, 5, 6] rfl)
            · have b19 : ¬ (0 : Int32).toInt ≤ x3_19.toInt := fun z9 => c19 (i_le.mpr z9)
              refine lv_iload hx hb dX11_warmer_82 (lv_at hl 0 rfl) ?_
              refine lv_istore_n (lv' := [(3, .int (0 : Int32)), (6, .int (0 : Int32)), (5, .ref (eR H3 (fR D H3 5 (fR D H3 10 a0 1) 1) x4_19.toInt.toNat)), (4, .int x4_19), (2, .int x2_19), (0, .ref a0), (1, .int x1)]) hx hb dX11_warmer_84 rfl hl (by decide) rfl (fun ls hl => ?_)
              refine lv_iload hx hb dX11_warmer_85 (lv_at hl 3 rfl) ?_
              refine lv_istore_n (lv' := [(2, .int x4_19), (3, .int (0 : Int32)), (6, .int (0 : Int32)), (5, .ref (eR H3 (fR D H3 5 (fR D H3 10 a0 1) 1) x4_19.toInt.toNat)), (4, .int x4_19), (0, .ref a0), (1, .int x1)]) hx hb dX11_warmer_87 rfl hl (by decide) rfl (fun ls hl => ?_)
              obtain ⟨v22, ev22⟩ : ∃ y : Int32, y = x4_19 + (1) := ⟨_, rfl⟩
              have f23 : v22.toInt = x4_19.toInt + (1) := by rw [ev22]; exact i_addc k_1 (by omega) (by omega)
              refine lv_iinc (v := v22) (lv' := [(4, .int v22), (2, .int x4_19), (3, .int (0 : Int32)), (6, .int (0 : Int32)), (5, .ref (eR H3 (fR D H3 5 (fR D H3 10 a0 1) 1) x4_19.toInt.toNat)), (0, .ref a0), (1, .int x1)]) hx hb dX11_warmer_88 hl (k := 4) rfl (by rw [ev22]; rfl) (by decide) rfl (fun ls hl => ?_)
              refine lv_goto (tgt := 19) hx hb dX11_warmer_91 (by decide) ?_
              exact ih19 v22 (0 : Int32) x4_19 ls (by omega) (by omega) (lv_sub hl [0, 2, 1, 5, 6] rfl)
          · have b18 : (fI D H3 1 (eR H3 (fR D H3 5 (fR D H3 10 a0 1) 1) x4_19.toInt.toNat) 5).toInt = (1 : Int32).toInt := i_eq.mp c18
            refine lv_aload_n hx hb dX11_warmer_61 rfl (lv_at hl 4 rfl) ?_
            refine q_gr (T := TX11) C S3.1 ga0 5 kF_X11_41 dX11_warmer_62 rfl rfl (by decide) rfl (by decide) rfl (fun g24 => ?_)
            refine lv_iload hx hb dX11_warmer_65 (lv_at hl 1 rfl) ?_
            refine callV_Pi C S3.1 S3.2.1.2.1 (c_X8_growthBy l D G (fR D H3 10 a0 5) x4_19 g24 (by omega)) kV_X11_298 g24 (trivial) dX11_warmer_67 hl.1 rfl rfl (by decide) cd_X8_growthBy ⟨Nat.le_of_ble_eq_true rfl, Nat.le_of_ble_eq_true rfl, Nat.le_of_ble_eq_true rfl, Nat.le_of_ble_eq_true rfl, Nat.le_of_ble_eq_true rfl⟩ (fun v25 q25 => ?_)
            refine lv_goto (tgt := 74) hx hb dX11_warmer_70 (by decide) ?_
            refine lv_istore (lv' := [(6, .int v25), (5, .ref (eR H3 (fR D H3 5 (fR D H3 10 a0 1) 1) x4_19.toInt.toNat)), (4, .int x4_19), (3, .int x3_19), (2, .int x2_19), (0, .ref a0), (1, .int x1)]) hx hb dX11_warmer_74 hl (by decide) rfl (fun ls hl => ?_)
            refine lv_iload hx hb dX11_warmer_76 (lv_at hl 0 rfl) ?_
            refine lv_iload_n hx hb dX11_warmer_78 rfl (lv_at hl 3 rfl) ?_
            refine lv_icmp_le (tgt := 88) hx hb dX11_warmer_79 (by decide) (fun c26 => ?_) (fun c26 => ?_)
            · have b26 : v25.toInt ≤ x3_19.toInt := i_le.mp c26
              obtain ⟨v27, ev27⟩ : ∃ y : Int32, y = x4_19 + (1) := ⟨_, rfl⟩
              have f28 : v27.toInt = x4_19.toInt + (1) := by rw [ev27]; exact i_addc k_1 (by omega) (by omega)
              refine lv_iinc (v := v27) (lv' := [(4, .int v27), (6, .int v25), (5, .ref (eR H3 (fR D H3 5 (fR D H3 10 a0 1) 1) x4_19.toInt.toNat)), (3, .int x3_19), (2, .int x2_19), (0, .ref a0), (1, .int x1)]) hx hb dX11_warmer_88 hl (k := 2) rfl (by rw [ev27]; rfl) (by decide) rfl (fun ls hl => ?_)
              refine lv_goto (tgt := 19) hx hb dX11_warmer_91 (by decide) ?_
              exact ih19 v27 x3_19 x2_19 ls (by omega) (by omega) (lv_sub hl [0, 3, 4, 5, 6] rfl)
            · have b26 : ¬ v25.toInt ≤ x3_19.toInt := fun z9 => c26 (i_le.mpr z9)
              refine lv_iload hx hb dX11_warmer_82 (lv_at hl 0 rfl) ?_
              refine lv_istore_n (lv' := [(3, .int v25), (6, .int v25), (5, .ref (eR H3 (fR D H3 5 (fR D H3 10 a0 1) 1) x4_19.toInt.toNat)), (4, .int x4_19), (2, .int x2_19), (0, .ref a0), (1, .int x1)]) hx hb dX11_warmer_84 rfl hl (by decide) rfl (fun ls hl => ?_)
              refine lv_iload hx hb dX11_warmer_85 (lv_at hl 3 rfl) ?_
              refine lv_istore_n (lv' := [(2, .int x4_19), (3, .int v25), (6, .int v25), (5, .ref (eR H3 (fR D H3 5 (fR D H3 10 a0 1) 1) x4_19.toInt.toNat)), (4, .int x4_19), (0, .ref a0), (1, .int x1)]) hx hb dX11_warmer_87 rfl hl (by decide) rfl (fun ls hl => ?_)
              obtain ⟨v29, ev29⟩ : ∃ y : Int32, y = x4_19 + (1) := ⟨_, rfl⟩
              have f30 : v29.toInt = x4_19.toInt + (1) := by rw [ev29]; exact i_addc k_1 (by omega) (by omega)
              refine lv_iinc (v := v29) (lv' := [(4, .int v29), (2, .int x4_19), (3, .int v25), (6, .int v25), (5, .ref (eR H3 (fR D H3 5 (fR D H3 10 a0 1) 1) x4_19.toInt.toNat)), (0, .ref a0), (1, .int x1)]) hx hb dX11_warmer_88 hl (k := 4) rfl (by rw [ev29]; rfl) (by decide) rfl (fun ls hl => ?_)
              refine lv_goto (tgt := 19) hx hb dX11_warmer_91 (by decide) ?_
              exact ih19 v29 v25 x4_19 ls (by omega) (by omega) (lv_sub hl [0, 2, 1, 5, 6] rfl)
  have k_0 : (0 : Int32).toInt = 0 := by decide
  have k_m1 : (-1 : Int32).toInt = -1 := by decide
  exact Lp19 2147483648 (0 : Int32) (0 : Int32) (-1 : Int32) ls (by omega)  (by omega) (lv_sub hl [0, 1, 2, 3, 4] rfl)

set_option maxRecDepth 100000 in
set_option maxHeartbeats 4000000 in
theorem c_X11_least (l : Launch) (D : DD) (G : Nat → Nat) (a0 : Nat) (x1 : Int32) (x2 : Int32) (ga0 : G a0 = 1) : CX l D G yX11_least cX11_least 3 (some .int) 4 2 12 [.ref a0, .int x1, .int x2] (fun _ => True) [(14, 0), (15, 0), (19, 0)] (xI (fun H r H1 => True)) (fun H En H1 => En = "java/lang/IndexOutOfBoundsException" ∨ En = "java/lang/IllegalArgumentException") := by
  refine enterX (by decide) (Nat.le_of_ble_eq_true rfl) ?_
  intro hl0 p e s m args below meth c ls Q hA hQ ht C hr hO hpre hl
  have hx := C.1
  have hb := C.2.1
  have S : Sd D G [(14, 0), (15, 0), (19, 0)] s.heap s.heap [] := Sd.start hO
  have hl : lv_has ls 3 [(0, .ref a0), (1, .int x1), (2, .int x2)] := hl
  refine lv_aload_n hx hb dX11_least_0 rfl (lv_at hl 0 rfl) ?_
  refine lv_iload_n hx hb dX11_least_1 rfl (lv_at hl 1 rfl) ?_
  refine callV_Xv hl0 C S (c_X11_needHouse l D G a0 x1 ga0) kV_X11_125 ga0 (trivial) (by decide +kernel) dX11_least_2 hl.1 rfl rfl (by decide) cd_X11_needHouse ⟨Nat.le_of_ble_eq_true rfl, Nat.le_of_ble_eq_true rfl, Nat.le_of_ble_eq_true rfl, Nat.le_of_ble_eq_true rfl, Nat.le_of_ble_eq_true rfl⟩ (fun H1 L1 S1 K1 q1 => ?_) (fun En H1 L1 q9 ce S1 K1 X1 h7 h8 h9 => outX hQ C ht S1 h7 h8 h9 (by decide) (by decide) (by rcases X1 with rfl <;> simp))
  refine lv_aload_n hx hb dX11_least_5 rfl (lv_at hl 0 rfl) ?_
  refine lv_iload_n hx hb dX11_least_6 rfl (lv_at hl 2 rfl) ?_
  refine lv_iconst (v := 0) hx hb dX11_least_7 (by decide) ?_
  refine lv_sipush (v := 999) hx hb dX11_least_8 (by decide) ?_
  have k_0 : (0 : Int32).toInt = 0 := by decide
  have k_999 : (999 : Int32).toInt = 999 := by decide
  refine callV_Xv hl0 C S1 (c_X11_needNumber l D G a0 x2 (0 : Int32) (999 : Int32) ga0) kV_X11_228 ga0 (trivial) (by decide +kernel) dX11_least_11 hl.1 rfl rfl (by decide) cd_X11_needNumber ⟨Nat.le_of_ble_eq_true rfl, Nat.le_of_ble_eq_true rfl, Nat.le_of_ble_eq_true rfl, Nat.le_of_ble_eq_true rfl, Nat.le_of_ble_eq_true rfl⟩ (fun H2 L2 S2 K2 q2 => ?_) (fun En H2 L2 q9 ce S2 K2 X2 h7 h8 h9 => outX hQ C ht S2 h7 h8 h9 (by decide) (by decide) (by rcases X2 with rfl <;> simp))
  refine lv_aload_n hx hb dX11_least_14 rfl (lv_at hl 0 rfl) ?_
  refine q_gr (T := TX11) C S2.1 ga0 5 kF_X11_41 dX11_least_15 rfl rfl (by decide) rfl (by decide) rfl (fun g3 => ?_)
  refine callV_Ev C S2 (c_X8_learnCharges l D G (fR D H2 10 a0 5) g3) kV_X11_259 g3 (trivial) (by decide +kernel) dX11_least_18 hl.1 rfl rfl (by decide) cd_X8_learnCharges ⟨Nat.le_of_ble_eq_true rfl, Nat.le_of_ble_eq_true rfl, Nat.le_of_ble_eq_true rfl, Nat.le_of_ble_eq_true rfl, Nat.le_of_ble_eq_true rfl⟩ (fun H4 L4 S4 K4 q4 => ?_)
  refine lv_aload_n hx hb dX11_least_21 rfl (lv_at hl 0 rfl) ?_
  refine q_gr (T := TX11) C S4.1 ga0 5 kF_X11_41 dX11_least_22 rfl rfl (by decide) rfl (by decide) rfl (fun g5 => ?_)
  refine lv_iload_n hx hb dX11_least_25 rfl (lv_at hl 1 rfl) ?_
  refine lv_iload_n hx hb dX11_least_26 rfl (lv_at hl 2 rfl) ?_
  refine callV_Pi C S4.1 S4.2.1.2.1 (c_X8_fewestWalls l D G (fR D H4 10 a0 5) x1 x2 g5) kV_X11_307 g5 (trivial) dX11_least_27 hl.1 rfl rfl (by decide) cd_X8_fewestWalls ⟨Nat.le_of_ble_eq_true rfl, Nat.le_of_ble_eq_true rfl, Nat.le_of_ble_eq_true rfl, Nat.le_of_ble_eq_true rfl, Nat.le_of_ble_eq_true rfl⟩ (fun v6 q6 => ?_)
  exact retX_i hQ C S4 hr dX11_least_30 (by decide) (by decide) (trivial)
