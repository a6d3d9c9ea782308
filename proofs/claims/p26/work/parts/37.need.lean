set_option maxRecDepth 100000 in
set_option maxHeartbeats 4000000 in
theorem c_X11_needHouse (l : Launch) (D : DD) (G : Nat → Nat) (a0 : Nat) (x1 : Int32) (ga0 : G a0 = 1) : CX l D G yX11_needHouse cX11_needHouse 2 none 0 1 6 [.ref a0, .int x1] (fun _ => True) [] (xV (fun H H1 => 0 ≤ x1.toInt ∧ x1.toInt ≤ 5)) (fun H En H1 => En = "java/lang/IndexOutOfBoundsException") := by
  refine enterX (by decide) (Nat.le_of_ble_eq_true rfl) ?_
  intro hl0 p e s m args below meth c ls Q hA hQ ht C hr hO hpre hl
  have hx := C.1
  have hb := C.2.1
  have S : Sd D G [] s.heap s.heap [] := Sd.start hO
  have hl : lv_has ls 2 [(0, .ref a0), (1, .int x1)] := hl
  refine lv_iload_n hx hb dX11_needHouse_0 rfl (lv_at hl 1 rfl) ?_
  have k_0 : (0 : Int32).toInt = 0 := by decide
  refine lv_if_lt (tgt := 15) hx hb dX11_needHouse_1 (by decide) (fun c1 => ?_) (fun c1 => ?_)
  · have b1 : x1.toInt < (0 : Int32).toInt := i_lt.mp c1
    exact q_throwW hl0 hQ C ht S kL_X11_223 kI_IOB ks_X11_349 ka_X11_227 kf_IOB dX11_needHouse_15 dX11_needHouse_18 dX11_needHouse_19 dX11_needHouse_22 dX11_needHouse_25 hl.1 ⟨Nat.le_of_ble_eq_true rfl, Nat.le_of_ble_eq_true rfl, Nat.le_of_ble_eq_true rfl, Nat.le_of_ble_eq_true rfl⟩ (by decide) (by decide) (fun H1 g1 g2 => by simp)
  · have b1 : ¬ x1.toInt < (0 : Int32).toInt := fun z9 => c1 (i_lt.mpr z9)
    refine lv_iload_n hx hb dX11_needHouse_4 rfl (lv_at hl 1 rfl) ?_
    refine lv_aload_n hx hb dX11_needHouse_5 rfl (lv_at hl 0 rfl) ?_
    refine q_gr (T := TX11) C S.1 ga0 1 kF_X11_19 dX11_needHouse_6 rfl rfl (by decide) rfl (by decide) rfl (fun g2 => ?_)
    refine q_gi (T := TX5) C S.1 g2 3 kF_X11_247 dX11_needHouse_9 rfl rfl (by decide) rfl (by decide) rfl ?_
    have r3 : 0 ≤ (fI D s.heap 5 (fR D s.heap 10 a0 1) 3).toInt ∧ (fI D s.heap 5 (fR D s.heap 10 a0 1) 3).toInt ≤ 6 := S.1.rng g2 rfl (by decide) rfl
    have r5 := i_rng x1
    refine lv_icmp_lt (tgt := 26) hx hb dX11_needHouse_12 (by decide) (fun c4 => ?_) (fun c4 => ?_)
    · have b4 : x1.toInt < (fI D s.heap 5 (fR D s.heap 10 a0 1) 3).toInt := i_lt.mp c4
      exact retX_v hQ C S hr dX11_needHouse_26 (by decide) (by decide) (by omega)
    · have b4 : ¬ x1.toInt < (fI D s.heap 5 (fR D s.heap 10 a0 1) 3).toInt := fun z9 => c4 (i_lt.mpr z9)
      exact q_throwW hl0 hQ C ht S kL_X11_223 kI_IOB ks_X11_349 ka_X11_227 kf_IOB dX11_needHouse_15 dX11_needHouse_18 dX11_needHouse_19 dX11_needHouse_22 dX11_needHouse_25 hl.1 ⟨Nat.le_of_ble_eq_true rfl, Nat.le_of_ble_eq_true rfl, Nat.le_of_ble_eq_true rfl, Nat.le_of_ble_eq_true rfl⟩ (by decide) (by decide) (fun H1 g1 g2 => by simp)

set_option maxRecDepth 100000 in
set_option maxHeartbeats 4000000 in
theorem c_X11_needHearth (l : Launch) (D : DD) (G : Nat → Nat) (a0 : Nat) (x1 : Int32) (ga0 : G a0 = 1) : CX l D G yX11_needHearth cX11_needHearth 2 none 0 1 6 [.ref a0, .int x1] (fun _ => True) [] (xV (fun H H1 => 0 ≤ x1.toInt ∧ x1.toInt ≤ 11)) (fun H En H1 => En = "java/lang/IndexOutOfBoundsException") := by
  refine enterX (by decide) (Nat.le_of_ble_eq_true rfl) ?_
  intro hl0 p e s m args below meth c ls Q hA hQ ht C hr hO hpre hl
  have hx := C.1
  have hb := C.2.1
  have S : Sd D G [] s.heap s.heap [] := Sd.start hO
  have hl : lv_has ls 2 [(0, .ref a0), (1, .int x1)] := hl
  refine lv_iload_n hx hb dX11_needHearth_0 rfl (lv_at hl 1 rfl) ?_
  have k_0 : (0 : Int32).toInt = 0 := by decide
  refine lv_if_lt (tgt := 15) hx hb dX11_needHearth_1 (by decide) (fun c1 => ?_) (fun c1 => ?_)
  · have b1 : x1.toInt < (0 : Int32).toInt := i_lt.mp c1
    exact q_throwW hl0 hQ C ht S kL_X11_223 kI_IOB ks_X11_351 ka_X11_227 kf_IOB dX11_needHearth_15 dX11_needHearth_18 dX11_needHearth_19 dX11_needHearth_22 dX11_needHearth_25 hl.1 ⟨Nat.le_of_ble_eq_true rfl, Nat.le_of_ble_eq_true rfl, Nat.le_of_ble_eq_true rfl, Nat.le_of_ble_eq_true rfl⟩ (by decide) (by decide) (fun H1 g1 g2 => by simp)
  · have b1 : ¬ x1.toInt < (0 : Int32).toInt := fun z9 => c1 (i_lt.mpr z9)
    refine lv_iload_n hx hb dX11_needHearth_4 rfl (lv_at hl 1 rfl) ?_
    refine lv_aload_n hx hb dX11_needHearth_5 rfl (lv_at hl 0 rfl) ?_
    refine q_gr (T := TX11) C S.1 ga0 1 kF_X11_19 dX11_needHearth_6 rfl rfl (by decide) rfl (by decide) rfl (fun g2 => ?_)
    refine q_gi (T := TX5) C S.1 g2 4 kF_X11_283 dX11_needHearth_9 rfl rfl (by decide) rfl (by decide) rfl ?_
    have r3 : 0 ≤ (fI D s.heap 5 (fR D s.heap 10 a0 1) 4).toInt ∧ (fI D s.heap 5 (fR D s.heap 10 a0 1) 4).toInt ≤ 12 := S.1.rng g2 rfl (by decide) rfl
    have r5 := i_rng x1
    refine lv_icmp_lt (tgt := 26) hx hb dX11_needHearth_12 (by decide) (fun c4 => ?_) (fun c4 => ?_)
    · have b4 : x1.toInt < (fI D s.heap 5 (fR D s.heap 10 a0 1) 4).toInt := i_lt.mp c4
      exact retX_v hQ C S hr dX11_needHearth_26 (by decide) (by decide) (by omega)
    · have b4 : ¬ x1.toInt < (fI D s.heap 5 (fR D s.heap 10 a0 1) 4).toInt := fun z9 => c4 (i_lt.mpr z9)
      exact q_throwW hl0 hQ C ht S kL_X11_223 kI_IOB ks_X11_351 ka_X11_227 kf_IOB dX11_needHearth_15 dX11_needHearth_18 dX11_needHearth_19 dX11_needHearth_22 dX11_needHearth_25 hl.1 ⟨Nat.le_of_ble_eq_true rfl, Nat.le_of_ble_eq_true rfl, Nat.le_of_ble_eq_true rfl, Nat.le_of_ble_eq_true rfl⟩ (by decide) (by decide) (fun H1 g1 g2 => by simp)

set_option maxRecDepth 100000 in
set_option maxHeartbeats 4000000 in
theorem c_X11_needNumber (l : Launch) (D : DD) (G : Nat → Nat) (a0 : Nat) (x1 : Int32) (x2 : Int32) (x3 : Int32) (ga0 : G a0 = 1) : CX l D G yX11_needNumber cX11_needNumber 4 none 0 1 6 [.ref a0, .int x1, .int x2, .int x3] (fun _ => True) [] (xV (fun H H1 => x2.toInt ≤ x1.toInt ∧ x1.toInt ≤ x3.toInt)) (fun H En H1 => En = "java/lang/IllegalArgumentException") := by
  refine enterX (by decide) (Nat.le_of_ble_eq_true rfl) ?_
  intro hl0 p e s m args below meth c ls Q hA hQ ht C hr hO hpre hl
  have hx := C.1
  have hb := C.2.1
  have S : Sd D G [] s.heap s.heap [] := Sd.start hO
  have hl : lv_has ls 4 [(0, .ref a0), (1, .int x1), (2, .int x2), (3, .int x3)] := hl
  refine lv_iload_n hx hb dX11_needNumber_0 rfl (lv_at hl 1 rfl) ?_
  refine lv_iload_n hx hb dX11_needNumber_1 rfl (lv_at hl 2 rfl) ?_
  refine lv_icmp_lt (tgt := 10) hx hb dX11_needNumber_2 (by decide) (fun c1 => ?_) (fun c1 => ?_)
  · have b1 : x1.toInt < x2.toInt := i_lt.mp c1
    exact q_throwW hl0 hQ C ht S kL_X11_88 kI_IAE ks_X11_353 ka_X11_92 kf_IAE dX11_needNumber_10 dX11_needNumber_13 dX11_needNumber_14 dX11_needNumber_17 dX11_needNumber_20 hl.1 ⟨Nat.le_of_ble_eq_true rfl, Nat.le_of_ble_eq_true rfl, Nat.le_of_ble_eq_true rfl, Nat.le_of_ble_eq_true rfl⟩ (by decide) (by decide) (fun H1 g1 g2 => by simp)
  · have b1 : ¬ x1.toInt < x2.toInt := fun z9 => c1 (i_lt.mpr z9)
    refine lv_iload_n hx hb dX11_needNumber_5 rfl (lv_at hl 1 rfl) ?_
    refine lv_iload_n hx hb dX11_needNumber_6 rfl (lv_at hl 3 rfl) ?_
    refine lv_icmp_le (tgt := 21) hx hb dX11_needNumber_7 (by decide) (fun c2 => ?_) (fun c2 => ?_)
    · have b2 : x1.toInt ≤ x3.toInt := i_le.mp c2
      exact retX_v hQ C S hr dX11_needNumber_21 (by decide) (by decide) (by omega)
    · have b2 : ¬ x1.toInt ≤ x3.toInt := fun z9 => c2 (i_le.mpr z9)
      exact q_throwW hl0 hQ C ht S kL_X11_88 kI_IAE ks_X11_353 ka_X11_92 kf_IAE dX11_needNumber_10 dX11_needNumber_13 dX11_needNumber_14 dX11_needNumber_17 dX11_needNumber_20 hl.1 ⟨Nat.le_of_ble_eq_true rfl, Nat.le_of_ble_eq_true rfl, Nat.le_of_ble_eq_true rfl, Nat.le_of_ble_eq_true rfl⟩ (by decide) (by decide) (fun H1 g1 g2 => by simp)
