set_option maxRecDepth 100000 in
set_option maxHeartbeats 4000000 in
theorem c_X11_needHouse_o (l : Launch) (D : DD) (G : Nat → Nat) (a0 : Nat) (x1 : Int32) (ga0 : G a0 = 1) : CX l D G yX11_needHouse cX11_needHouse 2 none 0 1 6 [.ref a0, .int x1] (fun _ => True) [] (xV (fun H H1 => (0 ≤ x1.toInt ∧ x1.toInt ≤ 5) ∧ x1.toInt < (fI D H 5 (fR D H 10 a0 1) 3).toInt)) (fun H En H1 => (En = "java/lang/IndexOutOfBoundsException") ∧ (x1.toInt < 0 ∨ (fI D H 5 (fR D H 10 a0 1) 3).toInt ≤ x1.toInt)) := by
  refine enterX (by decide) (Nat.le_of_ble_eq_true rfl) ?_
  intro hl0 p e s m args below meth c ls Q hA hQ ht C hr hO hpre hl
  have hx := C.1
  have hb := C.2.1
  have S : Sd D G [] s.heap s.heap [] := Sd.start hO
  have hl : lv_has ls 2 [(0, .ref a0), (1, .int x1)] := hl
  refine lv_iload_n hx hb dX11_needHouse_0 rfl (lv_at hl 1 rfl) ?_
  have k_0 : (0 : Int32).toInt = 0 := by decide
  refine lv_if_lt (tgt := 15) hx hb dX11_needHouse_1 (by decide) (fun c1 => ?_) (fun c1 => ?_)
  · have b1 : x1.toInt < (0 : Int32).toInt := i_lt.mp c1
    exact q_throwW hl0 hQ C ht S kL_X11_223 kI_IOB ks_X11_349 ka_X11_227 kf_IOB dX11_needHouse_15 dX11_needHouse_18 dX11_needHouse_19 dX11_needHouse_22 dX11_needHouse_25 hl.1 ⟨Nat.le_of_ble_eq_true rfl, Nat.le_of_ble_eq_true rfl, Nat.le_of_ble_eq_true rfl, Nat.le_of_ble_eq_true rfl⟩ (by decide) (by decide) (fun H1 g1 g2 => ⟨by simp, by omega⟩)
  · have b1 : ¬ x1.toInt < (0 : Int32).toInt := fun z9 => c1 (i_lt.mpr z9)
    refine lv_iload_n hx hb dX11_needHouse_4 rfl (lv_at hl 1 rfl) ?_
    refine lv_aload_n hx hb dX11_needHouse_5 rfl (lv_at hl 0 rfl) ?_
    refine q_gr (T := TX11) C S.1 ga0 1 kF_X11_19 dX11_needHouse_6 rfl rfl (by decide) rfl (by decide) rfl (fun g2 => ?_)
    refine q_gi (T := TX5) C S.1 g2 3 kF_X11_247 dX11_needHouse_9 rfl rfl (by decide) rfl (by decide) rfl ?_
    have r3 : 0 ≤ (fI D s.heap 5 (fR D s.heap 10 a0 1) 3).toInt ∧ (fI D s.heap 5 (fR D s.heap 10 a0 1) 3).toInt ≤ 6 := S.1.rng g2 rfl (by decide) rfl
    have r5 := i_rng x1
    refine lv_icmp_lt (tgt := 26) hx hb dX11_needHouse_12 (by decide) (fun c4 => ?_) (fun c4 => ?_)
    · have b4 : x1.toInt < (fI D s.heap 5 (fR D s.heap 10 a0 1) 3).toInt := i_lt.mp c4
      exact retX_v hQ C S hr dX11_needHouse_26 (by decide) (by decide) (by omega)
    · have b4 : ¬ x1.toInt < (fI D s.heap 5 (fR D s.heap 10 a0 1) 3).toInt := fun z9 => c4 (i_lt.mpr z9)
      exact q_throwW hl0 hQ C ht S kL_X11_223 kI_IOB ks_X11_349 ka_X11_227 kf_IOB dX11_needHouse_15 dX11_needHouse_18 dX11_needHouse_19 dX11_needHouse_22 dX11_needHouse_25 hl.1 ⟨Nat.le_of_ble_eq_true rfl, Nat.le_of_ble_eq_true rfl, Nat.le_of_ble_eq_true rfl, Nat.le_of_ble_eq_true rfl⟩ (by decide) (by decide) (fun H1 g1 g2 => ⟨by simp, by omega⟩)

set_option maxRecDepth 100000 in
set_option maxHeartbeats 4000000 in
theorem c_X11_odds_o (l : Launch) (D : DD) (G : Nat → Nat) (a0 : Nat) (x1 : Int32) (ga0 : G a0 = 1) : CX l D G yX11_odds cX11_odds 2 (some .int) 1 1 6 [.ref a0, .int x1] (fun _ => True) [] (xI (fun H r H1 => (0 ≤ x1.toInt ∧ x1.toInt < (fI D H 5 (fR D H 10 a0 1) 3).toInt) ∧ r = fI D H 5 (fR D H 10 a0 1) 8 * 100 + (100 - fI D H 5 (fR D H 10 a0 1) 8) * fI D H 2 (hoA D H (fR D H 10 a0 1) x1.toInt.toNat) 4)) (fun H En H1 => (En = "java/lang/IndexOutOfBoundsException") ∧ (x1.toInt < 0 ∨ (fI D H 5 (fR D H 10 a0 1) 3).toInt ≤ x1.toInt)) := by
  refine enterX (by decide) (Nat.le_of_ble_eq_true rfl) ?_
  intro hl0 p e s m args below meth c ls Q hA hQ ht C hr hO hpre hl
  have hx := C.1
  have hb := C.2.1
  have S : Sd D G [] s.heap s.heap [] := Sd.start hO
  have hl : lv_has ls 2 [(0, .ref a0), (1, .int x1)] := hl
  refine lv_aload_n hx hb dX11_odds_0 rfl (lv_at hl 0 rfl) ?_
  refine lv_iload_n hx hb dX11_odds_1 rfl (lv_at hl 1 rfl) ?_
  refine callV_Xv hl0 C S (c_X11_needHouse_o l D G a0 x1 ga0) kV_X11_125 ga0 (trivial) (by decide +kernel) dX11_odds_2 hl.1 rfl rfl (by decide) cd_X11_needHouse ⟨Nat.le_of_ble_eq_true rfl, Nat.le_of_ble_eq_true rfl, Nat.le_of_ble_eq_true rfl, Nat.le_of_ble_eq_true rfl, Nat.le_of_ble_eq_true rfl⟩ (fun H1 L1 S1 K1 q1 => ?_) (fun En H1 L1 q9 ce S1 K1 X1 h7 h8 h9 => outX hQ C ht S1 h7 h8 h9 (by decide) (by decide) (X1))
  have qh := q1
  have gn : G (fR D s.heap 10 a0 1) = 4 := hO.rol ga0 rfl (by decide) rfl
  have e1 : fR D H1 10 a0 1 = (fR D s.heap 10 a0 1) := S1.2.1.fR ga0 rfl (by decide) (by decide)
  have e2 : fI D H1 5 (fR D s.heap 10 a0 1) 8 = fI D s.heap 5 (fR D s.heap 10 a0 1) 8 := S1.2.1.fI gn rfl (by decide) (by decide)
  have e3 : eR H1 (fR D H1 5 (fR D s.heap 10 a0 1) 0) x1.toInt.toNat = hoA D s.heap (fR D s.heap 10 a0 1) x1.toInt.toNat := ho_keep hO (Or.inl gn) S1.2.1 (by decide) _
  have e4 : fI D H1 2 (hoA D s.heap (fR D s.heap 10 a0 1) x1.toInt.toNat) 4 = fI D s.heap 2 (hoA D s.heap (fR D s.heap 10 a0 1) x1.toInt.toNat) 4 := S1.2.1.fI (ho_role hO (Or.inl gn) (by omega)) rfl (by decide) (by decide)
  refine lv_aload_n hx hb dX11_odds_5 rfl (lv_at hl 0 rfl) ?_
  refine q_gr (T := TX11) C S1.1 ga0 1 kF_X11_19 dX11_odds_6 rfl rfl (by decide) rfl (by decide) rfl (fun g2 => ?_)
  refine q_gi (T := TX5) C S1.1 g2 8 kF_X11_289 dX11_odds_9 rfl rfl (by decide) rfl (by decide) rfl ?_
  refine lv_bipush (v := 100) hx hb dX11_odds_12 (by decide) ?_
  have k_100 : (100 : Int32).toInt = 100 := by decide
  refine lv_imul hx hb dX11_odds_14 ?_
  refine lv_topi (fun v3 ev3 => ?_)
  refine lv_bipush (v := 100) hx hb dX11_odds_15 (by decide) ?_
  refine lv_aload_n hx hb dX11_odds_17 rfl (lv_at hl 0 rfl) ?_
  refine q_gr (T := TX11) C S1.1 ga0 1 kF_X11_19 dX11_odds_18 rfl rfl (by decide) rfl (by decide) rfl (fun g4 => ?_)
  refine q_gi (T := TX5) C S1.1 g4 8 kF_X11_289 dX11_odds_21 rfl rfl (by decide) rfl (by decide) rfl ?_
  refine lv_isub hx hb dX11_odds_24 ?_
  refine lv_topi (fun v5 ev5 => ?_)
  refine lv_aload_n hx hb dX11_odds_25 rfl (lv_at hl 0 rfl) ?_
  refine q_gr (T := TX11) C S1.1 ga0 1 kF_X11_19 dX11_odds_26 rfl rfl (by decide) rfl (by decide) rfl (fun g6 => ?_)
  refine q_gr (T := TX5) C S1.1 g6 0 kF_X11_128 dX11_odds_29 rfl rfl (by decide) rfl (by decide) rfl (fun g7 => ?_)
  refine lv_iload_n hx hb dX11_odds_32 rfl (lv_at hl 1 rfl) ?_
  refine q_aald C S1.1 g7 (by omega) (by omega) dX11_odds_33 rfl (by decide) rfl rfl (fun g8 => ?_)
  refine q_gi (T := TX2) C S1.1 g8 4 kF_X11_146 dX11_odds_34 rfl rfl (by decide) rfl (by decide) rfl ?_
  refine lv_imul hx hb dX11_odds_37 ?_
  refine lv_topi (fun v9 ev9 => ?_)
  refine lv_iadd hx hb dX11_odds_38 ?_
  refine lv_topi (fun v10 ev10 => ?_)
  exact retX_i hQ C S1 hr dX11_odds_39 (by decide) (by decide) (⟨⟨by omega, by omega⟩, by subst_vars; rw [e1, e2, e3, e4]⟩)

set_option maxRecDepth 100000 in
set_option maxHeartbeats 4000000 in
theorem c_X12_noHouse_o (l : Launch) (D : DD) (G : Nat → Nat) (a0 : Nat) (x1 : Int32) (ga0 : G a0 = 30) : CP l D G yX12_noHouse cX12_noHouse 2 (some .boolean) 1 [.ref a0, .int x1] (fun _ => True) (pI (fun H r => (r.toInt = 0 ∧ 0 ≤ x1.toInt ∧ x1.toInt ≤ 5 ∧ x1.toInt < (eI H (fR D H 11 a0 1) 0).toInt) ∨ (r.toInt = 1 ∧ (x1.toInt < 0 ∨ (eI H (fR D H 11 a0 1) 0).toInt ≤ x1.toInt)))) := by
  refine enter (by decide) (Nat.le_of_ble_eq_true rfl) ?_
  intro p e s m args below meth c ls Q hA hQ C hr hO hpre hl
  have hx := C.1
  have hb := C.2.1
  have hl : lv_has ls 2 [(0, .ref a0), (1, .int x1)] := hl
  refine lv_iload_n hx hb dX12_noHouse_0 rfl (lv_at hl 1 rfl) ?_
  refine lv_iconst (v := 0) hx hb dX12_noHouse_1 (by decide) ?_
  refine lv_aload_n hx hb dX12_noHouse_2 rfl (lv_at hl 0 rfl) ?_
  refine callV_Pi C hO (fun _ _ _ => rfl) (c_X12_houses_v l D G a0 ga0) kV_X12_59 ga0 (trivial) dX12_noHouse_3 hl.1 rfl rfl (by decide) cd_X12_houses ⟨Nat.le_of_ble_eq_true rfl, Nat.le_of_ble_eq_true rfl, Nat.le_of_ble_eq_true rfl, Nat.le_of_ble_eq_true rfl, Nat.le_of_ble_eq_true rfl⟩ (fun v1 q1 => ?_)
  refine lv_iconst (v := 1) hx hb dX12_noHouse_6 (by decide) ?_
  have k_1 : (1 : Int32).toInt = 1 := by decide
  refine lv_isub hx hb dX12_noHouse_7 ?_
  refine lv_topi (fun v2 ev2 => ?_)
  have f3 : v2.toInt = v1.toInt - (1 : Int32).toInt := by rw [ev2]; exact i_sub (by omega) (by omega)
  have k_0 : (0 : Int32).toInt = 0 := by decide
  refine callS_Pi C hO (fun _ _ _ => rfl) (c_X12_in l D G x1 (0 : Int32) v2) kS_X12_63 (trivial) dX12_noHouse_8 hl.1 cd_X12_in ⟨Nat.le_of_ble_eq_true rfl, Nat.le_of_ble_eq_true rfl, Nat.le_of_ble_eq_true rfl, Nat.le_of_ble_eq_true rfl, Nat.le_of_ble_eq_true rfl⟩ (fun v4 q4 => ?_)
  rcases q4 with q4 | q4
  · skip
    refine lv_if_ne (tgt := 18) hx hb dX12_noHouse_11 (by decide) (fun c5 => ?_) (fun c5 => ?_)
    · have b5 : ¬ v4.toInt = (0 : Int32).toInt := fun z9 => c5 (i_eq.mpr z9)
      refine lv_iconst (v := 0) hx hb dX12_noHouse_18 (by decide) ?_
      exact retP_z hQ C hr dX12_noHouse_19 (z01 (by omega) (by omega)) (by omega)
    · have b5 : v4.toInt = (0 : Int32).toInt := i_eq.mp c5
      exact absurd b5 (by omega)
  · skip
    refine lv_if_ne (tgt := 18) hx hb dX12_noHouse_11 (by decide) (fun c6 => ?_) (fun c6 => ?_)
    · have b6 : ¬ v4.toInt = (0 : Int32).toInt := fun z9 => c6 (i_eq.mpr z9)
      exact absurd b6 (by omega)
    · have b6 : v4.toInt = (0 : Int32).toInt := i_eq.mp c6
      refine lv_iconst (v := 1) hx hb dX12_noHouse_14 (by decide) ?_
      refine lv_goto (tgt := 19) hx hb dX12_noHouse_15 (by decide) ?_
      exact retP_z hQ C hr dX12_noHouse_19 (z01 (by omega) (by omega)) (by omega)

set_option maxRecDepth 100000 in
set_option maxHeartbeats 4000000 in
theorem c_X12_of_o (l : Launch) (D : DD) (G : Nat → Nat) (a0 : Nat) (x1 : Int32) (x2 : Int32) (ga0 : G a0 = 30) (ix1 : 0 ≤ x1.toInt ∧ x1.toInt ≤ 5) (ix2 : 0 ≤ x2.toInt ∧ x2.toInt ≤ 4) : CP l D G yX12_of cX12_of 3 (some .int) 1 [.ref a0, .int x1, .int x2] (fun _ => True) (pI (fun H r => r = eI H (fR D H 11 a0 1) (12 + 5 * x1.toInt.toNat + x2.toInt.toNat))) := by
  refine enter (by decide) (Nat.le_of_ble_eq_true rfl) ?_
  intro p e s m args below meth c ls Q hA hQ C hr hO hpre hl
  have hx := C.1
  have hb := C.2.1
  have hl : lv_has ls 3 [(0, .ref a0), (1, .int x1), (2, .int x2)] := hl
  refine lv_aload_n hx hb dX12_of_0 rfl (lv_at hl 0 rfl) ?_
  refine q_gr (T := TX12) C hO ga0 1 kF_X12_13 dX12_of_1 rfl rfl (by decide) rfl (by decide) rfl (fun g1 => ?_)
  refine lv_iload_n hx hb dX12_of_4 rfl (lv_at hl 1 rfl) ?_
  refine lv_iload_n hx hb dX12_of_5 rfl (lv_at hl 2 rfl) ?_
  refine callS_Pi C hO (fun _ _ _ => rfl) (c_X12_houseAt l D G x1 x2 (by omega) (by omega)) kS_X12_49 (trivial) dX12_of_6 hl.1 cd_X12_houseAt ⟨Nat.le_of_ble_eq_true rfl, Nat.le_of_ble_eq_true rfl, Nat.le_of_ble_eq_true rfl, Nat.le_of_ble_eq_true rfl, Nat.le_of_ble_eq_true rfl⟩ (fun v2 q2 => ?_)
  have n3 : aN s.heap (fR D s.heap 11 a0 1) = 2052 := len_31 hO g1
  refine q_iald C hO g1 (by omega) (by omega) dX12_of_9 rfl (by decide) ?_
  refine lv_topi (fun v4 ev4 => ?_)
  have yv4 : v4 = eI s.heap (fR D s.heap 11 a0 1) (12 + 5 * x1.toInt.toNat + x2.toInt.toNat) := by rw [ev4, show v2.toInt.toNat = 12 + 5 * x1.toInt.toNat + x2.toInt.toNat by omega]
  exact retP_i hQ C hr dX12_of_10 (yv4)

set_option maxRecDepth 100000 in
set_option maxHeartbeats 4000000 in
theorem c_X12_odds_o (l : Launch) (D : DD) (G : Nat → Nat) (a0 : Nat) (x1 : Int32) (ga0 : G a0 = 30) : CE l D G yX12_odds cX12_odds 2 (some .int) 2 [.ref a0, .int x1] (fun _ => True) [(30, 0)] (xI (fun H r H1 => ((fI D H1 11 a0 0).toInt = 0 ∧ 0 ≤ x1.toInt ∧ x1.toInt < (eI H (fR D H 11 a0 1) 0).toInt ∧ r = 100 * eI H (fR D H 11 a0 1) 7 + (100 - eI H (fR D H 11 a0 1) 7) * eI H (fR D H 11 a0 1) (12 + 5 * x1.toInt.toNat + 4)) ∨ ((fI D H1 11 a0 0).toInt = 1 ∧ (x1.toInt < 0 ∨ (eI H (fR D H 11 a0 1) 0).toInt ≤ x1.toInt)))) := by
  refine enter (by decide) (Nat.le_of_ble_eq_true rfl) ?_
  intro p e s m args below meth c ls Q hA hQ C hr hO hpre hl
  have hx := C.1
  have hb := C.2.1
  have S : Sd D G [(30, 0)] s.heap s.heap [] := Sd.start hO
  have hl : lv_has ls 2 [(0, .ref a0), (1, .int x1)] := hl
  have w0s : (eI s.heap (fR D s.heap 11 a0 1) 0).toInt = (eI s.heap (fR D s.heap 11 a0 1) 0).toInt := rfl
  refine lv_aload_n hx hb dX12_odds_0 rfl (lv_at hl 0 rfl) ?_
  refine lv_iconst (v := 0) hx hb dX12_odds_1 (by decide) ?_
  have k_0 : (0 : Int32).toInt = 0 := by decide
  refine q_put (T := TX12) C S ga0 0 kF_X12_3 dX12_odds_2 rfl rfl (by decide) (by decide) rfl rfl rfl rfl rfl (vok_a rfl) (by decide +kernel) (fun H1 L1 S1 P1 => ?_)
  have y1_0 : (fI D H1 11 a0 0).toInt = (0 : Int32).toInt := congrArg Int32.toInt (Pt.i P1)
  refine lv_aload_n hx hb dX12_odds_5 rfl (lv_at hl 0 rfl) ?_
  refine lv_aload_n hx hb dX12_odds_6 rfl (lv_at hl 0 rfl) ?_
  refine lv_iload_n hx hb dX12_odds_7 rfl (lv_at hl 1 rfl) ?_
  have w0 := eK hO ga0 S1.2.1 (by decide +kernel) (by decide +kernel) 0
  have w0 : (eI H1 (fR D H1 11 a0 1) 0).toInt = (eI s.heap (fR D s.heap 11 a0 1) 0).toInt := congrArg Int32.toInt w0
  refine callV_Pi C S1.1 S1.2.1.2.1 (c_X12_noHouse_o l D G a0 x1 ga0) kV_X12_299 ga0 (trivial) dX12_odds_8 hl.1 rfl rfl (by decide) cd_X12_noHouse ⟨Nat.le_of_ble_eq_true rfl, Nat.le_of_ble_eq_true rfl, Nat.le_of_ble_eq_true rfl, Nat.le_of_ble_eq_true rfl, Nat.le_of_ble_eq_true rfl⟩ (fun v2 q2 => ?_)
  rcases q2 with q2 | q2
  · skip
    refine lv_iconst (v := 1) hx hb dX12_odds_11 (by decide) ?_
    have k_1 : (1 : Int32).toInt = 1 := by decide
    refine callV_Ei C S1 (c_X12_throwsIf_f l D G a0 v2 (1 : Int32) ga0 (by omega)) kV_X12_246 ga0 (trivial) (by decide +kernel) dX12_odds_12 hl.1 rfl rfl (by decide) cd_X12_throwsIf ⟨Nat.le_of_ble_eq_true rfl, Nat.le_of_ble_eq_true rfl, Nat.le_of_ble_eq_true rfl, Nat.le_of_ble_eq_true rfl, Nat.le_of_ble_eq_true rfl⟩ (fun v3 H3 L3 S3 K3 q3 => ?_)
    refine lv_if_eq (tgt := 22) hx hb dX12_odds_15 (by decide) (fun c4 => ?_) (fun c4 => ?_)
    · have b4 : v3.toInt = (0 : Int32).toInt := i_eq.mp c4
      have w4 : ∀ j : Nat, eI H3 (fR D H3 11 a0 1) j = eI s.heap (fR D s.heap 11 a0 1) j := fun j => eK hO ga0 S3.2.1 (by decide +kernel) (by decide +kernel) j
      refine lv_bipush (v := 100) hx hb dX12_odds_22 (by decide) ?_
      refine lv_aload_n hx hb dX12_odds_24 rfl (lv_at hl 0 rfl) ?_
      refine q_gr (T := TX12) C S3.1 ga0 1 kF_X12_13 dX12_odds_25 rfl rfl (by decide) rfl (by decide) rfl (fun g5 => ?_)
      refine lv_bipush (v := 7) hx hb dX12_odds_28 (by decide) ?_
      have n6 : aN H3 (fR D H3 11 a0 1) = 2052 := len_31 S3.1 g5
      have k_7 : (7 : Int32).toInt = 7 := by decide
      refine q_iald C S3.1 g5 (by omega) (by omega) dX12_odds_30 rfl (by decide) ?_
      refine lv_topi (fun v7 ev7 => ?_)
      have k_100 : (100 : Int32).toInt = 100 := by decide
      refine lv_imul hx hb dX12_odds_31 ?_
      refine lv_topi (fun v8 ev8 => ?_)
      refine lv_bipush (v := 100) hx hb dX12_odds_32 (by decide) ?_
      refine lv_aload_n hx hb dX12_odds_34 rfl (lv_at hl 0 rfl) ?_
      refine q_gr (T := TX12) C S3.1 ga0 1 kF_X12_13 dX12_odds_35 rfl rfl (by decide) rfl (by decide) rfl (fun g9 => ?_)
      refine lv_bipush (v := 7) hx hb dX12_odds_38 (by decide) ?_
      refine q_iald C S3.1 g9 (by omega) (by omega) dX12_odds_40 rfl (by decide) ?_
      refine lv_topi (fun v10 ev10 => ?_)
      refine lv_isub hx hb dX12_odds_41 ?_
      refine lv_topi (fun v11 ev11 => ?_)
      refine lv_aload_n hx hb dX12_odds_42 rfl (lv_at hl 0 rfl) ?_
      refine lv_iload_n hx hb dX12_odds_43 rfl (lv_at hl 1 rfl) ?_
      refine lv_iconst (v := 4) hx hb dX12_odds_44 (by decide) ?_
      have k_4 : (4 : Int32).toInt = 4 := by decide
      refine callV_Pi C S3.1 S3.2.1.2.1 (c_X12_of_o l D G a0 x1 (4 : Int32) ga0 (by omega) (by omega)) kV_X12_255 ga0 (trivial) dX12_odds_45 hl.1 rfl rfl (by decide) cd_X12_of ⟨Nat.le_of_ble_eq_true rfl, Nat.le_of_ble_eq_true rfl, Nat.le_of_ble_eq_true rfl, Nat.le_of_ble_eq_true rfl, Nat.le_of_ble_eq_true rfl⟩ (fun v12 q12 => ?_)
      refine lv_imul hx hb dX12_odds_48 ?_
      refine lv_topi (fun v13 ev13 => ?_)
      refine lv_iadd hx hb dX12_odds_49 ?_
      refine lv_topi (fun v14 ev14 => ?_)
      exact retE_i hQ C S3 hr dX12_odds_50 (Or.inl ⟨by omega, by omega, by omega, by subst_vars; simp only [w4]; rfl⟩)
    · have b4 : ¬ v3.toInt = (0 : Int32).toInt := fun z9 => c4 (i_eq.mpr z9)
      exact absurd b4 (by omega)
  · skip
    refine lv_iconst (v := 1) hx hb dX12_odds_11 (by decide) ?_
    have k_1 : (1 : Int32).toInt = 1 := by decide
    refine callV_Ei C S1 (c_X12_throwsIf_f l D G a0 v2 (1 : Int32) ga0 (by omega)) kV_X12_246 ga0 (trivial) (by decide +kernel) dX12_odds_12 hl.1 rfl rfl (by decide) cd_X12_throwsIf ⟨Nat.le_of_ble_eq_true rfl, Nat.le_of_ble_eq_true rfl, Nat.le_of_ble_eq_true rfl, Nat.le_of_ble_eq_true rfl, Nat.le_of_ble_eq_true rfl⟩ (fun v15 H15 L15 S15 K15 q15 => ?_)
    refine lv_if_eq (tgt := 22) hx hb dX12_odds_15 (by decide) (fun c16 => ?_) (fun c16 => ?_)
    · have b16 : v15.toInt = (0 : Int32).toInt := i_eq.mp c16
      exact absurd b16 (by omega)
    · have b16 : ¬ v15.toInt = (0 : Int32).toInt := fun z9 => c16 (i_eq.mpr z9)
      refine lv_iconst (v := 0) hx hb dX12_odds_18 (by decide) ?_
      refine lv_goto (tgt := 50) hx hb dX12_odds_19 (by decide) ?_
      exact retE_i hQ C S15 hr dX12_odds_50 (Or.inr ⟨by omega, by omega⟩)
