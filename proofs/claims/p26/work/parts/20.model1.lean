set_option maxRecDepth 100000 in
set_option maxHeartbeats 4000000 in
theorem c_X12_in (l : Launch) (D : DD) (G : Nat → Nat) (x0 : Int32) (x1 : Int32) (x2 : Int32) : CP l D G yX12_in cX12_in 3 (some .boolean) 0 [.int x0, .int x1, .int x2] (fun _ => True) (pI (fun H r => (r.toInt = 1 ∧ x1.toInt ≤ x0.toInt ∧ x0.toInt ≤ x2.toInt) ∨ (r.toInt = 0 ∧ (x0.toInt < x1.toInt ∨ x2.toInt < x0.toInt)))) := by
  refine enter (by decide) (Nat.le_of_ble_eq_true rfl) ?_
  intro p e s m args below meth c ls Q hA hQ C hr hO hpre hl
  have hx := C.1
  have hb := C.2.1
  have hl : lv_has ls 3 [(0, .int x0), (1, .int x1), (2, .int x2)] := hl
  refine lv_iload_n hx hb dX12_in_0 rfl (lv_at hl 0 rfl) ?_
  refine lv_iload_n hx hb dX12_in_1 rfl (lv_at hl 1 rfl) ?_
  refine lv_icmp_lt (tgt := 14) hx hb dX12_in_2 (by decide) (fun c1 => ?_) (fun c1 => ?_)
  · have b1 : x0.toInt < x1.toInt := i_lt.mp c1
    refine lv_iconst (v := 0) hx hb dX12_in_14 (by decide) ?_
    have k_0 : (0 : Int32).toInt = 0 := by decide
    exact retP_z hQ C hr dX12_in_15 (z01 (by omega) (by omega)) (by omega)
  · have b1 : ¬ x0.toInt < x1.toInt := fun z9 => c1 (i_lt.mpr z9)
    refine lv_iload_n hx hb dX12_in_5 rfl (lv_at hl 0 rfl) ?_
    refine lv_iload_n hx hb dX12_in_6 rfl (lv_at hl 2 rfl) ?_
    refine lv_icmp_gt (tgt := 14) hx hb dX12_in_7 (by decide) (fun c2 => ?_) (fun c2 => ?_)
    · have b2 : x2.toInt < x0.toInt := i_lt.mp c2
      refine lv_iconst (v := 0) hx hb dX12_in_14 (by decide) ?_
      have k_0 : (0 : Int32).toInt = 0 := by decide
      exact retP_z hQ C hr dX12_in_15 (z01 (by omega) (by omega)) (by omega)
    · have b2 : ¬ x2.toInt < x0.toInt := fun z9 => c2 (i_lt.mpr z9)
      refine lv_iconst (v := 1) hx hb dX12_in_10 (by decide) ?_
      refine lv_goto (tgt := 15) hx hb dX12_in_11 (by decide) ?_
      have k_1 : (1 : Int32).toInt = 1 := by decide
      exact retP_z hQ C hr dX12_in_15 (z01 (by omega) (by omega)) (by omega)

set_option maxRecDepth 100000 in
set_option maxHeartbeats 4000000 in
theorem c_X12_has (l : Launch) (D : DD) (G : Nat → Nat) (x0 : Int32) (x1 : Int32) : CP l D G yX12_has cX12_has 2 (some .boolean) 0 [.int x0, .int x1] (fun _ => True) (pI (fun H r => 0 ≤ r.toInt ∧ r.toInt ≤ 1)) := by
  refine enter (by decide) (Nat.le_of_ble_eq_true rfl) ?_
  intro p e s m args below meth c ls Q hA hQ C hr hO hpre hl
  have hx := C.1
  have hb := C.2.1
  have hl : lv_has ls 2 [(0, .int x0), (1, .int x1)] := hl
  refine lv_iload_n hx hb dX12_has_0 rfl (lv_at hl 0 rfl) ?_
  refine lv_iload_n hx hb dX12_has_1 rfl (lv_at hl 1 rfl) ?_
  refine lv_ishr hx hb dX12_has_2 ?_
  refine lv_topi (fun v1 ev1 => ?_)
  refine lv_iconst (v := 1) hx hb dX12_has_3 (by decide) ?_
  have k_1 : (1 : Int32).toInt = 1 := by decide
  refine lv_iand hx hb dX12_has_4 ?_
  have r2 := i_rng v1
  refine lv_topi (fun v3 ev3 => ?_)
  have f4 : 0 ≤ v3.toInt ∧ v3.toInt ≤ (1 : Int32).toInt := by rw [ev3]; exact i_and (by omega)
  refine lv_iconst (v := 1) hx hb dX12_has_5 (by decide) ?_
  refine lv_icmp_ne (tgt := 13) hx hb dX12_has_6 (by decide) (fun c5 => ?_) (fun c5 => ?_)
  · have b5 : ¬ v3.toInt = (1 : Int32).toInt := fun z9 => c5 (i_eq.mpr z9)
    refine lv_iconst (v := 0) hx hb dX12_has_13 (by decide) ?_
    have k_0 : (0 : Int32).toInt = 0 := by decide
    exact retP_z hQ C hr dX12_has_14 (z01 (by omega) (by omega)) (by omega)
  · have b5 : v3.toInt = (1 : Int32).toInt := i_eq.mp c5
    refine lv_iconst (v := 1) hx hb dX12_has_9 (by decide) ?_
    refine lv_goto (tgt := 14) hx hb dX12_has_10 (by decide) ?_
    exact retP_z hQ C hr dX12_has_14 (z01 (by omega) (by omega)) (by omega)

set_option maxRecDepth 100000 in
set_option maxHeartbeats 4000000 in
theorem c_X12_houses (l : Launch) (D : DD) (G : Nat → Nat) (a0 : Nat) (ga0 : G a0 = 30) : CP l D G yX12_houses cX12_houses 1 (some .int) 0 [.ref a0] (fun _ => True) (pI (fun H r => 0 ≤ r.toInt ∧ r.toInt ≤ 6)) := by
  refine enter (by decide) (Nat.le_of_ble_eq_true rfl) ?_
  intro p e s m args below meth c ls Q hA hQ C hr hO hpre hl
  have hx := C.1
  have hb := C.2.1
  have hl : lv_has ls 1 [(0, .ref a0)] := hl
  refine lv_aload_n hx hb dX12_houses_0 rfl (lv_at hl 0 rfl) ?_
  refine q_gr (T := TX12) C hO ga0 1 kF_X12_13 dX12_houses_1 rfl rfl (by decide) rfl (by decide) rfl (fun g1 => ?_)
  refine lv_iconst (v := 0) hx hb dX12_houses_4 (by decide) ?_
  have n2 : aN s.heap (fR D s.heap 11 a0 1) = 2052 := len_31 hO g1
  have k_0 : (0 : Int32).toInt = 0 := by decide
  refine q_iald C hO g1 (by omega) (by omega) dX12_houses_5 rfl (by decide) ?_
  refine lv_topi (fun v3 ev3 => ?_)
  have wv3 : 0 ≤ v3.toInt ∧ v3.toInt ≤ 6 := by rw [ev3]; exact wl_0 hO g1
  exact retP_i hQ C hr dX12_houses_6 (by omega)

set_option maxRecDepth 100000 in
set_option maxHeartbeats 4000000 in
theorem c_X12_hearths (l : Launch) (D : DD) (G : Nat → Nat) (a0 : Nat) (ga0 : G a0 = 30) : CP l D G yX12_hearths cX12_hearths 1 (some .int) 0 [.ref a0] (fun _ => True) (pI (fun H r => 0 ≤ r.toInt ∧ r.toInt ≤ 12)) := by
  refine enter (by decide) (Nat.le_of_ble_eq_true rfl) ?_
  intro p e s m args below meth c ls Q hA hQ C hr hO hpre hl
  have hx := C.1
  have hb := C.2.1
  have hl : lv_has ls 1 [(0, .ref a0)] := hl
  refine lv_aload_n hx hb dX12_hearths_0 rfl (lv_at hl 0 rfl) ?_
  refine q_gr (T := TX12) C hO ga0 1 kF_X12_13 dX12_hearths_1 rfl rfl (by decide) rfl (by decide) rfl (fun g1 => ?_)
  refine lv_iconst (v := 1) hx hb dX12_hearths_4 (by decide) ?_
  have n2 : aN s.heap (fR D s.heap 11 a0 1) = 2052 := len_31 hO g1
  have k_1 : (1 : Int32).toInt = 1 := by decide
  refine q_iald C hO g1 (by omega) (by omega) dX12_hearths_5 rfl (by decide) ?_
  refine lv_topi (fun v3 ev3 => ?_)
  have wv3 : 0 ≤ v3.toInt ∧ v3.toInt ≤ 12 := by rw [ev3]; exact wl_1 hO g1
  exact retP_i hQ C hr dX12_hearths_6 (by omega)

set_option maxRecDepth 100000 in
set_option maxHeartbeats 4000000 in
theorem c_X12_houseAt (l : Launch) (D : DD) (G : Nat → Nat) (x0 : Int32) (x1 : Int32) (ix0 : 0 ≤ x0.toInt ∧ x0.toInt ≤ 5) (ix1 : 0 ≤ x1.toInt ∧ x1.toInt ≤ 4) : CP l D G yX12_houseAt cX12_houseAt 2 (some .int) 0 [.int x0, .int x1] (fun _ => True) (pI (fun H r => r.toInt = 12 + 5 * x0.toInt + x1.toInt)) := by
  refine enter (by decide) (Nat.le_of_ble_eq_true rfl) ?_
  intro p e s m args below meth c ls Q hA hQ C hr hO hpre hl
  have hx := C.1
  have hb := C.2.1
  have hl : lv_has ls 2 [(0, .int x0), (1, .int x1)] := hl
  refine lv_bipush (v := 12) hx hb dX12_houseAt_0 (by decide) ?_
  refine lv_iconst (v := 5) hx hb dX12_houseAt_2 (by decide) ?_
  refine lv_iload_n hx hb dX12_houseAt_3 rfl (lv_at hl 0 rfl) ?_
  have k_5 : (5 : Int32).toInt = 5 := by decide
  refine lv_imul hx hb dX12_houseAt_4 ?_
  refine lv_topi (fun v1 ev1 => ?_)
  have f2 : v1.toInt = (5) * x0.toInt := by rw [ev1]; exact i_cmul k_5 (by omega) (by omega)
  have k_12 : (12 : Int32).toInt = 12 := by decide
  refine lv_iadd hx hb dX12_houseAt_5 ?_
  refine lv_topi (fun v3 ev3 => ?_)
  have f4 : v3.toInt = (12 : Int32).toInt + v1.toInt := by rw [ev3]; exact i_add (by omega) (by omega)
  refine lv_iload_n hx hb dX12_houseAt_6 rfl (lv_at hl 1 rfl) ?_
  refine lv_iadd hx hb dX12_houseAt_7 ?_
  refine lv_topi (fun v5 ev5 => ?_)
  have f6 : v5.toInt = v3.toInt + x1.toInt := by rw [ev5]; exact i_add (by omega) (by omega)
  exact retP_i hQ C hr dX12_houseAt_8 (by omega)

set_option maxRecDepth 100000 in
set_option maxHeartbeats 4000000 in
theorem c_X12_of (l : Launch) (D : DD) (G : Nat → Nat) (a0 : Nat) (x1 : Int32) (x2 : Int32) (ga0 : G a0 = 30) (ix1 : 0 ≤ x1.toInt ∧ x1.toInt ≤ 5) (ix2 : 0 ≤ x2.toInt ∧ x2.toInt ≤ 4) : CP l D G yX12_of cX12_of 3 (some .int) 1 [.ref a0, .int x1, .int x2] (fun _ => True) (pI (fun H r => True)) := by
  refine enter (by decide) (Nat.le_of_ble_eq_true rfl) ?_
  intro p e s m args below meth c ls Q hA hQ C hr hO hpre hl
  have hx := C.1
  have hb := C.2.1
  have hl : lv_has ls 3 [(0, .ref a0), (1, .int x1), (2, .int x2)] := hl
  refine lv_aload_n hx hb dX12_of_0 rfl (lv_at hl 0 rfl) ?_
  refine q_gr (T := TX12) C hO ga0 1 kF_X12_13 dX12_of_1 rfl rfl (by decide) rfl (by decide) rfl (fun g1 => ?_)
  refine lv_iload_n hx hb dX12_of_4 rfl (lv_at hl 1 rfl) ?_
  refine lv_iload_n hx hb dX12_of_5 rfl (lv_at hl 2 rfl) ?_
  refine callS_Pi C hO (fun _ _ _ => rfl) (c_X12_houseAt l D G x1 x2 (by omega) (by omega)) kS_X12_49 (trivial) dX12_of_6 hl.1 cd_X12_houseAt ⟨Nat.le_of_ble_eq_true rfl, Nat.le_of_ble_eq_true rfl, Nat.le_of_ble_eq_true rfl, Nat.le_of_ble_eq_true rfl, Nat.le_of_ble_eq_true rfl⟩ (fun v2 q2 => ?_)
  have n3 : aN s.heap (fR D s.heap 11 a0 1) = 2052 := len_31 hO g1
  refine q_iald C hO g1 (by omega) (by omega) dX12_of_9 rfl (by decide) ?_
  refine lv_topi (fun v4 ev4 => ?_)
  exact retP_i hQ C hr dX12_of_10 (trivial)

set_option maxRecDepth 100000 in
set_option maxHeartbeats 4000000 in
theorem c_X12_hearthAt (l : Launch) (D : DD) (G : Nat → Nat) (x0 : Int32) (x1 : Int32) (ix0 : 0 ≤ x0.toInt ∧ x0.toInt ≤ 11) (ix1 : 0 ≤ x1.toInt ∧ x1.toInt ≤ 5) : CP l D G yX12_hearthAt cX12_hearthAt 2 (some .int) 0 [.int x0, .int x1] (fun _ => True) (pI (fun H r => r.toInt = 42 + 6 * x0.toInt + x1.toInt)) := by
  refine enter (by decide) (Nat.le_of_ble_eq_true rfl) ?_
  intro p e s m args below meth c ls Q hA hQ C hr hO hpre hl
  have hx := C.1
  have hb := C.2.1
  have hl : lv_has ls 2 [(0, .int x0), (1, .int x1)] := hl
  refine lv_bipush (v := 42) hx hb dX12_hearthAt_0 (by decide) ?_
  refine lv_bipush (v := 6) hx hb dX12_hearthAt_2 (by decide) ?_
  refine lv_iload_n hx hb dX12_hearthAt_4 rfl (lv_at hl 0 rfl) ?_
  have k_6 : (6 : Int32).toInt = 6 := by decide
  refine lv_imul hx hb dX12_hearthAt_5 ?_
  refine lv_topi (fun v1 ev1 => ?_)
  have f2 : v1.toInt = (6) * x0.toInt := by rw [ev1]; exact i_cmul k_6 (by omega) (by omega)
  have k_42 : (42 : Int32).toInt = 42 := by decide
  refine lv_iadd hx hb dX12_hearthAt_6 ?_
  refine lv_topi (fun v3 ev3 => ?_)
  have f4 : v3.toInt = (42 : Int32).toInt + v1.toInt := by rw [ev3]; exact i_add (by omega) (by omega)
  refine lv_iload_n hx hb dX12_hearthAt_7 rfl (lv_at hl 1 rfl) ?_
  refine lv_iadd hx hb dX12_hearthAt_8 ?_
  refine lv_topi (fun v5 ev5 => ?_)
  have f6 : v5.toInt = v3.toInt + x1.toInt := by rw [ev5]; exact i_add (by omega) (by omega)
  exact retP_i hQ C hr dX12_hearthAt_9 (by omega)

set_option maxRecDepth 100000 in
set_option maxHeartbeats 4000000 in
theorem c_X12_ofHearth (l : Launch) (D : DD) (G : Nat → Nat) (a0 : Nat) (x1 : Int32) (x2 : Int32) (ga0 : G a0 = 30) (ix1 : 0 ≤ x1.toInt ∧ x1.toInt ≤ 11) (ix2 : 0 ≤ x2.toInt ∧ x2.toInt ≤ 5) : CP l D G yX12_ofHearth cX12_ofHearth 3 (some .int) 1 [.ref a0, .int x1, .int x2] (fun _ => True) (pI (fun H r => x2.toInt = 0 → 0 ≤ r.toInt ∧ r.toInt ≤ 5)) := by
  refine enter (by decide) (Nat.le_of_ble_eq_true rfl) ?_
  intro p e s m args below meth c ls Q hA hQ C hr hO hpre hl
  have hx := C.1
  have hb := C.2.1
  have hl : lv_has ls 3 [(0, .ref a0), (1, .int x1), (2, .int x2)] := hl
  refine lv_aload_n hx hb dX12_ofHearth_0 rfl (lv_at hl 0 rfl) ?_
  refine q_gr (T := TX12) C hO ga0 1 kF_X12_13 dX12_ofHearth_1 rfl rfl (by decide) rfl (by decide) rfl (fun g1 => ?_)
  refine lv_iload_n hx hb dX12_ofHearth_4 rfl (lv_at hl 1 rfl) ?_
  refine lv_iload_n hx hb dX12_ofHearth_5 rfl (lv_at hl 2 rfl) ?_
  refine callS_Pi C hO (fun _ _ _ => rfl) (c_X12_hearthAt l D G x1 x2 (by omega) (by omega)) kS_X12_53 (trivial) dX12_ofHearth_6 hl.1 cd_X12_hearthAt ⟨Nat.le_of_ble_eq_true rfl, Nat.le_of_ble_eq_true rfl, Nat.le_of_ble_eq_true rfl, Nat.le_of_ble_eq_true rfl, Nat.le_of_ble_eq_true rfl⟩ (fun v2 q2 => ?_)
  have n3 : aN s.heap (fR D s.heap 11 a0 1) = 2052 := len_31 hO g1
  refine q_iald C hO g1 (by omega) (by omega) dX12_ofHearth_9 rfl (by decide) ?_
  refine lv_topi (fun v4 ev4 => ?_)
  have wv4 : x2.toInt = 0 → 0 ≤ v4.toInt ∧ v4.toInt ≤ 5 := fun h9 => by rw [ev4]; exact wl_of hO g1 x1.toInt.toNat (by omega) (by omega)
  exact retP_i hQ C hr dX12_ofHearth_10 (by omega)

set_option maxRecDepth 100000 in
set_option maxHeartbeats 4000000 in
theorem c_X12_isOf (l : Launch) (D : DD) (G : Nat → Nat) (a0 : Nat) (x1 : Int32) (x2 : Int32) (ga0 : G a0 = 30) (ix1 : 0 ≤ x1.toInt ∧ x1.toInt ≤ 11) : CP l D G yX12_isOf cX12_isOf 3 (some .boolean) 2 [.ref a0, .int x1, .int x2] (fun _ => True) (pI (fun H r => 0 ≤ r.toInt ∧ r.toInt ≤ 1)) := by
  refine enter (by decide) (Nat.le_of_ble_eq_true rfl) ?_
  intro p e s m args below meth c ls Q hA hQ C hr hO hpre hl
  have hx := C.1
  have hb := C.2.1
  have hl : lv_has ls 3 [(0, .ref a0), (1, .int x1), (2, .int x2)] := hl
  refine lv_aload_n hx hb dX12_isOf_0 rfl (lv_at hl 0 rfl) ?_
  refine lv_iload_n hx hb dX12_isOf_1 rfl (lv_at hl 1 rfl) ?_
  refine lv_iconst (v := 0) hx hb dX12_isOf_2 (by decide) ?_
  have k_0 : (0 : Int32).toInt = 0 := by decide
  refine callV_Pi C hO (fun _ _ _ => rfl) (c_X12_ofHearth l D G a0 x1 (0 : Int32) ga0 (by omega) (by omega)) kV_X12_56 ga0 (trivial) dX12_isOf_3 hl.1 rfl rfl (by decide) cd_X12_ofHearth ⟨Nat.le_of_ble_eq_true rfl, Nat.le_of_ble_eq_true rfl, Nat.le_of_ble_eq_true rfl, Nat.le_of_ble_eq_true rfl, Nat.le_of_ble_eq_true rfl⟩ (fun v1 q1 => ?_)
  refine lv_iload_n hx hb dX12_isOf_6 rfl (lv_at hl 2 rfl) ?_
  refine lv_icmp_ne (tgt := 14) hx hb dX12_isOf_7 (by decide) (fun c2 => ?_) (fun c2 => ?_)
  · have b2 : ¬ v1.toInt = x2.toInt := fun z9 => c2 (i_eq.mpr z9)
    refine lv_iconst (v := 0) hx hb dX12_isOf_14 (by decide) ?_
    exact retP_z hQ C hr dX12_isOf_15 (z01 (by omega) (by omega)) (by omega)
  · have b2 : v1.toInt = x2.toInt := i_eq.mp c2
    refine lv_iconst (v := 1) hx hb dX12_isOf_10 (by decide) ?_
    refine lv_goto (tgt := 15) hx hb dX12_isOf_11 (by decide) ?_
    have k_1 : (1 : Int32).toInt = 1 := by decide
    exact retP_z hQ C hr dX12_isOf_15 (z01 (by omega) (by omega)) (by omega)

set_option maxRecDepth 100000 in
set_option maxHeartbeats 4000000 in
theorem c_X12_isOpen (l : Launch) (D : DD) (G : Nat → Nat) (a0 : Nat) (x1 : Int32) (ga0 : G a0 = 30) (ix1 : 0 ≤ x1.toInt ∧ x1.toInt ≤ 11) : CP l D G yX12_isOpen cX12_isOpen 2 (some .boolean) 2 [.ref a0, .int x1] (fun _ => True) (pI (fun H r => 0 ≤ r.toInt ∧ r.toInt ≤ 1)) := by
  refine enter (by decide) (Nat.le_of_ble_eq_true rfl) ?_
  intro p e s m args below meth c ls Q hA hQ C hr hO hpre hl
  have hx := C.1
  have hb := C.2.1
  have hl : lv_has ls 2 [(0, .ref a0), (1, .int x1)] := hl
  refine lv_aload_n hx hb dX12_isOpen_0 rfl (lv_at hl 0 rfl) ?_
  refine lv_iload_n hx hb dX12_isOpen_1 rfl (lv_at hl 1 rfl) ?_
  refine lv_iconst (v := 5) hx hb dX12_isOpen_2 (by decide) ?_
  have k_5 : (5 : Int32).toInt = 5 := by decide
  refine callV_Pi C hO (fun _ _ _ => rfl) (c_X12_ofHearth l D G a0 x1 (5 : Int32) ga0 (by omega) (by omega)) kV_X12_56 ga0 (trivial) dX12_isOpen_3 hl.1 rfl rfl (by decide) cd_X12_ofHearth ⟨Nat.le_of_ble_eq_true rfl, Nat.le_of_ble_eq_true rfl, Nat.le_of_ble_eq_true rfl, Nat.le_of_ble_eq_true rfl, Nat.le_of_ble_eq_true rfl⟩ (fun v1 q1 => ?_)
  have k_0 : (0 : Int32).toInt = 0 := by decide
  refine lv_if_ne (tgt := 13) hx hb dX12_isOpen_6 (by decide) (fun c2 => ?_) (fun c2 => ?_)
  · have b2 : ¬ v1.toInt = (0 : Int32).toInt := fun z9 => c2 (i_eq.mpr z9)
    refine lv_iconst (v := 0) hx hb dX12_isOpen_13 (by decide) ?_
    exact retP_z hQ C hr dX12_isOpen_14 (z01 (by omega) (by omega)) (by omega)
  · have b2 : v1.toInt = (0 : Int32).toInt := i_eq.mp c2
    refine lv_iconst (v := 1) hx hb dX12_isOpen_9 (by decide) ?_
    refine lv_goto (tgt := 14) hx hb dX12_isOpen_10 (by decide) ?_
    have k_1 : (1 : Int32).toInt = 1 := by decide
    exact retP_z hQ C hr dX12_isOpen_14 (z01 (by omega) (by omega)) (by omega)

set_option maxRecDepth 100000 in
set_option maxHeartbeats 4000000 in
theorem c_X12_isWalled (l : Launch) (D : DD) (G : Nat → Nat) (a0 : Nat) (x1 : Int32) (ga0 : G a0 = 30) (ix1 : 0 ≤ x1.toInt ∧ x1.toInt ≤ 11) : CP l D G yX12_isWalled cX12_isWalled 2 (some .boolean) 2 [.ref a0, .int x1] (fun _ => True) (pI (fun H r => 0 ≤ r.toInt ∧ r.toInt ≤ 1)) := by
  refine enter (by decide) (Nat.le_of_ble_eq_true rfl) ?_
  intro p e s m args below meth c ls Q hA hQ C hr hO hpre hl
  have hx := C.1
  have hb := C.2.1
  have hl : lv_has ls 2 [(0, .ref a0), (1, .int x1)] := hl
  refine lv_aload_n hx hb dX12_isWalled_0 rfl (lv_at hl 0 rfl) ?_
  refine lv_iload_n hx hb dX12_isWalled_1 rfl (lv_at hl 1 rfl) ?_
  refine lv_iconst (v := 5) hx hb dX12_isWalled_2 (by decide) ?_
  have k_5 : (5 : Int32).toInt = 5 := by decide
  refine callV_Pi C hO (fun _ _ _ => rfl) (c_X12_ofHearth l D G a0 x1 (5 : Int32) ga0 (by omega) (by omega)) kV_X12_56 ga0 (trivial) dX12_isWalled_3 hl.1 rfl rfl (by decide) cd_X12_ofHearth ⟨Nat.le_of_ble_eq_true rfl, Nat.le_of_ble_eq_true rfl, Nat.le_of_ble_eq_true rfl, Nat.le_of_ble_eq_true rfl, Nat.le_of_ble_eq_true rfl⟩ (fun v1 q1 => ?_)
  refine lv_iconst (v := 1) hx hb dX12_isWalled_6 (by decide) ?_
  have k_1 : (1 : Int32).toInt = 1 := by decide
  refine lv_icmp_ne (tgt := 14) hx hb dX12_isWalled_7 (by decide) (fun c2 => ?_) (fun c2 => ?_)
  · have b2 : ¬ v1.toInt = (1 : Int32).toInt := fun z9 => c2 (i_eq.mpr z9)
    refine lv_iconst (v := 0) hx hb dX12_isWalled_14 (by decide) ?_
    have k_0 : (0 : Int32).toInt = 0 := by decide
    exact retP_z hQ C hr dX12_isWalled_15 (z01 (by omega) (by omega)) (by omega)
  · have b2 : v1.toInt = (1 : Int32).toInt := i_eq.mp c2
    refine lv_iconst (v := 1) hx hb dX12_isWalled_10 (by decide) ?_
    refine lv_goto (tgt := 15) hx hb dX12_isWalled_11 (by decide) ?_
    exact retP_z hQ C hr dX12_isWalled_15 (z01 (by omega) (by omega)) (by omega)

set_option maxRecDepth 100000 in
set_option maxHeartbeats 4000000 in
theorem c_X12_isHidden (l : Launch) (D : DD) (G : Nat → Nat) (a0 : Nat) (x1 : Int32) (ga0 : G a0 = 30) (ix1 : 0 ≤ x1.toInt ∧ x1.toInt ≤ 11) : CP l D G yX12_isHidden cX12_isHidden 2 (some .boolean) 2 [.ref a0, .int x1] (fun _ => True) (pI (fun H r => 0 ≤ r.toInt ∧ r.toInt ≤ 1)) := by
  refine enter (by decide) (Nat.le_of_ble_eq_true rfl) ?_
  intro p e s m args below meth c ls Q hA hQ C hr hO hpre hl
  have hx := C.1
  have hb := C.2.1
  have hl : lv_has ls 2 [(0, .ref a0), (1, .int x1)] := hl
  refine lv_aload_n hx hb dX12_isHidden_0 rfl (lv_at hl 0 rfl) ?_
  refine lv_iload_n hx hb dX12_isHidden_1 rfl (lv_at hl 1 rfl) ?_
  refine lv_iconst (v := 5) hx hb dX12_isHidden_2 (by decide) ?_
  have k_5 : (5 : Int32).toInt = 5 := by decide
  refine callV_Pi C hO (fun _ _ _ => rfl) (c_X12_ofHearth l D G a0 x1 (5 : Int32) ga0 (by omega) (by omega)) kV_X12_56 ga0 (trivial) dX12_isHidden_3 hl.1 rfl rfl (by decide) cd_X12_ofHearth ⟨Nat.le_of_ble_eq_true rfl, Nat.le_of_ble_eq_true rfl, Nat.le_of_ble_eq_true rfl, Nat.le_of_ble_eq_true rfl, Nat.le_of_ble_eq_true rfl⟩ (fun v1 q1 => ?_)
  refine lv_iconst (v := 2) hx hb dX12_isHidden_6 (by decide) ?_
  have k_2 : (2 : Int32).toInt = 2 := by decide
  refine lv_icmp_ne (tgt := 14) hx hb dX12_isHidden_7 (by decide) (fun c2 => ?_) (fun c2 => ?_)
  · have b2 : ¬ v1.toInt = (2 : Int32).toInt := fun z9 => c2 (i_eq.mpr z9)
    refine lv_iconst (v := 0) hx hb dX12_isHidden_14 (by decide) ?_
    have k_0 : (0 : Int32).toInt = 0 := by decide
    exact retP_z hQ C hr dX12_isHidden_15 (z01 (by omega) (by omega)) (by omega)
  · have b2 : v1.toInt = (2 : Int32).toInt := i_eq.mp c2
    refine lv_iconst (v := 1) hx hb dX12_isHidden_10 (by decide) ?_
    refine lv_goto (tgt := 15) hx hb dX12_isHidden_11 (by decide) ?_
    have k_1 : (1 : Int32).toInt = 1 := by decide
    exact retP_z hQ C hr dX12_isHidden_15 (z01 (by omega) (by omega)) (by omega)
