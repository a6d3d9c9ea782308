set_option maxRecDepth 100000 in
set_option maxHeartbeats 4000000 in
theorem c_X12_isOf_v (l : Launch) (D : DD) (G : Nat → Nat) (a0 : Nat) (x1 : Int32) (x2 : Int32) (ga0 : G a0 = 30) (ix1 : 0 ≤ x1.toInt ∧ x1.toInt ≤ 11) : CP l D G yX12_isOf cX12_isOf 3 (some .boolean) 2 [.ref a0, .int x1, .int x2] (fun _ => True) (pI (fun H r => (r.toInt = 1 ∧ (eI H (fR D H 11 a0 1) (42 + 6 * x1.toInt.toNat)).toInt = x2.toInt) ∨ (r.toInt = 0 ∧ (eI H (fR D H 11 a0 1) (42 + 6 * x1.toInt.toNat)).toInt ≠ x2.toInt))) := by
  refine enter (by decide) (Nat.le_of_ble_eq_true rfl) ?_
  intro p e s m args below meth c ls Q hA hQ C hr hO hpre hl
  have hx := C.1
  have hb := C.2.1
  have hl : lv_has ls 3 [(0, .ref a0), (1, .int x1), (2, .int x2)] := hl
  refine lv_aload_n hx hb dX12_isOf_0 rfl (lv_at hl 0 rfl) ?_
  refine lv_iload_n hx hb dX12_isOf_1 rfl (lv_at hl 1 rfl) ?_
  refine lv_iconst (v := 0) hx hb dX12_isOf_2 (by decide) ?_
  have k_0 : (0 : Int32).toInt = 0 := by decide
  refine callV_Pi C hO (fun _ _ _ => rfl) (c_X12_ofHearth_v l D G a0 x1 (0 : Int32) ga0 (by omega) (by omega)) kV_X12_56 ga0 (trivial) dX12_isOf_3 hl.1 rfl rfl (by decide) cd_X12_ofHearth ⟨Nat.le_of_ble_eq_true rfl, Nat.le_of_ble_eq_true rfl, Nat.le_of_ble_eq_true rfl, Nat.le_of_ble_eq_true rfl, Nat.le_of_ble_eq_true rfl⟩ (fun v1 q1 => ?_)
  rw [show (0 : Int32).toInt.toNat = 0 by decide, Nat.add_zero] at q1
  refine lv_iload_n hx hb dX12_isOf_6 rfl (lv_at hl 2 rfl) ?_
  refine lv_icmp_ne (tgt := 14) hx hb dX12_isOf_7 (by decide) (fun c2 => ?_) (fun c2 => ?_)
  · have b2 : ¬ v1.toInt = x2.toInt := fun z9 => c2 (i_eq.mpr z9)
    refine lv_iconst (v := 0) hx hb dX12_isOf_14 (by decide) ?_
    exact retP_z hQ C hr dX12_isOf_15 (z01 (by omega) (by omega)) (by omega)
  · have b2 : v1.toInt = x2.toInt := i_eq.mp c2
    refine lv_iconst (v := 1) hx hb dX12_isOf_10 (by decide) ?_
    refine lv_goto (tgt := 15) hx hb dX12_isOf_11 (by decide) ?_
    have k_1 : (1 : Int32).toInt = 1 := by decide
    exact retP_z hQ C hr dX12_isOf_15 (z01 (by omega) (by omega)) (by omega)
