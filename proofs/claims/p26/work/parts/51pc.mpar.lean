set_option maxRecDepth 100000 in
set_option maxHeartbeats 4000000 in
theorem c_X12_ofHearth_v (l : Launch) (D : DD) (G : Nat → Nat) (a0 : Nat) (x1 : Int32) (x2 : Int32) (ga0 : G a0 = 30) (ix1 : 0 ≤ x1.toInt ∧ x1.toInt ≤ 11) (ix2 : 0 ≤ x2.toInt ∧ x2.toInt ≤ 5) : CP l D G yX12_ofHearth cX12_ofHearth 3 (some .int) 1 [.ref a0, .int x1, .int x2] (fun _ => True) (pI (fun H r => r.toInt = (eI H (fR D H 11 a0 1) (42 + 6 * x1.toInt.toNat + x2.toInt.toNat)).toInt)) := by
  refine enter (by decide) (Nat.le_of_ble_eq_true rfl) ?_
  intro p e s m args below meth c ls Q hA hQ C hr hO hpre hl
  have hx := C.1
  have hb := C.2.1
  have hl : lv_has ls 3 [(0, .ref a0), (1, .int x1), (2, .int x2)] := hl
  refine lv_aload_n hx hb dX12_ofHearth_0 rfl (lv_at hl 0 rfl) ?_
  refine q_gr (T := TX12) C hO ga0 1 kF_X12_13 dX12_ofHearth_1 rfl rfl (by decide) rfl (by decide) rfl (fun g1 => ?_)
  refine lv_iload_n hx hb dX12_ofHearth_4 rfl (lv_at hl 1 rfl) ?_
  refine lv_iload_n hx hb dX12_ofHearth_5 rfl (lv_at hl 2 rfl) ?_
  refine callS_Pi C hO (fun _ _ _ => rfl) (c_X12_hearthAt l D G x1 x2 (by omega) (by omega)) kS_X12_53 (trivial) dX12_ofHearth_6 hl.1 cd_X12_hearthAt ⟨Nat.le_of_ble_eq_true rfl, Nat.le_of_ble_eq_true rfl, Nat.le_of_ble_eq_true rfl, Nat.le_of_ble_eq_true rfl, Nat.le_of_ble_eq_true rfl⟩ (fun v2 q2 => ?_)
  have n3 : aN s.heap (fR D s.heap 11 a0 1) = 2052 := len_31 hO g1
  refine q_iald C hO g1 (by omega) (by omega) dX12_ofHearth_9 rfl (by decide) ?_
  refine lv_topi (fun v4 ev4 => ?_)
  have yv4 : v4.toInt = (eI s.heap (fR D s.heap 11 a0 1) (42 + 6 * x1.toInt.toNat + x2.toInt.toNat)).toInt := by rw [ev4, show v2.toInt.toNat = 42 + 6 * x1.toInt.toNat + x2.toInt.toNat by omega]
  exact retP_i hQ C hr dX12_ofHearth_10 (by omega)
