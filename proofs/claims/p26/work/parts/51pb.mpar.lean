set_option maxRecDepth 100000 in
set_option maxHeartbeats 4000000 in
theorem c_X12_hearths_v (l : Launch) (D : DD) (G : Nat → Nat) (a0 : Nat) (ga0 : G a0 = 30) : CP l D G yX12_hearths cX12_hearths 1 (some .int) 0 [.ref a0] (fun _ => True) (pI (fun H r => (0 ≤ r.toInt ∧ r.toInt ≤ 12) ∧ r.toInt = (eI H (fR D H 11 a0 1) 1).toInt)) := by
  refine enter (by decide) (Nat.le_of_ble_eq_true rfl) ?_
  intro p e s m args below meth c ls Q hA hQ C hr hO hpre hl
  have hx := C.1
  have hb := C.2.1
  have hl : lv_has ls 1 [(0, .ref a0)] := hl
  refine lv_aload_n hx hb dX12_hearths_0 rfl (lv_at hl 0 rfl) ?_
  refine q_gr (T := TX12) C hO ga0 1 kF_X12_13 dX12_hearths_1 rfl rfl (by decide) rfl (by decide) rfl (fun g1 => ?_)
  refine lv_iconst (v := 1) hx hb dX12_hearths_4 (by decide) ?_
  have n2 : aN s.heap (fR D s.heap 11 a0 1) = 2052 := len_31 hO g1
  have k_1 : (1 : Int32).toInt = 1 := by decide
  refine q_iald C hO g1 (by omega) (by omega) dX12_hearths_5 rfl (by decide) ?_
  refine lv_topi (fun v3 ev3 => ?_)
  have wv3 : 0 ≤ v3.toInt ∧ v3.toInt ≤ 12 := by rw [ev3]; exact wl_1 hO g1
  have yv3 : v3.toInt = (eI s.heap (fR D s.heap 11 a0 1) 1).toInt := by rw [ev3]; rfl
  exact retP_i hQ C hr dX12_hearths_6 (⟨by omega, by omega⟩)
