set_option maxRecDepth 100000 in
set_option maxHeartbeats 4000000 in
theorem c_X12_holdsLine (l : Launch) (D : DD) (G : Nat → Nat) (a0 : Nat) (x1 : Int32) (x2 : Int32) (ga0 : G a0 = 30) (ix1 : 0 ≤ x1.toInt ∧ x1.toInt ≤ 11) (ix2 : 0 ≤ x2.toInt ∧ x2.toInt ≤ 11) : CE l D G yX12_holdsLine cX12_holdsLine 10 (some .boolean) 6 [.ref a0, .int x1, .int x2] (fun H => x1.toInt < (eI H (fR D H 11 a0 1) 354).toInt) [(38, 0)] (xI (fun H r H1 => 0 ≤ r.toInt ∧ r.toInt ≤ 1)) := by
  refine enter (by decide) (Nat.le_of_ble_eq_true rfl) ?_
  intro p e s m args below meth c ls Q hA hQ C hr hO hpre hl
  have hx := C.1
  have hb := C.2.1
  have S : Sd D G [(38, 0)] s.heap s.heap [] := Sd.start hO
  have hl : lv_has ls 10 [(0, .ref a0), (1, .int x1), (2, .int x2)] := hl
  sorry

set_option maxRecDepth 100000 in
set_option maxHeartbeats 4000000 in
theorem c_X12_remembers (l : Launch) (D : DD) (G : Nat → Nat) (a0 : Nat) (ga0 : G a0 = 30) : CE l D G yX12_remembers cX12_remembers 2 none 0 [.ref a0] (fun _ => True) [(35, 0), (30, 7)] (xV (fun H H1 => True)) := by
  refine enter (by decide) (Nat.le_of_ble_eq_true rfl) ?_
  intro p e s m args below meth c ls Q hA hQ C hr hO hpre hl
  have hx := C.1
  have hb := C.2.1
  have S : Sd D G [(35, 0), (30, 7)] s.heap s.heap [] := Sd.start hO
  have hl : lv_has ls 2 [(0, .ref a0)] := hl
  sorry
