set_option maxRecDepth 100000 in
set_option maxHeartbeats 4000000 in
theorem c_X12_after_f (l : Launch) (D : DD) (G : Nat → Nat) (a0 : Nat) (a1 n1 : Nat) (x2 : Int32) (x3 : Int32) (w : List Nat) (lo : Int) (hi : Int) (T : Tx) (b : Nat) (ga0 : G a0 = 30) (sa1 : D.1.2 99 a1 = n1 + 1) (ix2 : 0 ≤ x2.toInt ∧ x2.toInt ≤ 1000) (hw : Wc D a1 n1 w) (hc : 0 < n1) (hlo : x2.toInt = lo) (hhi : x3.toInt = hi) (h999 : x3.toInt ≤ 999) : CE l D G yX12_after cX12_after 4 (some .int) 5 [.ref a0, .ref a1, .int x2, .int x3] (fun H => (True) ∧ (RB D H a0 T b)) [(30, 10), (30, 12)] (xI (fun H r H1 => (r.toInt = -1 ∨ (x2.toInt ≤ r.toInt ∧ r.toInt ≤ x3.toInt)) ∧ ((isW T b w = true ∧ num T (nx T b) lo hi ≠ -1 ∧ r.toInt = num T (nx T b) lo hi ∧ RB D H1 a0 T (nx T (nx T b)) ∧ (fI D H1 11 a0 12).toInt = (((nx T b) : Nat) : Int)) ∨ (isW T b w = true ∧ num T (nx T b) lo hi = -1 ∧ r.toInt = -1 ∧ (fI D H1 11 a0 12).toInt = (((nx T b) : Nat) : Int)) ∨ (isW T b w = false ∧ r.toInt = -1 ∧ (fI D H1 11 a0 12).toInt = (((b) : Nat) : Int))))) := by
  refine enter (by decide) (Nat.le_of_ble_eq_true rfl) ?_
  intro p e s m args below meth c ls Q hA hQ C hr hO hpre hl
  have hx := C.1
  have hb := C.2.1
  have S : Sd D G [(30, 10), (30, 12)] s.heap s.heap [] := Sd.start hO
  have hl : lv_has ls 4 [(0, .ref a0), (1, .ref a1), (2, .int x2), (3, .int x3)] := hl
  obtain ⟨hpre, hf⟩ := hpre
  have ts0 := hf
  have hT : T.2 ≤ 400 := ts0.le hO ga0
  refine lv_aload_n hx hb dX12_after_0 rfl (lv_at hl 0 rfl) ?_
  refine callV_Ev C S (c_X12_letters_f l D G a0 T b ga0) kV_X12_102 ga0 (⟨trivial, ts0⟩) (by decide +kernel) dX12_after_1 hl.1 rfl rfl (by decide) cd_X12_letters ⟨Nat.le_of_ble_eq_true rfl, Nat.le_of_ble_eq_true rfl, Nat.le_of_ble_eq_true rfl, Nat.le_of_ble_eq_true rfl, Nat.le_of_ble_eq_true rfl⟩ (fun H1 L1 S1 K1 q1 => ?_)
  obtain ⟨q1, fq1⟩ := q1
  refine lv_aload_n hx hb dX12_after_4 rfl (lv_at hl 0 rfl) ?_
  refine lv_aload_n hx hb dX12_after_5 rfl (lv_at hl 1 rfl) ?_
  refine callV_Pi C S1.1 S1.2.1.2.1 (c_X12_isWord_f l D G a0 a1 n1 w T b ga0 sa1 hw hc) kV_X12_105 ga0 (⟨trivial, fq1⟩) dX12_after_6 hl.1 rfl rfl (by decide) cd_X12_isWord ⟨Nat.le_of_ble_eq_true rfl, Nat.le_of_ble_eq_true rfl, Nat.le_of_ble_eq_true rfl, Nat.le_of_ble_eq_true rfl, Nat.le_of_ble_eq_true rfl⟩ (fun v2 q2 => ?_)
  obtain ⟨q2, fq2⟩ := q2
  rcases fq2 with ⟨z2, y2⟩ | ⟨z2, y2⟩
  · skip
    have k_0 : (0 : Int32).toInt = 0 := by decide
    refine lv_if_eq (tgt := 21) hx hb dX12_after_9 (by decide) (fun c3 => ?_) (fun c3 => ?_)
    · have b3 : v2.toInt = (0 : Int32).toInt := i_eq.mp c3
      exact absurd b3 (by omega)
    · have b3 : ¬ v2.toInt = (0 : Int32).toInt := fun z9 => c3 (i_eq.mpr z9)
      refine lv_aload_n hx hb dX12_after_12 rfl (lv_at hl 0 rfl) ?_
      refine lv_iload_n hx hb dX12_after_13 rfl (lv_at hl 2 rfl) ?_
      refine lv_iload_n hx hb dX12_after_14 rfl (lv_at hl 3 rfl) ?_
      have rb4 := fq1.rb1 (isW_k y2)
      refine callV_Ei C S1 (c_X12_number_f l D G a0 x2 x3 lo hi T (nx T b) ga0 (by omega) hlo hhi h999) kV_X12_109 ga0 (⟨trivial, rb4⟩) (by decide +kernel) dX12_after_15 hl.1 rfl rfl (by decide) cd_X12_number ⟨Nat.le_of_ble_eq_true rfl, Nat.le_of_ble_eq_true rfl, Nat.le_of_ble_eq_true rfl, Nat.le_of_ble_eq_true rfl, Nat.le_of_ble_eq_true rfl⟩ (fun v5 H5 L5 S5 K5 q5 => ?_)
      obtain ⟨q5, fq5⟩ := q5
      rcases fq5 with ⟨z5, y5, ts5, bg5⟩ | ⟨z5, y5, wr5⟩
      · skip
        refine lv_goto (tgt := 22) hx hb dX12_after_18 (by decide) ?_
        exact retE_i hQ C S5 hr dX12_after_22 (⟨by omega, Or.inl ⟨y2, y5, by omega, ts5, bg5⟩⟩)
      · skip
        refine lv_goto (tgt := 22) hx hb dX12_after_18 (by decide) ?_
        exact retE_i hQ C S5 hr dX12_after_22 (⟨by omega, Or.inr (Or.inl ⟨y2, y5, by omega, wr5⟩)⟩)
  · skip
    have k_0 : (0 : Int32).toInt = 0 := by decide
    refine lv_if_eq (tgt := 21) hx hb dX12_after_9 (by decide) (fun c6 => ?_) (fun c6 => ?_)
    · have b6 : v2.toInt = (0 : Int32).toInt := i_eq.mp c6
      refine lv_iconst (v := -1) hx hb dX12_after_21 (by decide) ?_
      have k_m1 : (-1 : Int32).toInt = -1 := by decide
      exact retE_i hQ C S1 hr dX12_after_22 (⟨by omega, Or.inr (Or.inr ⟨y2, by omega, fq1.2.2.1⟩)⟩)
    · have b6 : ¬ v2.toInt = (0 : Int32).toInt := fun z9 => c6 (i_eq.mpr z9)
      exact absurd b6 (by omega)
