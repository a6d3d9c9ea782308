set_option maxRecDepth 100000 in
set_option maxHeartbeats 4000000 in
theorem c_X12_kindTold_f (l : Launch) (D : DD) (G : Nat → Nat) (a0 : Nat) (T : Tx) (b : Nat) (ga0 : G a0 = 30) : CE l D G yX12_kindTold cX12_kindTold 1 (some .int) 5 [.ref a0] (fun H => (True) ∧ (RB D H a0 T b)) [(30, 10), (30, 12)] (xI (fun H r H1 => (-1 ≤ r.toInt ∧ r.toInt ≤ 3) ∧ (r.toInt = kin T b ∧ LB D H1 a0 T b))) := by
  refine enter (by decide) (Nat.le_of_ble_eq_true rfl) ?_
  intro p e s m args below meth c ls Q hA hQ C hr hO hpre hl
  have hx := C.1
  have hb := C.2.1
  have S : Sd D G [(30, 10), (30, 12)] s.heap s.heap [] := Sd.start hO
  have hl : lv_has ls 1 [(0, .ref a0)] := hl
  obtain ⟨hpre, hf⟩ := hpre
  have ts0 := hf
  have hT : T.2 ≤ 400 := ts0.le hO ga0
  refine lv_aload_n hx hb dX12_kindTold_0 rfl (lv_at hl 0 rfl) ?_
  refine callV_Ev C S (c_X12_letters_f l D G a0 T b ga0) kV_X12_102 ga0 (⟨trivial, ts0⟩) (by decide +kernel) dX12_kindTold_1 hl.1 rfl rfl (by decide) cd_X12_letters ⟨Nat.le_of_ble_eq_true rfl, Nat.le_of_ble_eq_true rfl, Nat.le_of_ble_eq_true rfl, Nat.le_of_ble_eq_true rfl, Nat.le_of_ble_eq_true rfl⟩ (fun H1 L1 S1 K1 q1 => ?_)
  obtain ⟨q1, fq1⟩ := q1
  refine lv_aload_n hx hb dX12_kindTold_4 rfl (lv_at hl 0 rfl) ?_
  refine q_lds C ks_X12_125 dX12_kindTold_5 (fun a2 ha2 wa2 => ?_)
  refine callV_Pi C S1.1 S1.2.1.2.1 (c_X12_isWord_f l D G a0 a2 4 w_fire T b ga0 ha2 (Wc.of wa2 kw_fire) (by decide)) kV_X12_105 ga0 (⟨trivial, fq1⟩) dX12_kindTold_7 hl.1 rfl rfl (by decide) cd_X12_isWord ⟨Nat.le_of_ble_eq_true rfl, Nat.le_of_ble_eq_true rfl, Nat.le_of_ble_eq_true rfl, Nat.le_of_ble_eq_true rfl, Nat.le_of_ble_eq_true rfl⟩ (fun v3 q3 => ?_)
  obtain ⟨q3, fq3⟩ := q3
  rcases fq3 with ⟨z3, y3⟩ | ⟨z3, y3⟩
  · skip
    have k_0 : (0 : Int32).toInt = 0 := by decide
    refine lv_if_eq (tgt := 17) hx hb dX12_kindTold_10 (by decide) (fun c4 => ?_) (fun c4 => ?_)
    · have b4 : v3.toInt = (0 : Int32).toInt := i_eq.mp c4
      exact absurd b4 (by omega)
    · have b4 : ¬ v3.toInt = (0 : Int32).toInt := fun z9 => c4 (i_eq.mpr z9)
      refine lv_iconst (v := 0) hx hb dX12_kindTold_13 (by decide) ?_
      refine lv_goto (tgt := 57) hx hb dX12_kindTold_14 (by decide) ?_
      exact retE_i hQ C S1 hr dX12_kindTold_57 (⟨by omega, ⟨by rw [show kin T b = 0 by simp [kin, y3]]; omega, fq1⟩⟩)
  · skip
    have k_0 : (0 : Int32).toInt = 0 := by decide
    refine lv_if_eq (tgt := 17) hx hb dX12_kindTold_10 (by decide) (fun c5 => ?_) (fun c5 => ?_)
    · have b5 : v3.toInt = (0 : Int32).toInt := i_eq.mp c5
      refine lv_aload_n hx hb dX12_kindTold_17 rfl (lv_at hl 0 rfl) ?_
      refine q_lds C ks_X12_127 dX12_kindTold_18 (fun a6 ha6 wa6 => ?_)
      refine callV_Pi C S1.1 S1.2.1.2.1 (c_X12_isWord_f l D G a0 a6 4 w_oven T b ga0 ha6 (Wc.of wa6 kw_oven) (by decide)) kV_X12_105 ga0 (⟨trivial, fq1⟩) dX12_kindTold_20 hl.1 rfl rfl (by decide) cd_X12_isWord ⟨Nat.le_of_ble_eq_true rfl, Nat.le_of_ble_eq_true rfl, Nat.le_of_ble_eq_true rfl, Nat.le_of_ble_eq_true rfl, Nat.le_of_ble_eq_true rfl⟩ (fun v7 q7 => ?_)
      obtain ⟨q7, fq7⟩ := q7
      rcases fq7 with ⟨z7, y7⟩ | ⟨z7, y7⟩
      · skip
        refine lv_if_eq (tgt := 30) hx hb dX12_kindTold_23 (by decide) (fun c8 => ?_) (fun c8 => ?_)
        · have b8 : v7.toInt = (0 : Int32).toInt := i_eq.mp c8
          exact absurd b8 (by omega)
        · have b8 : ¬ v7.toInt = (0 : Int32).toInt := fun z9 => c8 (i_eq.mpr z9)
          refine lv_iconst (v := 1) hx hb dX12_kindTold_26 (by decide) ?_
          refine lv_goto (tgt := 57) hx hb dX12_kindTold_27 (by decide) ?_
          have k_1 : (1 : Int32).toInt = 1 := by decide
          exact retE_i hQ C S1 hr dX12_kindTold_57 (⟨by omega, ⟨by rw [show kin T b = 1 by simp [kin, y3, y7]]; omega, fq1⟩⟩)
      · skip
        refine lv_if_eq (tgt := 30) hx hb dX12_kindTold_23 (by decide) (fun c9 => ?_) (fun c9 => ?_)
        · have b9 : v7.toInt = (0 : Int32).toInt := i_eq.mp c9
          refine lv_aload_n hx hb dX12_kindTold_30 rfl (lv_at hl 0 rfl) ?_
          refine q_lds C ks_X12_129 dX12_kindTold_31 (fun a10 ha10 wa10 => ?_)
          refine callV_Pi C S1.1 S1.2.1.2.1 (c_X12_isWord_f l D G a0 a10 5 w_forge T b ga0 ha10 (Wc.of wa10 kw_forge) (by decide)) kV_X12_105 ga0 (⟨trivial, fq1⟩) dX12_kindTold_33 hl.1 rfl rfl (by decide) cd_X12_isWord ⟨Nat.le_of_ble_eq_true rfl, Nat.le_of_ble_eq_true rfl, Nat.le_of_ble_eq_true rfl, Nat.le_of_ble_eq_true rfl, Nat.le_of_ble_eq_true rfl⟩ (fun v11 q11 => ?_)
          obtain ⟨q11, fq11⟩ := q11
          rcases fq11 with ⟨z11, y11⟩ | ⟨z11, y11⟩
          · skip
            refine lv_if_eq (tgt := 43) hx hb dX12_kindTold_36 (by decide) (fun c12 => ?_) (fun c12 => ?_)
            · have b12 : v11.toInt = (0 : Int32).toInt := i_eq.mp c12
              exact absurd b12 (by omega)
            · have b12 : ¬ v11.toInt = (0 : Int32).toInt := fun z9 => c12 (i_eq.mpr z9)
              refine lv_iconst (v := 2) hx hb dX12_kindTold_39 (by decide) ?_
              refine lv_goto (tgt := 57) hx hb dX12_kindTold_40 (by decide) ?_
              have k_2 : (2 : Int32).toInt = 2 := by decide
              exact retE_i hQ C S1 hr dX12_kindTold_57 (⟨by omega, ⟨by rw [show kin T b = 2 by simp [kin, y3, y7, y11]]; omega, fq1⟩⟩)
          · skip
            refine lv_if_eq (tgt := 43) hx hb dX12_kindTold_36 (by decide) (fun c13 => ?_) (fun c13 => ?_)
            · have b13 : v11.toInt = (0 : Int32).toInt := i_eq.mp c13
              refine lv_aload_n hx hb dX12_kindTold_43 rfl (lv_at hl 0 rfl) ?_
              refine q_lds C ks_X12_131 dX12_kindTold_44 (fun a14 ha14 wa14 => ?_)
              refine callV_Pi C S1.1 S1.2.1.2.1 (c_X12_isWord_f l D G a0 a14 3 w_pot T b ga0 ha14 (Wc.of wa14 kw_pot) (by decide)) kV_X12_105 ga0 (⟨trivial, fq1⟩) dX12_kindTold_46 hl.1 rfl rfl (by decide) cd_X12_isWord ⟨Nat.le_of_ble_eq_true rfl, Nat.le_of_ble_eq_true rfl, Nat.le_of_ble_eq_true rfl, Nat.le_of_ble_eq_true rfl, Nat.le_of_ble_eq_true rfl⟩ (fun v15 q15 => ?_)
              obtain ⟨q15, fq15⟩ := q15
              rcases fq15 with ⟨z15, y15⟩ | ⟨z15, y15⟩
              · skip
                refine lv_if_eq (tgt := 56) hx hb dX12_kindTold_49 (by decide) (fun c16 => ?_) (fun c16 => ?_)
                · have b16 : v15.toInt = (0 : Int32).toInt := i_eq.mp c16
                  exact absurd b16 (by omega)
                · have b16 : ¬ v15.toInt = (0 : Int32).toInt := fun z9 => c16 (i_eq.mpr z9)
                  refine lv_iconst (v := 3) hx hb dX12_kindTold_52 (by decide) ?_
                  refine lv_goto (tgt := 57) hx hb dX12_kindTold_53 (by decide) ?_
                  have k_3 : (3 : Int32).toInt = 3 := by decide
                  exact retE_i hQ C S1 hr dX12_kindTold_57 (⟨by omega, ⟨by rw [show kin T b = 3 by simp [kin, y3, y7, y11, y15]]; omega, fq1⟩⟩)
              · skip
                refine lv_if_eq (tgt := 56) hx hb dX12_kindTold_49 (by decide) (fun c17 => ?_) (fun c17 => ?_)
                · have b17 : v15.toInt = (0 : Int32).toInt := i_eq.mp c17
                  refine lv_iconst (v := -1) hx hb dX12_kindTold_56 (by decide) ?_
                  have k_m1 : (-1 : Int32).toInt = -1 := by decide
                  exact retE_i hQ C S1 hr dX12_kindTold_57 (⟨by omega, ⟨by rw [show kin T b = -1 by simp [kin, y3, y7, y11, y15]]; omega, fq1⟩⟩)
                · have b17 : ¬ v15.toInt = (0 : Int32).toInt := fun z9 => c17 (i_eq.mpr z9)
                  exact absurd b17 (by omega)
            · have b13 : ¬ v11.toInt = (0 : Int32).toInt := fun z9 => c13 (i_eq.mpr z9)
              exact absurd b13 (by omega)
        · have b9 : ¬ v7.toInt = (0 : Int32).toInt := fun z9 => c9 (i_eq.mpr z9)
          exact absurd b9 (by omega)
    · have b5 : ¬ v3.toInt = (0 : Int32).toInt := fun z9 => c5 (i_eq.mpr z9)
      exact absurd b5 (by omega)
