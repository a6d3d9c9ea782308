set_option maxRecDepth 100000 in
set_option maxHeartbeats 4000000 in
theorem c_X12_readLine_tf (l : Launch) (D : DD) (G : Nat → Nat) (a0 : Nat) (x1 : Int32) (x2 : Int32) (sg : Sg) (T : Tx) (b : Nat) (ga0 : G a0 = 30) (ix1 : 1 ≤ x1.toInt ∧ x1.toInt ≤ 1) (ix2 : 0 ≤ x2.toInt ∧ x2.toInt ≤ 14) : CE l D G yX12_readLine cX12_readLine 3 (some .boolean) 29 [.ref a0, .int x1, .int x2] (fun H => (True) ∧ (RB D H a0 T b ∧ MV D H a0 sg ∧ PV sg)) [(30, 10), (30, 12), (31, 0), (31, 1)] (xI (fun H r H1 => ((0 ≤ r.toInt ∧ r.toInt ≤ 1) ∧ (r.toInt = 1 → x2.toInt ≤ 13)) ∧ (RRP D H1 a0 T (plnN T sg x2.toInt b) r))) := by
  refine enter (by decide) (Nat.le_of_ble_eq_true rfl) ?_
  intro p e s m args below meth c ls Q hA hQ C hr hO hpre hl
  have hx := C.1
  have hb := C.2.1
  have S : Sd D G [(30, 10), (30, 12), (31, 0), (31, 1)] s.heap s.heap [] := Sd.start hO
  have hl : lv_has ls 3 [(0, .ref a0), (1, .int x1), (2, .int x2)] := hl
  obtain ⟨hpre, hf⟩ := hpre
  obtain ⟨ts0, mv0, pv0⟩ := hf
  have hT : T.2 ≤ 400 := ts0.le hO ga0
  refine lv_aload_n hx hb dX12_readLine_0 rfl (lv_at hl 0 rfl) ?_
  refine callV_Ev C S (c_X12_letters_f l D G a0 T b ga0) kV_X12_102 ga0 (⟨trivial, ts0⟩) (by decide +kernel) dX12_readLine_1 hl.1 rfl rfl (by decide) cd_X12_letters ⟨Nat.le_of_ble_eq_true rfl, Nat.le_of_ble_eq_true rfl, Nat.le_of_ble_eq_true rfl, Nat.le_of_ble_eq_true rfl, Nat.le_of_ble_eq_true rfl⟩ (fun H1 L1 S1 K1 q1 => ?_)
  obtain ⟨q1, fq1⟩ := q1
  have mv1 := mv0.keep S.1 ga0 K1 (by decide +kernel) (by decide +kernel)
  refine lv_iload_n hx hb dX12_readLine_4 rfl (lv_at hl 2 rfl) ?_
  refine lv_iload_n hx hb dX12_readLine_5 rfl (lv_at hl 1 rfl) ?_
  have k_0 : (0 : Int32).toInt = 0 := by decide
  refine lv_if_eq (tgt := 14) hx hb dX12_readLine_6 (by decide) (fun c2 => ?_) (fun c2 => ?_)
  · have b2 : x1.toInt = (0 : Int32).toInt := i_eq.mp c2
    exact absurd b2 (by omega)
  · have b2 : ¬ x1.toInt = (0 : Int32).toInt := fun z9 => c2 (i_eq.mpr z9)
    refine lv_bipush (v := 14) hx hb dX12_readLine_9 (by decide) ?_
    refine lv_goto (tgt := 16) hx hb dX12_readLine_11 (by decide) ?_
    have k_14 : (14 : Int32).toInt = 14 := by decide
    refine lv_icmp_ge (tgt := 45) hx hb dX12_readLine_16 (by decide) (fun c3 => ?_) (fun c3 => ?_)
    · have b3 : (14 : Int32).toInt ≤ x2.toInt := i_le.mp c3
      have yn45 : ¬ x2.toInt < 14 := by omega
      refine lv_iconst (v := 0) hx hb dX12_readLine_45 (by decide) ?_
      exact retE_z hQ C S1 hr dX12_readLine_46 (z01 (by omega) (by omega)) (⟨⟨by omega, fun h9 => by omega⟩, RRP.no (s1 := sg) (by simp [plnN, yn45]) (by omega) fq1.2.2.1⟩)
    · have b3 : ¬ (14 : Int32).toInt ≤ x2.toInt := fun z9 => c3 (i_le.mpr z9)
      refine lv_iload_n hx hb dX12_readLine_19 rfl (lv_at hl 1 rfl) ?_
      refine lv_if_eq (tgt := 33) hx hb dX12_readLine_20 (by decide) (fun c4 => ?_) (fun c4 => ?_)
      · have b4 : x1.toInt = (0 : Int32).toInt := i_eq.mp c4
        exact absurd b4 (by omega)
      · have b4 : ¬ x1.toInt = (0 : Int32).toInt := fun z9 => c4 (i_eq.mpr z9)
        have yn23 : x2.toInt < 14 := by omega
        refine lv_aload_n hx hb dX12_readLine_23 rfl (lv_at hl 0 rfl) ?_
        refine callV_Ei C S1 (c_X12_readParishLine_f l D G a0 sg T b ga0) kV_X12_229 ga0 (⟨trivial, fq1, mv1, pv0⟩) (by decide +kernel) dX12_readLine_24 hl.1 rfl rfl (by decide) cd_X12_readParishLine ⟨Nat.le_of_ble_eq_true rfl, Nat.le_of_ble_eq_true rfl, Nat.le_of_ble_eq_true rfl, Nat.le_of_ble_eq_true rfl, Nat.le_of_ble_eq_true rfl⟩ (fun v5 H5 L5 S5 K5 q5 => ?_)
        obtain ⟨q5, fq5⟩ := q5
        rcases fq5 with ⟨c5, s5, y5, z5, ts5, dv5, pv5⟩ | ⟨e5, s5, y5, z5, wr5⟩
        · skip
          refine lv_if_eq (tgt := 45) hx hb dX12_readLine_27 (by decide) (fun c6 => ?_) (fun c6 => ?_)
          · have b6 : v5.toInt = (0 : Int32).toInt := i_eq.mp c6
            exact absurd b6 (by omega)
          · have b6 : ¬ v5.toInt = (0 : Int32).toInt := fun z9 => c6 (i_eq.mpr z9)
            refine lv_goto (tgt := 41) hx hb dX12_readLine_30 (by decide) ?_
            refine lv_iconst (v := 1) hx hb dX12_readLine_41 (by decide) ?_
            refine lv_goto (tgt := 46) hx hb dX12_readLine_42 (by decide) ?_
            have k_1 : (1 : Int32).toInt = 1 := by decide
            exact retE_z hQ C S5 hr dX12_readLine_46 (z01 (by omega) (by omega)) (⟨⟨by omega, fun h9 => by omega⟩, RRP.ok (s1 := s5) (by simp [plnN, yn23, y5]) (by omega) ts5 (dv5) (fun _ => pv5)⟩)
        · skip
          refine lv_if_eq (tgt := 45) hx hb dX12_readLine_27 (by decide) (fun c7 => ?_) (fun c7 => ?_)
          · have b7 : v5.toInt = (0 : Int32).toInt := i_eq.mp c7
            refine lv_iconst (v := 0) hx hb dX12_readLine_45 (by decide) ?_
            exact retE_z hQ C S5 hr dX12_readLine_46 (z01 (by omega) (by omega)) (⟨⟨by omega, fun h9 => by omega⟩, RRP.no (s1 := s5) (by simp [plnN, yn23, y5]) (by omega) wr5⟩)
          · have b7 : ¬ v5.toInt = (0 : Int32).toInt := fun z9 => c7 (i_eq.mpr z9)
            exact absurd b7 (by omega)
