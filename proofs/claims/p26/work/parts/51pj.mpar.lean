set_option maxRecDepth 100000 in
set_option maxHeartbeats 4000000 in
theorem c_X12_readSees_f (l : Launch) (D : DD) (G : Nat → Nat) (a0 : Nat) (sg : Sg) (T : Tx) (b : Nat) (ga0 : G a0 = 30) (hw0 : isW T b w_sees = true) : CE l D G yX12_readSees cX12_readSees 3 (some .boolean) 3 [.ref a0] (fun H => (True) ∧ (LB D H a0 T b ∧ MV D H a0 sg ∧ PV sg)) [(30, 10), (30, 12), (31, 0)] (xI (fun H r H1 => (0 ≤ r.toInt ∧ r.toInt ≤ 1) ∧ (RRP D H1 a0 T (seeF T sg b) r))) := by
  refine enter (by decide) (Nat.le_of_ble_eq_true rfl) ?_
  intro p e s m args below meth c ls Q hA hQ C hr hO hpre hl
  have hx := C.1
  have hb := C.2.1
  have S : Sd D G [(30, 10), (30, 12), (31, 0)] s.heap s.heap [] := Sd.start hO
  have hl : lv_has ls 3 [(0, .ref a0)] := hl
  obtain ⟨hpre, hf⟩ := hpre
  obtain ⟨ts0, mv0, pv0⟩ := hf
  have hT : T.2 ≤ 400 := ts0.le hO ga0
  have hs9 := mv_0 mv0
  refine lv_aload_n hx hb dX12_readSees_0 rfl (lv_at hl 0 rfl) ?_
  refine lv_iconst (v := 0) hx hb dX12_readSees_1 (by decide) ?_
  refine lv_iconst (v := 4) hx hb dX12_readSees_2 (by decide) ?_
  have rb1 := ts0.rb1 (isW_k hw0)
  have k_0 : (0 : Int32).toInt = 0 := by decide
  have k_4 : (4 : Int32).toInt = 4 := by decide
  refine callV_Ei C S (c_X12_number_f l D G a0 (0 : Int32) (4 : Int32) 0 4 T (nx T b) ga0 (by omega) (by omega) (by omega) (by omega)) kV_X12_109 ga0 (⟨trivial, rb1⟩) (by decide +kernel) dX12_readSees_3 hl.1 rfl rfl (by decide) cd_X12_number ⟨Nat.le_of_ble_eq_true rfl, Nat.le_of_ble_eq_true rfl, Nat.le_of_ble_eq_true rfl, Nat.le_of_ble_eq_true rfl, Nat.le_of_ble_eq_true rfl⟩ (fun v2 H2 L2 S2 K2 q2 => ?_)
  obtain ⟨q2, fq2⟩ := q2
  have mv2 := mv0.keep S.1 ga0 K2 (by decide +kernel) (by decide +kernel)
  rcases fq2 with ⟨z2, y2, ts2, bg2⟩ | ⟨z2, y2, wr2⟩
  · skip
    refine lv_istore_n (lv' := [(1, .int v2), (0, .ref a0)]) hx hb dX12_readSees_6 rfl hl (by decide) rfl (fun ls hl => ?_)
    refine lv_iload_n hx hb dX12_readSees_7 rfl (lv_at hl 0 rfl) ?_
    refine lv_if_ge (tgt := 15) hx hb dX12_readSees_8 (by decide) (fun c3 => ?_) (fun c3 => ?_)
    · have b3 : (0 : Int32).toInt ≤ v2.toInt := i_le.mp c3
      refine lv_aload_n hx hb dX12_readSees_15 rfl (lv_at hl 1 rfl) ?_
      refine lv_iconst (v := 0) hx hb dX12_readSees_16 (by decide) ?_
      refine lv_aload_n hx hb dX12_readSees_17 rfl (lv_at hl 1 rfl) ?_
      refine callV_Pi C S2.1 S2.2.1.2.1 (c_X12_houses_v l D G a0 ga0) kV_X12_59 ga0 (trivial) dX12_readSees_18 hl.1 rfl rfl (by decide) cd_X12_houses ⟨Nat.le_of_ble_eq_true rfl, Nat.le_of_ble_eq_true rfl, Nat.le_of_ble_eq_true rfl, Nat.le_of_ble_eq_true rfl, Nat.le_of_ble_eq_true rfl⟩ (fun v4 q4 => ?_)
      have hs8 : v4.toInt = sg 0 := q4.2.trans (mv_0 mv2)
      refine lv_iconst (v := 1) hx hb dX12_readSees_21 (by decide) ?_
      have k_1 : (1 : Int32).toInt = 1 := by decide
      refine lv_isub hx hb dX12_readSees_22 ?_
      refine lv_topi (fun v5 ev5 => ?_)
      have f6 : v5.toInt = v4.toInt - (1 : Int32).toInt := by rw [ev5]; exact i_sub (by omega) (by omega)
      refine callV_Ei C S2 (c_X12_number_f l D G a0 (0 : Int32) v5 0 (sg 0 - 1) T (nx T (nx T b)) ga0 (by omega) (by omega) (by omega) (by omega)) kV_X12_109 ga0 (⟨trivial, ts2⟩) (by decide +kernel) dX12_readSees_23 hl.1 rfl rfl (by decide) cd_X12_number ⟨Nat.le_of_ble_eq_true rfl, Nat.le_of_ble_eq_true rfl, Nat.le_of_ble_eq_true rfl, Nat.le_of_ble_eq_true rfl, Nat.le_of_ble_eq_true rfl⟩ (fun v7 H7 L7 S7 K7 q7 => ?_)
      obtain ⟨q7, fq7⟩ := q7
      have mv7 := mv2.keep S2.1 ga0 K7 (by decide +kernel) (by decide +kernel)
      rcases fq7 with ⟨z7, y7, ts7, bg7⟩ | ⟨z7, y7, wr7⟩
      · skip
        refine lv_istore_n (lv' := [(2, .int v7), (1, .int v2), (0, .ref a0)]) hx hb dX12_readSees_26 rfl hl (by decide) rfl (fun ls hl => ?_)
        refine lv_iload_n hx hb dX12_readSees_27 rfl (lv_at hl 0 rfl) ?_
        refine lv_if_lt (tgt := 47) hx hb dX12_readSees_28 (by decide) (fun c8 => ?_) (fun c8 => ?_)
        · have b8 : v7.toInt < (0 : Int32).toInt := i_lt.mp c8
          exact absurd b8 (by omega)
        · have b8 : ¬ v7.toInt < (0 : Int32).toInt := fun z9 => c8 (i_lt.mpr z9)
          refine lv_aload_n hx hb dX12_readSees_31 rfl (lv_at hl 2 rfl) ?_
          refine q_gr (T := TX12) C S7.1 ga0 1 kF_X12_13 dX12_readSees_32 rfl rfl (by decide) rfl (by decide) rfl (fun g9 => ?_)
          refine lv_iload_n hx hb dX12_readSees_35 rfl (lv_at hl 0 rfl) ?_
          refine lv_iconst (v := 3) hx hb dX12_readSees_36 (by decide) ?_
          have k_3 : (3 : Int32).toInt = 3 := by decide
          refine callS_Pi C S7.1 S7.2.1.2.1 (c_X12_houseAt l D G v7 (3 : Int32) (by omega) (by omega)) kS_X12_49 (trivial) dX12_readSees_37 hl.1 cd_X12_houseAt ⟨Nat.le_of_ble_eq_true rfl, Nat.le_of_ble_eq_true rfl, Nat.le_of_ble_eq_true rfl, Nat.le_of_ble_eq_true rfl, Nat.le_of_ble_eq_true rfl⟩ (fun v10 q10 => ?_)
          refine lv_dup2_11 hx hb dX12_readSees_40 rfl rfl ?_
          have n11 : aN H7 (fR D H7 11 a0 1) = 2052 := len_31 S7.1 g9
          refine q_iald C S7.1 g9 (by omega) (by omega) dX12_readSees_41 rfl (by decide) ?_
          refine lv_topi (fun v12 ev12 => ?_)
          refine lv_iconst (v := 1) hx hb dX12_readSees_42 (by decide) ?_
          refine lv_iload_n hx hb dX12_readSees_43 rfl (lv_at hl 1 rfl) ?_
          refine lv_ishl hx hb dX12_readSees_44 ?_
          refine lv_topi (fun v13 ev13 => ?_)
          refine lv_ior hx hb dX12_readSees_45 ?_
          refine lv_topi (fun v14 ev14 => ?_)
          refine q_iast C S7 g9 (by omega) (by omega) dX12_readSees_46 rfl (by decide) (by decide +kernel) (fun _ _ h => wk_low _ _ (by omega) (fun h9 => by omega) (fun h9 => by omega) (fun h9 => by omega) (fun j hj h9 => by omega) h) (fun H15 L15 S15 P15 => ?_) (hs := fun _ => Or.inr (vy_no (by omega) (by omega) (by omega) (by omega) (fun h9 hh9 => by omega) (fun j9 hj9 => by omega)))
          have rb15 := ts7.cells S7.1 ga0 g9 (by decide) (by decide) P15.2.2.1
          have bg15 : (fI D H15 11 a0 12).toInt = (((nx T (nx T b)) : Nat) : Int) := by rw [Pa.f P15 (ne_role ga0 g9 (by decide))]; exact bg7
          have mv15 := mv7.asto S7.1 ga0 rfl P15 (vy_no (by omega) (by omega) (by omega) (by omega) (fun h9 hh9 => by omega) (fun j9 hj9 => by omega))
          refine lv_iload_n hx hb dX12_readSees_47 rfl (lv_at hl 0 rfl) ?_
          refine lv_if_lt (tgt := 55) hx hb dX12_readSees_48 (by decide) (fun c16 => ?_) (fun c16 => ?_)
          · have b16 : v7.toInt < (0 : Int32).toInt := i_lt.mp c16
            exact absurd b16 (by omega)
          · have b16 : ¬ v7.toInt < (0 : Int32).toInt := fun z9 => c16 (i_lt.mpr z9)
            refine lv_iconst (v := 1) hx hb dX12_readSees_51 (by decide) ?_
            refine lv_goto (tgt := 56) hx hb dX12_readSees_52 (by decide) ?_
            exact retE_z hQ C S15 hr dX12_readSees_56 (z01 (by omega) (by omega)) (⟨by omega, RRP.ok (s1 := sg) (by simp [seeF, y2, y7]) (by omega) rb15 (mv15) (PV.seeF9 pv0)⟩)
      · skip
        refine lv_istore_n (lv' := [(2, .int v7), (1, .int v2), (0, .ref a0)]) hx hb dX12_readSees_26 rfl hl (by decide) rfl (fun ls hl => ?_)
        refine lv_iload_n hx hb dX12_readSees_27 rfl (lv_at hl 0 rfl) ?_
        refine lv_if_lt (tgt := 47) hx hb dX12_readSees_28 (by decide) (fun c17 => ?_) (fun c17 => ?_)
        · have b17 : v7.toInt < (0 : Int32).toInt := i_lt.mp c17
          refine lv_iload_n hx hb dX12_readSees_47 rfl (lv_at hl 0 rfl) ?_
          refine lv_if_lt (tgt := 55) hx hb dX12_readSees_48 (by decide) (fun c18 => ?_) (fun c18 => ?_)
          · have b18 : v7.toInt < (0 : Int32).toInt := i_lt.mp c18
            refine lv_iconst (v := 0) hx hb dX12_readSees_55 (by decide) ?_
            exact retE_z hQ C S7 hr dX12_readSees_56 (z01 (by omega) (by omega)) (⟨by omega, RRP.no (s1 := sg) (by simp [seeF, y2, y7]) (by omega) wr7⟩)
          · have b18 : ¬ v7.toInt < (0 : Int32).toInt := fun z9 => c18 (i_lt.mpr z9)
            exact absurd b18 (by omega)
        · have b17 : ¬ v7.toInt < (0 : Int32).toInt := fun z9 => c17 (i_lt.mpr z9)
          exact absurd b17 (by omega)
    · have b3 : ¬ (0 : Int32).toInt ≤ v2.toInt := fun z9 => c3 (i_le.mpr z9)
      exact absurd b3 (by omega)
  · skip
    refine lv_istore_n (lv' := [(1, .int v2), (0, .ref a0)]) hx hb dX12_readSees_6 rfl hl (by decide) rfl (fun ls hl => ?_)
    refine lv_iload_n hx hb dX12_readSees_7 rfl (lv_at hl 0 rfl) ?_
    refine lv_if_ge (tgt := 15) hx hb dX12_readSees_8 (by decide) (fun c19 => ?_) (fun c19 => ?_)
    · have b19 : (0 : Int32).toInt ≤ v2.toInt := i_le.mp c19
      exact absurd b19 (by omega)
    · have b19 : ¬ (0 : Int32).toInt ≤ v2.toInt := fun z9 => c19 (i_le.mpr z9)
      refine lv_iconst (v := -1) hx hb dX12_readSees_11 (by decide) ?_
      refine lv_goto (tgt := 26) hx hb dX12_readSees_12 (by decide) ?_
      refine lv_istore_n (lv' := [(2, .int (-1 : Int32)), (1, .int v2), (0, .ref a0)]) hx hb dX12_readSees_26 rfl hl (by decide) rfl (fun ls hl => ?_)
      refine lv_iload_n hx hb dX12_readSees_27 rfl (lv_at hl 0 rfl) ?_
      have k_m1 : (-1 : Int32).toInt = -1 := by decide
      refine lv_if_lt (tgt := 47) hx hb dX12_readSees_28 (by decide) (fun c20 => ?_) (fun c20 => ?_)
      · have b20 : (-1 : Int32).toInt < (0 : Int32).toInt := i_lt.mp c20
        refine lv_iload_n hx hb dX12_readSees_47 rfl (lv_at hl 0 rfl) ?_
        refine lv_if_lt (tgt := 55) hx hb dX12_readSees_48 (by decide) (fun c21 => ?_) (fun c21 => ?_)
        · have b21 : (-1 : Int32).toInt < (0 : Int32).toInt := i_lt.mp c21
          refine lv_iconst (v := 0) hx hb dX12_readSees_55 (by decide) ?_
          exact retE_z hQ C S2 hr dX12_readSees_56 (z01 (by omega) (by omega)) (⟨by omega, RRP.no (s1 := sg) (by simp [seeF, y2]) (by omega) wr2⟩)
        · have b21 : ¬ (-1 : Int32).toInt < (0 : Int32).toInt := fun z9 => c21 (i_lt.mpr z9)
          exact absurd b21 (by omega)
      · have b20 : ¬ (-1 : Int32).toInt < (0 : Int32).toInt := fun z9 => c20 (i_lt.mpr z9)
        exact absurd b20 (by omega)
