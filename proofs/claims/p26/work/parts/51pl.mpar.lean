set_option maxRecDepth 100000 in
set_option maxHeartbeats 4000000 in
theorem c_X12_readParishLine_f (l : Launch) (D : DD) (G : Nat → Nat) (a0 : Nat) (sg : Sg) (T : Tx) (b : Nat) (ga0 : G a0 = 30) : CE l D G yX12_readParishLine cX12_readParishLine 1 (some .boolean) 7 [.ref a0] (fun H => (True) ∧ (LB D H a0 T b ∧ MV D H a0 sg ∧ PV sg)) [(30, 10), (30, 12), (31, 0), (31, 1)] (xI (fun H r H1 => (0 ≤ r.toInt ∧ r.toInt ≤ 1) ∧ (RRP D H1 a0 T (plnF T sg b) r))) := by
  refine enter (by decide) (Nat.le_of_ble_eq_true rfl) ?_
  intro p e s m args below meth c ls Q hA hQ C hr hO hpre hl
  have hx := C.1
  have hb := C.2.1
  have S : Sd D G [(30, 10), (30, 12), (31, 0), (31, 1)] s.heap s.heap [] := Sd.start hO
  have hl : lv_has ls 1 [(0, .ref a0)] := hl
  obtain ⟨hpre, hf⟩ := hpre
  obtain ⟨ts0, mv0, pv0⟩ := hf
  have hT : T.2 ≤ 400 := ts0.le hO ga0
  refine lv_aload_n hx hb dX12_readParishLine_0 rfl (lv_at hl 0 rfl) ?_
  refine q_lds C ks_X12_153 dX12_readParishLine_1 (fun a1 ha1 wa1 => ?_)
  refine callV_Pi C S.1 S.2.1.2.1 (c_X12_isWord_f l D G a0 a1 5 w_house T b ga0 ha1 (Wc.of wa1 kw_house) (by decide)) kV_X12_105 ga0 (⟨trivial, ts0⟩) dX12_readParishLine_3 hl.1 rfl rfl (by decide) cd_X12_isWord ⟨Nat.le_of_ble_eq_true rfl, Nat.le_of_ble_eq_true rfl, Nat.le_of_ble_eq_true rfl, Nat.le_of_ble_eq_true rfl, Nat.le_of_ble_eq_true rfl⟩ (fun v2 q2 => ?_)
  obtain ⟨q2, fq2⟩ := q2
  rcases fq2 with ⟨z2, y2⟩ | ⟨z2, y2⟩
  · skip
    have k_0 : (0 : Int32).toInt = 0 := by decide
    refine lv_if_eq (tgt := 14) hx hb dX12_readParishLine_6 (by decide) (fun c3 => ?_) (fun c3 => ?_)
    · have b3 : v2.toInt = (0 : Int32).toInt := i_eq.mp c3
      exact absurd b3 (by omega)
    · have b3 : ¬ v2.toInt = (0 : Int32).toInt := fun z9 => c3 (i_eq.mpr z9)
      refine lv_aload_n hx hb dX12_readParishLine_9 rfl (lv_at hl 0 rfl) ?_
      refine callV_Ei C S (c_X12_readHouse_f l D G a0 sg T b ga0 y2) kV_X12_155 ga0 (⟨trivial, ts0, mv0, pv0⟩) (by decide +kernel) dX12_readParishLine_10 hl.1 rfl rfl (by decide) cd_X12_readHouse ⟨Nat.le_of_ble_eq_true rfl, Nat.le_of_ble_eq_true rfl, Nat.le_of_ble_eq_true rfl, Nat.le_of_ble_eq_true rfl, Nat.le_of_ble_eq_true rfl⟩ (fun v4 H4 L4 S4 K4 q4 => ?_)
      obtain ⟨q4, fq4⟩ := q4
      rcases fq4 with ⟨c4, s4, y4, z4, ts4, dv4, pv4⟩ | ⟨e4, s4, y4, z4, wr4⟩
      · skip
        exact retE_z hQ C S4 hr dX12_readParishLine_13 (z01 (by omega) (by omega)) (⟨by omega, RRP.ok (s1 := s4) (by simp [plnF, y2, y4]) (by omega) ts4 (dv4) (fun _ => pv4)⟩)
      · skip
        exact retE_z hQ C S4 hr dX12_readParishLine_13 (z01 (by omega) (by omega)) (⟨by omega, RRP.no (s1 := s4) (by simp [plnF, y2, y4]) (by omega) wr4⟩)
  · skip
    have k_0 : (0 : Int32).toInt = 0 := by decide
    refine lv_if_eq (tgt := 14) hx hb dX12_readParishLine_6 (by decide) (fun c5 => ?_) (fun c5 => ?_)
    · have b5 : v2.toInt = (0 : Int32).toInt := i_eq.mp c5
      refine lv_aload_n hx hb dX12_readParishLine_14 rfl (lv_at hl 0 rfl) ?_
      refine q_lds C ks_X12_159 dX12_readParishLine_15 (fun a6 ha6 wa6 => ?_)
      refine callV_Pi C S.1 S.2.1.2.1 (c_X12_isWord_f l D G a0 a6 4 w_sees T b ga0 ha6 (Wc.of wa6 kw_sees) (by decide)) kV_X12_105 ga0 (⟨trivial, ts0⟩) dX12_readParishLine_17 hl.1 rfl rfl (by decide) cd_X12_isWord ⟨Nat.le_of_ble_eq_true rfl, Nat.le_of_ble_eq_true rfl, Nat.le_of_ble_eq_true rfl, Nat.le_of_ble_eq_true rfl, Nat.le_of_ble_eq_true rfl⟩ (fun v7 q7 => ?_)
      obtain ⟨q7, fq7⟩ := q7
      rcases fq7 with ⟨z7, y7⟩ | ⟨z7, y7⟩
      · skip
        refine lv_if_eq (tgt := 28) hx hb dX12_readParishLine_20 (by decide) (fun c8 => ?_) (fun c8 => ?_)
        · have b8 : v7.toInt = (0 : Int32).toInt := i_eq.mp c8
          exact absurd b8 (by omega)
        · have b8 : ¬ v7.toInt = (0 : Int32).toInt := fun z9 => c8 (i_eq.mpr z9)
          refine lv_aload_n hx hb dX12_readParishLine_23 rfl (lv_at hl 0 rfl) ?_
          refine callV_Ei C S (c_X12_readSees_f l D G a0 sg T b ga0 y7) kV_X12_161 ga0 (⟨trivial, ts0, mv0, pv0⟩) (by decide +kernel) dX12_readParishLine_24 hl.1 rfl rfl (by decide) cd_X12_readSees ⟨Nat.le_of_ble_eq_true rfl, Nat.le_of_ble_eq_true rfl, Nat.le_of_ble_eq_true rfl, Nat.le_of_ble_eq_true rfl, Nat.le_of_ble_eq_true rfl⟩ (fun v9 H9 L9 S9 K9 q9 => ?_)
          obtain ⟨q9, fq9⟩ := q9
          rcases fq9 with ⟨c9, s9, y9, z9, ts9, dv9, pv9⟩ | ⟨e9, s9, y9, z9, wr9⟩
          · skip
            exact retE_z hQ C S9 hr dX12_readParishLine_27 (z01 (by omega) (by omega)) (⟨by omega, RRP.ok (s1 := s9) (by simp [plnF, y2, y7, y9]) (by omega) ts9 (dv9) (fun _ => pv9)⟩)
          · skip
            exact retE_z hQ C S9 hr dX12_readParishLine_27 (z01 (by omega) (by omega)) (⟨by omega, RRP.no (s1 := s9) (by simp [plnF, y2, y7, y9]) (by omega) wr9⟩)
      · skip
        refine lv_if_eq (tgt := 28) hx hb dX12_readParishLine_20 (by decide) (fun c10 => ?_) (fun c10 => ?_)
        · have b10 : v7.toInt = (0 : Int32).toInt := i_eq.mp c10
          refine lv_aload_n hx hb dX12_readParishLine_28 rfl (lv_at hl 0 rfl) ?_
          refine q_lds C ks_X12_164 dX12_readParishLine_29 (fun a11 ha11 wa11 => ?_)
          refine callV_Pi C S.1 S.2.1.2.1 (c_X12_isWord_f l D G a0 a11 6 w_hearth T b ga0 ha11 (Wc.of wa11 kw_hearth) (by decide)) kV_X12_105 ga0 (⟨trivial, ts0⟩) dX12_readParishLine_31 hl.1 rfl rfl (by decide) cd_X12_isWord ⟨Nat.le_of_ble_eq_true rfl, Nat.le_of_ble_eq_true rfl, Nat.le_of_ble_eq_true rfl, Nat.le_of_ble_eq_true rfl, Nat.le_of_ble_eq_true rfl⟩ (fun v12 q12 => ?_)
          obtain ⟨q12, fq12⟩ := q12
          rcases fq12 with ⟨z12, y12⟩ | ⟨z12, y12⟩
          · skip
            refine lv_if_eq (tgt := 42) hx hb dX12_readParishLine_34 (by decide) (fun c13 => ?_) (fun c13 => ?_)
            · have b13 : v12.toInt = (0 : Int32).toInt := i_eq.mp c13
              exact absurd b13 (by omega)
            · have b13 : ¬ v12.toInt = (0 : Int32).toInt := fun z9 => c13 (i_eq.mpr z9)
              refine lv_aload_n hx hb dX12_readParishLine_37 rfl (lv_at hl 0 rfl) ?_
              refine callV_Ei C S (c_X12_readHearth_f l D G a0 sg T b ga0 y12) kV_X12_166 ga0 (⟨trivial, ts0, mv0, pv0⟩) (by decide +kernel) dX12_readParishLine_38 hl.1 rfl rfl (by decide) cd_X12_readHearth ⟨Nat.le_of_ble_eq_true rfl, Nat.le_of_ble_eq_true rfl, Nat.le_of_ble_eq_true rfl, Nat.le_of_ble_eq_true rfl, Nat.le_of_ble_eq_true rfl⟩ (fun v14 H14 L14 S14 K14 q14 => ?_)
              obtain ⟨q14, fq14⟩ := q14
              rcases fq14 with ⟨c14, s14, y14, z14, ts14, dv14, pv14⟩ | ⟨e14, s14, y14, z14, wr14⟩
              · skip
                exact retE_z hQ C S14 hr dX12_readParishLine_41 (z01 (by omega) (by omega)) (⟨by omega, RRP.ok (s1 := s14) (by simp [plnF, y2, y7, y12, y14]) (by omega) ts14 (dv14) (fun _ => pv14)⟩)
              · skip
                exact retE_z hQ C S14 hr dX12_readParishLine_41 (z01 (by omega) (by omega)) (⟨by omega, RRP.no (s1 := s14) (by simp [plnF, y2, y7, y12, y14]) (by omega) wr14⟩)
          · skip
            refine lv_if_eq (tgt := 42) hx hb dX12_readParishLine_34 (by decide) (fun c15 => ?_) (fun c15 => ?_)
            · have b15 : v12.toInt = (0 : Int32).toInt := i_eq.mp c15
              refine lv_aload_n hx hb dX12_readParishLine_42 rfl (lv_at hl 0 rfl) ?_
              refine q_lds C ks_X12_169 dX12_readParishLine_43 (fun a16 ha16 wa16 => ?_)
              refine callV_Pi C S.1 S.2.1.2.1 (c_X12_isWord_f l D G a0 a16 4 w_rate T b ga0 ha16 (Wc.of wa16 kw_rate) (by decide)) kV_X12_105 ga0 (⟨trivial, ts0⟩) dX12_readParishLine_45 hl.1 rfl rfl (by decide) cd_X12_isWord ⟨Nat.le_of_ble_eq_true rfl, Nat.le_of_ble_eq_true rfl, Nat.le_of_ble_eq_true rfl, Nat.le_of_ble_eq_true rfl, Nat.le_of_ble_eq_true rfl⟩ (fun v17 q17 => ?_)
              obtain ⟨q17, fq17⟩ := q17
              rcases fq17 with ⟨z17, y17⟩ | ⟨z17, y17⟩
              · skip
                refine lv_if_eq (tgt := 60) hx hb dX12_readParishLine_48 (by decide) (fun c18 => ?_) (fun c18 => ?_)
                · have b18 : v17.toInt = (0 : Int32).toInt := i_eq.mp c18
                  exact absurd b18 (by omega)
                · have b18 : ¬ v17.toInt = (0 : Int32).toInt := fun z9 => c18 (i_eq.mpr z9)
                  refine lv_aload_n hx hb dX12_readParishLine_51 rfl (lv_at hl 0 rfl) ?_
                  refine lv_iconst (v := 5) hx hb dX12_readParishLine_52 (by decide) ?_
                  refine lv_iconst (v := 0) hx hb dX12_readParishLine_53 (by decide) ?_
                  refine lv_bipush (v := 20) hx hb dX12_readParishLine_54 (by decide) ?_
                  have rb19 := ts0.rb1 (isW_k y17)
                  have k_5 : (5 : Int32).toInt = 5 := by decide
                  have k_20 : (20 : Int32).toInt = 20 := by decide
                  refine callV_Ei C S (c_X12_readNumber_f l D G a0 (5 : Int32) (0 : Int32) (20 : Int32) 20 5 sg T (nx T b) ga0 (by omega) (by omega) (by omega) (by omega) (by omega) (by omega)) kV_X12_171 ga0 (⟨trivial, rb19, mv0, pv0⟩) (by decide +kernel) dX12_readParishLine_56 hl.1 rfl rfl (by decide) cd_X12_readNumber ⟨Nat.le_of_ble_eq_true rfl, Nat.le_of_ble_eq_true rfl, Nat.le_of_ble_eq_true rfl, Nat.le_of_ble_eq_true rfl, Nat.le_of_ble_eq_true rfl⟩ (fun v20 H20 L20 S20 K20 q20 => ?_)
                  obtain ⟨q20, fq20⟩ := q20
                  rcases fq20 with ⟨c20, s20, y20, z20, ts20, dv20, pv20⟩ | ⟨e20, s20, y20, z20, wr20⟩
                  · skip
                    exact retE_z hQ C S20 hr dX12_readParishLine_59 (z01 (by omega) (by omega)) (⟨by omega, RRP.ok (s1 := s20) (by simp [plnF, setF_5, y2, y7, y12, y17, y20]) (by omega) ts20 (dv20) (fun _ => pv20)⟩)
                  · skip
                    exact retE_z hQ C S20 hr dX12_readParishLine_59 (z01 (by omega) (by omega)) (⟨by omega, RRP.no (s1 := s20) (by simp [plnF, setF_5, y2, y7, y12, y17, y20]) (by omega) wr20⟩)
              · skip
                refine lv_if_eq (tgt := 60) hx hb dX12_readParishLine_48 (by decide) (fun c21 => ?_) (fun c21 => ?_)
                · have b21 : v17.toInt = (0 : Int32).toInt := i_eq.mp c21
                  refine lv_aload_n hx hb dX12_readParishLine_60 rfl (lv_at hl 0 rfl) ?_
                  refine q_lds C ks_X12_174 dX12_readParishLine_61 (fun a22 ha22 wa22 => ?_)
                  refine callV_Pi C S.1 S.2.1.2.1 (c_X12_isWord_f l D G a0 a22 4 w_fine T b ga0 ha22 (Wc.of wa22 kw_fine) (by decide)) kV_X12_105 ga0 (⟨trivial, ts0⟩) dX12_readParishLine_63 hl.1 rfl rfl (by decide) cd_X12_isWord ⟨Nat.le_of_ble_eq_true rfl, Nat.le_of_ble_eq_true rfl, Nat.le_of_ble_eq_true rfl, Nat.le_of_ble_eq_true rfl, Nat.le_of_ble_eq_true rfl⟩ (fun v23 q23 => ?_)
                  obtain ⟨q23, fq23⟩ := q23
                  rcases fq23 with ⟨z23, y23⟩ | ⟨z23, y23⟩
                  · skip
                    refine lv_if_eq (tgt := 79) hx hb dX12_readParishLine_66 (by decide) (fun c24 => ?_) (fun c24 => ?_)
                    · have b24 : v23.toInt = (0 : Int32).toInt := i_eq.mp c24
                      exact absurd b24 (by omega)
                    · have b24 : ¬ v23.toInt = (0 : Int32).toInt := fun z9 => c24 (i_eq.mpr z9)
                      refine lv_aload_n hx hb dX12_readParishLine_69 rfl (lv_at hl 0 rfl) ?_
                      refine lv_bipush (v := 6) hx hb dX12_readParishLine_70 (by decide) ?_
                      refine lv_iconst (v := 0) hx hb dX12_readParishLine_72 (by decide) ?_
                      refine lv_bipush (v := 50) hx hb dX12_readParishLine_73 (by decide) ?_
                      have rb25 := ts0.rb1 (isW_k y23)
                      have k_6 : (6 : Int32).toInt = 6 := by decide
                      have k_50 : (50 : Int32).toInt = 50 := by decide
                      refine callV_Ei C S (c_X12_readNumber_f l D G a0 (6 : Int32) (0 : Int32) (50 : Int32) 50 6 sg T (nx T b) ga0 (by omega) (by omega) (by omega) (by omega) (by omega) (by omega)) kV_X12_171 ga0 (⟨trivial, rb25, mv0, pv0⟩) (by decide +kernel) dX12_readParishLine_75 hl.1 rfl rfl (by decide) cd_X12_readNumber ⟨Nat.le_of_ble_eq_true rfl, Nat.le_of_ble_eq_true rfl, Nat.le_of_ble_eq_true rfl, Nat.le_of_ble_eq_true rfl, Nat.le_of_ble_eq_true rfl⟩ (fun v26 H26 L26 S26 K26 q26 => ?_)
                      obtain ⟨q26, fq26⟩ := q26
                      rcases fq26 with ⟨c26, s26, y26, z26, ts26, dv26, pv26⟩ | ⟨e26, s26, y26, z26, wr26⟩
                      · skip
                        exact retE_z hQ C S26 hr dX12_readParishLine_78 (z01 (by omega) (by omega)) (⟨by omega, RRP.ok (s1 := s26) (by simp [plnF, setF_6, y2, y7, y12, y17, y23, y26]) (by omega) ts26 (dv26) (fun _ => pv26)⟩)
                      · skip
                        exact retE_z hQ C S26 hr dX12_readParishLine_78 (z01 (by omega) (by omega)) (⟨by omega, RRP.no (s1 := s26) (by simp [plnF, setF_6, y2, y7, y12, y17, y23, y26]) (by omega) wr26⟩)
                  · skip
                    refine lv_if_eq (tgt := 79) hx hb dX12_readParishLine_66 (by decide) (fun c27 => ?_) (fun c27 => ?_)
                    · have b27 : v23.toInt = (0 : Int32).toInt := i_eq.mp c27
                      refine lv_aload_n hx hb dX12_readParishLine_79 rfl (lv_at hl 0 rfl) ?_
                      refine q_lds C ks_X12_176 dX12_readParishLine_80 (fun a28 ha28 wa28 => ?_)
                      refine callV_Pi C S.1 S.2.1.2.1 (c_X12_isWord_f l D G a0 a28 5 w_visit T b ga0 ha28 (Wc.of wa28 kw_visit) (by decide)) kV_X12_105 ga0 (⟨trivial, ts0⟩) dX12_readParishLine_82 hl.1 rfl rfl (by decide) cd_X12_isWord ⟨Nat.le_of_ble_eq_true rfl, Nat.le_of_ble_eq_true rfl, Nat.le_of_ble_eq_true rfl, Nat.le_of_ble_eq_true rfl, Nat.le_of_ble_eq_true rfl⟩ (fun v29 q29 => ?_)
                      obtain ⟨q29, fq29⟩ := q29
                      rcases fq29 with ⟨z29, y29⟩ | ⟨z29, y29⟩
                      · skip
                        refine lv_if_eq (tgt := 98) hx hb dX12_readParishLine_85 (by decide) (fun c30 => ?_) (fun c30 => ?_)
                        · have b30 : v29.toInt = (0 : Int32).toInt := i_eq.mp c30
                          exact absurd b30 (by omega)
                        · have b30 : ¬ v29.toInt = (0 : Int32).toInt := fun z9 => c30 (i_eq.mpr z9)
                          refine lv_aload_n hx hb dX12_readParishLine_88 rfl (lv_at hl 0 rfl) ?_
                          refine lv_bipush (v := 7) hx hb dX12_readParishLine_89 (by decide) ?_
                          refine lv_iconst (v := 0) hx hb dX12_readParishLine_91 (by decide) ?_
                          refine lv_bipush (v := 100) hx hb dX12_readParishLine_92 (by decide) ?_
                          have rb31 := ts0.rb1 (isW_k y29)
                          have k_7 : (7 : Int32).toInt = 7 := by decide
                          have k_100 : (100 : Int32).toInt = 100 := by decide
                          refine callV_Ei C S (c_X12_readNumber_f l D G a0 (7 : Int32) (0 : Int32) (100 : Int32) 100 7 sg T (nx T b) ga0 (by omega) (by omega) (by omega) (by omega) (by omega) (by omega)) kV_X12_171 ga0 (⟨trivial, rb31, mv0, pv0⟩) (by decide +kernel) dX12_readParishLine_94 hl.1 rfl rfl (by decide) cd_X12_readNumber ⟨Nat.le_of_ble_eq_true rfl, Nat.le_of_ble_eq_true rfl, Nat.le_of_ble_eq_true rfl, Nat.le_of_ble_eq_true rfl, Nat.le_of_ble_eq_true rfl⟩ (fun v32 H32 L32 S32 K32 q32 => ?_)
                          obtain ⟨q32, fq32⟩ := q32
                          rcases fq32 with ⟨c32, s32, y32, z32, ts32, dv32, pv32⟩ | ⟨e32, s32, y32, z32, wr32⟩
                          · skip
                            exact retE_z hQ C S32 hr dX12_readParishLine_97 (z01 (by omega) (by omega)) (⟨by omega, RRP.ok (s1 := s32) (by simp [plnF, setF_7, y2, y7, y12, y17, y23, y29, y32]) (by omega) ts32 (dv32) (fun _ => pv32)⟩)
                          · skip
                            exact retE_z hQ C S32 hr dX12_readParishLine_97 (z01 (by omega) (by omega)) (⟨by omega, RRP.no (s1 := s32) (by simp [plnF, setF_7, y2, y7, y12, y17, y23, y29, y32]) (by omega) wr32⟩)
                      · skip
                        refine lv_if_eq (tgt := 98) hx hb dX12_readParishLine_85 (by decide) (fun c33 => ?_) (fun c33 => ?_)
                        · have b33 : v29.toInt = (0 : Int32).toInt := i_eq.mp c33
                          refine lv_aload_n hx hb dX12_readParishLine_98 rfl (lv_at hl 0 rfl) ?_
                          refine q_lds C ks_X12_178 dX12_readParishLine_99 (fun a34 ha34 wa34 => ?_)
                          refine callV_Pi C S.1 S.2.1.2.1 (c_X12_isWord_f l D G a0 a34 3 w_bed T b ga0 ha34 (Wc.of wa34 kw_bed) (by decide)) kV_X12_105 ga0 (⟨trivial, ts0⟩) dX12_readParishLine_101 hl.1 rfl rfl (by decide) cd_X12_isWord ⟨Nat.le_of_ble_eq_true rfl, Nat.le_of_ble_eq_true rfl, Nat.le_of_ble_eq_true rfl, Nat.le_of_ble_eq_true rfl, Nat.le_of_ble_eq_true rfl⟩ (fun v35 q35 => ?_)
                          obtain ⟨q35, fq35⟩ := q35
                          rcases fq35 with ⟨z35, y35⟩ | ⟨z35, y35⟩
                          · skip
                            refine lv_if_eq (tgt := 117) hx hb dX12_readParishLine_104 (by decide) (fun c36 => ?_) (fun c36 => ?_)
                            · have b36 : v35.toInt = (0 : Int32).toInt := i_eq.mp c36
                              exact absurd b36 (by omega)
                            · have b36 : ¬ v35.toInt = (0 : Int32).toInt := fun z9 => c36 (i_eq.mpr z9)
                              refine lv_aload_n hx hb dX12_readParishLine_107 rfl (lv_at hl 0 rfl) ?_
                              refine lv_bipush (v := 8) hx hb dX12_readParishLine_108 (by decide) ?_
                              refine lv_iconst (v := 0) hx hb dX12_readParishLine_110 (by decide) ?_
                              refine lv_bipush (v := 20) hx hb dX12_readParishLine_111 (by decide) ?_
                              have rb37 := ts0.rb1 (isW_k y35)
                              have k_8 : (8 : Int32).toInt = 8 := by decide
                              have k_20 : (20 : Int32).toInt = 20 := by decide
                              refine callV_Ei C S (c_X12_readNumber_f l D G a0 (8 : Int32) (0 : Int32) (20 : Int32) 20 8 sg T (nx T b) ga0 (by omega) (by omega) (by omega) (by omega) (by omega) (by omega)) kV_X12_171 ga0 (⟨trivial, rb37, mv0, pv0⟩) (by decide +kernel) dX12_readParishLine_113 hl.1 rfl rfl (by decide) cd_X12_readNumber ⟨Nat.le_of_ble_eq_true rfl, Nat.le_of_ble_eq_true rfl, Nat.le_of_ble_eq_true rfl, Nat.le_of_ble_eq_true rfl, Nat.le_of_ble_eq_true rfl⟩ (fun v38 H38 L38 S38 K38 q38 => ?_)
                              obtain ⟨q38, fq38⟩ := q38
                              rcases fq38 with ⟨c38, s38, y38, z38, ts38, dv38, pv38⟩ | ⟨e38, s38, y38, z38, wr38⟩
                              · skip
                                exact retE_z hQ C S38 hr dX12_readParishLine_116 (z01 (by omega) (by omega)) (⟨by omega, RRP.ok (s1 := s38) (by simp [plnF, setF_8, y2, y7, y12, y17, y23, y29, y35, y38]) (by omega) ts38 (dv38) (fun _ => pv38)⟩)
                              · skip
                                exact retE_z hQ C S38 hr dX12_readParishLine_116 (z01 (by omega) (by omega)) (⟨by omega, RRP.no (s1 := s38) (by simp [plnF, setF_8, y2, y7, y12, y17, y23, y29, y35, y38]) (by omega) wr38⟩)
                          · skip
                            refine lv_if_eq (tgt := 117) hx hb dX12_readParishLine_104 (by decide) (fun c39 => ?_) (fun c39 => ?_)
                            · have b39 : v35.toInt = (0 : Int32).toInt := i_eq.mp c39
                              refine lv_aload_n hx hb dX12_readParishLine_117 rfl (lv_at hl 0 rfl) ?_
                              refine q_lds C ks_X12_180 dX12_readParishLine_118 (fun a40 ha40 wa40 => ?_)
                              refine callV_Pi C S.1 S.2.1.2.1 (c_X12_isWord_f l D G a0 a40 7 w_quarter T b ga0 ha40 (Wc.of wa40 kw_quarter) (by decide)) kV_X12_105 ga0 (⟨trivial, ts0⟩) dX12_readParishLine_120 hl.1 rfl rfl (by decide) cd_X12_isWord ⟨Nat.le_of_ble_eq_true rfl, Nat.le_of_ble_eq_true rfl, Nat.le_of_ble_eq_true rfl, Nat.le_of_ble_eq_true rfl, Nat.le_of_ble_eq_true rfl⟩ (fun v41 q41 => ?_)
                              obtain ⟨q41, fq41⟩ := q41
                              rcases fq41 with ⟨z41, y41⟩ | ⟨z41, y41⟩
                              · skip
                                refine lv_if_eq (tgt := 142) hx hb dX12_readParishLine_123 (by decide) (fun c42 => ?_) (fun c42 => ?_)
                                · have b42 : v41.toInt = (0 : Int32).toInt := i_eq.mp c42
                                  exact absurd b42 (by omega)
                                · have b42 : ¬ v41.toInt = (0 : Int32).toInt := fun z9 => c42 (i_eq.mpr z9)
                                  refine lv_aload_n hx hb dX12_readParishLine_126 rfl (lv_at hl 0 rfl) ?_
                                  refine lv_iconst (v := 4) hx hb dX12_readParishLine_127 (by decide) ?_
                                  refine lv_iconst (v := 0) hx hb dX12_readParishLine_128 (by decide) ?_
                                  refine lv_sipush (v := 999) hx hb dX12_readParishLine_129 (by decide) ?_
                                  have rb43 := ts0.rb1 (isW_k y41)
                                  have k_4 : (4 : Int32).toInt = 4 := by decide
                                  have k_999 : (999 : Int32).toInt = 999 := by decide
                                  refine callV_Ei C S (c_X12_readNumber_f l D G a0 (4 : Int32) (0 : Int32) (999 : Int32) 999 4 sg T (nx T b) ga0 (by omega) (by omega) (by omega) (by omega) (by omega) (by omega)) kV_X12_171 ga0 (⟨trivial, rb43, mv0, pv0⟩) (by decide +kernel) dX12_readParishLine_132 hl.1 rfl rfl (by decide) cd_X12_readNumber ⟨Nat.le_of_ble_eq_true rfl, Nat.le_of_ble_eq_true rfl, Nat.le_of_ble_eq_true rfl, Nat.le_of_ble_eq_true rfl, Nat.le_of_ble_eq_true rfl⟩ (fun v44 H44 L44 S44 K44 q44 => ?_)
                                  obtain ⟨q44, fq44⟩ := q44
                                  rcases fq44 with ⟨c44, s44, y44, z44, ts44, dv44, pv44⟩ | ⟨e44, s44, y44, z44, wr44⟩
                                  · skip
                                    refine lv_if_eq (tgt := 142) hx hb dX12_readParishLine_135 (by decide) (fun c45 => ?_) (fun c45 => ?_)
                                    · have b45 : v44.toInt = (0 : Int32).toInt := i_eq.mp c45
                                      exact absurd b45 (by omega)
                                    · have b45 : ¬ v44.toInt = (0 : Int32).toInt := fun z9 => c45 (i_eq.mpr z9)
                                      refine lv_iconst (v := 1) hx hb dX12_readParishLine_138 (by decide) ?_
                                      refine lv_goto (tgt := 143) hx hb dX12_readParishLine_139 (by decide) ?_
                                      have k_1 : (1 : Int32).toInt = 1 := by decide
                                      exact retE_z hQ C S44 hr dX12_readParishLine_143 (z01 (by omega) (by omega)) (⟨by omega, RRP.ok (s1 := s44) (by simp [plnF, setF_4, y2, y7, y12, y17, y23, y29, y35, y41, y44]) (by omega) ts44 (dv44) (fun _ => pv44)⟩)
                                  · skip
                                    refine lv_if_eq (tgt := 142) hx hb dX12_readParishLine_135 (by decide) (fun c46 => ?_) (fun c46 => ?_)
                                    · have b46 : v44.toInt = (0 : Int32).toInt := i_eq.mp c46
                                      refine lv_iconst (v := 0) hx hb dX12_readParishLine_142 (by decide) ?_
                                      exact retE_z hQ C S44 hr dX12_readParishLine_143 (z01 (by omega) (by omega)) (⟨by omega, RRP.no (s1 := s44) (by simp [plnF, setF_4, y2, y7, y12, y17, y23, y29, y35, y41, y44]) (by omega) wr44⟩)
                                    · have b46 : ¬ v44.toInt = (0 : Int32).toInt := fun z9 => c46 (i_eq.mpr z9)
                                      exact absurd b46 (by omega)
                              · skip
                                refine lv_if_eq (tgt := 142) hx hb dX12_readParishLine_123 (by decide) (fun c47 => ?_) (fun c47 => ?_)
                                · have b47 : v41.toInt = (0 : Int32).toInt := i_eq.mp c47
                                  refine lv_iconst (v := 0) hx hb dX12_readParishLine_142 (by decide) ?_
                                  exact retE_z hQ C S hr dX12_readParishLine_143 (z01 (by omega) (by omega)) (⟨by omega, RRP.no (s1 := sg) (by simp [plnF, setF_4, y2, y7, y12, y17, y23, y29, y35, y41]) (by omega) ts0.2.2.1⟩)
                                · have b47 : ¬ v41.toInt = (0 : Int32).toInt := fun z9 => c47 (i_eq.mpr z9)
                                  exact absurd b47 (by omega)
                            · have b39 : ¬ v35.toInt = (0 : Int32).toInt := fun z9 => c39 (i_eq.mpr z9)
                              exact absurd b39 (by omega)
                        · have b33 : ¬ v29.toInt = (0 : Int32).toInt := fun z9 => c33 (i_eq.mpr z9)
                          exact absurd b33 (by omega)
                    · have b27 : ¬ v23.toInt = (0 : Int32).toInt := fun z9 => c27 (i_eq.mpr z9)
                      exact absurd b27 (by omega)
                · have b21 : ¬ v17.toInt = (0 : Int32).toInt := fun z9 => c21 (i_eq.mpr z9)
                  exact absurd b21 (by omega)
            · have b15 : ¬ v12.toInt = (0 : Int32).toInt := fun z9 => c15 (i_eq.mpr z9)
              exact absurd b15 (by omega)
        · have b10 : ¬ v7.toInt = (0 : Int32).toInt := fun z9 => c10 (i_eq.mpr z9)
          exact absurd b10 (by omega)
    · have b5 : ¬ v2.toInt = (0 : Int32).toInt := fun z9 => c5 (i_eq.mpr z9)
      exact absurd b5 (by omega)
