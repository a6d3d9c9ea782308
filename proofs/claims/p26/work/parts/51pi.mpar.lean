set_option maxRecDepth 100000 in
set_option maxHeartbeats 4000000 in
theorem c_X12_readHouse_f (l : Launch) (D : DD) (G : Nat → Nat) (a0 : Nat) (sg : Sg) (T : Tx) (b : Nat) (ga0 : G a0 = 30) (hw0 : isW T b w_house = true) : CE l D G yX12_readHouse cX12_readHouse 6 (some .boolean) 6 [.ref a0] (fun H => (True) ∧ (LB D H a0 T b ∧ MV D H a0 sg ∧ PV sg)) [(30, 10), (30, 12), (31, 0), (31, 1)] (xI (fun H r H1 => (0 ≤ r.toInt ∧ r.toInt ≤ 1) ∧ (RRP D H1 a0 T (houF T sg b) r))) := by
  refine enter (by decide) (Nat.le_of_ble_eq_true rfl) ?_
  intro p e s m args below meth c ls Q hA hQ C hr hO hpre hl
  have hx := C.1
  have hb := C.2.1
  have S : Sd D G [(30, 10), (30, 12), (31, 0), (31, 1)] s.heap s.heap [] := Sd.start hO
  have hl : lv_has ls 6 [(0, .ref a0)] := hl
  obtain ⟨hpre, hf⟩ := hpre
  obtain ⟨ts0, mv0, pv0⟩ := hf
  have hT : T.2 ≤ 400 := ts0.le hO ga0
  have hs9 := mv_0 mv0
  refine lv_aload_n hx hb dX12_readHouse_0 rfl (lv_at hl 0 rfl) ?_
  refine callV_Pi C S.1 S.2.1.2.1 (c_X12_houses_v l D G a0 ga0) kV_X12_59 ga0 (trivial) dX12_readHouse_1 hl.1 rfl rfl (by decide) cd_X12_houses ⟨Nat.le_of_ble_eq_true rfl, Nat.le_of_ble_eq_true rfl, Nat.le_of_ble_eq_true rfl, Nat.le_of_ble_eq_true rfl, Nat.le_of_ble_eq_true rfl⟩ (fun v1 q1 => ?_)
  refine lv_istore_n (lv' := [(1, .int v1), (0, .ref a0)]) hx hb dX12_readHouse_4 rfl hl (by decide) rfl (fun ls hl => ?_)
  refine lv_iload_n hx hb dX12_readHouse_5 rfl (lv_at hl 0 rfl) ?_
  refine lv_bipush (v := 6) hx hb dX12_readHouse_6 (by decide) ?_
  have k_6 : (6 : Int32).toInt = 6 := by decide
  refine lv_icmp_ne (tgt := 13) hx hb dX12_readHouse_8 (by decide) (fun c2 => ?_) (fun c2 => ?_)
  · have b2 : ¬ v1.toInt = (6 : Int32).toInt := fun z9 => c2 (i_eq.mpr z9)
    have hc3 : ¬ sg 0 = 6 := by omega
    refine lv_aload_n hx hb dX12_readHouse_13 rfl (lv_at hl 1 rfl) ?_
    refine lv_iconst (v := 0) hx hb dX12_readHouse_14 (by decide) ?_
    refine lv_sipush (v := 999) hx hb dX12_readHouse_15 (by decide) ?_
    have rb4 := ts0.rb1 (isW_k hw0)
    have k_0 : (0 : Int32).toInt = 0 := by decide
    have k_999 : (999 : Int32).toInt = 999 := by decide
    refine callV_Ei C S (c_X12_number_f l D G a0 (0 : Int32) (999 : Int32) 0 999 T (nx T b) ga0 (by omega) (by omega) (by omega) (by omega)) kV_X12_109 ga0 (⟨trivial, rb4⟩) (by decide +kernel) dX12_readHouse_18 hl.1 rfl rfl (by decide) cd_X12_number ⟨Nat.le_of_ble_eq_true rfl, Nat.le_of_ble_eq_true rfl, Nat.le_of_ble_eq_true rfl, Nat.le_of_ble_eq_true rfl, Nat.le_of_ble_eq_true rfl⟩ (fun v5 H5 L5 S5 K5 q5 => ?_)
    obtain ⟨q5, fq5⟩ := q5
    have mv5 := mv0.keep S.1 ga0 K5 (by decide +kernel) (by decide +kernel)
    rcases fq5 with ⟨z5, y5, ts5, bg5⟩ | ⟨z5, y5, wr5⟩
    · skip
      refine lv_istore_n (lv' := [(2, .int v5), (1, .int v1), (0, .ref a0)]) hx hb dX12_readHouse_21 rfl hl (by decide) rfl (fun ls hl => ?_)
      refine lv_iload_n hx hb dX12_readHouse_22 rfl (lv_at hl 0 rfl) ?_
      refine lv_if_ge (tgt := 30) hx hb dX12_readHouse_23 (by decide) (fun c6 => ?_) (fun c6 => ?_)
      · have b6 : (0 : Int32).toInt ≤ v5.toInt := i_le.mp c6
        refine lv_aload_n hx hb dX12_readHouse_30 rfl (lv_at hl 2 rfl) ?_
        refine q_lds C ks_X12_112 dX12_readHouse_31 (fun a7 ha7 wa7 => ?_)
        refine lv_iconst (v := 0) hx hb dX12_readHouse_33 (by decide) ?_
        refine lv_bipush (v := 30) hx hb dX12_readHouse_34 (by decide) ?_
        have k_30 : (30 : Int32).toInt = 30 := by decide
        refine callV_Ei C S5 (c_X12_after_f l D G a0 a7 7 (0 : Int32) (30 : Int32) w_windows 0 30 T (nx T (nx T b)) ga0 ha7 (by omega) (Wc.of wa7 kw_windows) (by decide) (by omega) (by omega) (by omega)) kV_X12_114 ga0 (⟨trivial, ts5⟩) (by decide +kernel) dX12_readHouse_36 hl.1 rfl rfl (by decide) cd_X12_after ⟨Nat.le_of_ble_eq_true rfl, Nat.le_of_ble_eq_true rfl, Nat.le_of_ble_eq_true rfl, Nat.le_of_ble_eq_true rfl, Nat.le_of_ble_eq_true rfl⟩ (fun v8 H8 L8 S8 K8 q8 => ?_)
        obtain ⟨q8, fq8⟩ := q8
        have mv8 := mv5.keep S5.1 ga0 K8 (by decide +kernel) (by decide +kernel)
        rcases fq8 with ⟨w8, y8, z8, ts8, bg8⟩ | ⟨w8, y8, z8, wr8⟩ | ⟨w8, z8, wr8⟩
        · clear q8
          have u8 : 0 ≤ v8.toInt ∧ v8.toInt ≤ 30 := by have z9 := num_r (T := T) (b := nx T (nx T (nx T b))) (lo := 0) (hi := 30) (by decide); omega
          refine lv_istore_n (lv' := [(3, .int v8), (2, .int v5), (1, .int v1), (0, .ref a0)]) hx hb dX12_readHouse_39 rfl hl (by decide) rfl (fun ls hl => ?_)
          refine lv_iload_n hx hb dX12_readHouse_40 rfl (lv_at hl 0 rfl) ?_
          refine lv_if_ge (tgt := 46) hx hb dX12_readHouse_41 (by decide) (fun c9 => ?_) (fun c9 => ?_)
          · have b9 : (0 : Int32).toInt ≤ v8.toInt := i_le.mp c9
            refine lv_aload_n hx hb dX12_readHouse_46 rfl (lv_at hl 3 rfl) ?_
            refine q_lds C ks_X12_118 dX12_readHouse_47 (fun a10 ha10 wa10 => ?_)
            refine callV_Ei C S8 (c_X12_passes_f l D G a0 a10 5 w_paper T (nx T (nx T (nx T (nx T b)))) ga0 ha10 (Wc.of wa10 kw_paper) (by decide)) kV_X12_120 ga0 (⟨trivial, ts8⟩) (by decide +kernel) dX12_readHouse_49 hl.1 rfl rfl (by decide) cd_X12_passes ⟨Nat.le_of_ble_eq_true rfl, Nat.le_of_ble_eq_true rfl, Nat.le_of_ble_eq_true rfl, Nat.le_of_ble_eq_true rfl, Nat.le_of_ble_eq_true rfl⟩ (fun v11 H11 L11 S11 K11 q11 => ?_)
            obtain ⟨q11, fq11⟩ := q11
            have mv11 := mv8.keep S8.1 ga0 K11 (by decide +kernel) (by decide +kernel)
            rcases fq11 with ⟨z11, y11, ts11, wr11⟩ | ⟨z11, y11, ts11, wr11⟩
            · skip
              refine lv_if_eq (tgt := 59) hx hb dX12_readHouse_52 (by decide) (fun c12 => ?_) (fun c12 => ?_)
              · have b12 : v11.toInt = (0 : Int32).toInt := i_eq.mp c12
                exact absurd b12 (by omega)
              · have b12 : ¬ v11.toInt = (0 : Int32).toInt := fun z9 => c12 (i_eq.mpr z9)
                refine lv_iconst (v := 1) hx hb dX12_readHouse_55 (by decide) ?_
                refine lv_goto (tgt := 60) hx hb dX12_readHouse_56 (by decide) ?_
                refine lv_istore (lv' := [(4, .int (1 : Int32)), (3, .int v8), (2, .int v5), (1, .int v1), (0, .ref a0)]) hx hb dX12_readHouse_60 hl (by decide) rfl (fun ls hl => ?_)
                refine lv_aload_n hx hb dX12_readHouse_62 rfl (lv_at hl 4 rfl) ?_
                refine q_lds C ks_X12_123 dX12_readHouse_63 (fun a13 ha13 wa13 => ?_)
                refine callV_Ei C S11 (c_X12_passes_f l D G a0 a13 5 w_tells T (nx T (nx T (nx T (nx T (nx T b))))) ga0 ha13 (Wc.of wa13 kw_tells) (by decide)) kV_X12_120 ga0 (⟨trivial, ts11⟩) (by decide +kernel) dX12_readHouse_65 hl.1 rfl rfl (by decide) cd_X12_passes ⟨Nat.le_of_ble_eq_true rfl, Nat.le_of_ble_eq_true rfl, Nat.le_of_ble_eq_true rfl, Nat.le_of_ble_eq_true rfl, Nat.le_of_ble_eq_true rfl⟩ (fun v14 H14 L14 S14 K14 q14 => ?_)
                obtain ⟨q14, fq14⟩ := q14
                have mv14 := mv11.keep S11.1 ga0 K14 (by decide +kernel) (by decide +kernel)
                rcases fq14 with ⟨z14, y14, ts14, wr14⟩ | ⟨z14, y14, ts14, wr14⟩
                · skip
                  refine lv_if_eq (tgt := 81) hx hb dX12_readHouse_68 (by decide) (fun c15 => ?_) (fun c15 => ?_)
                  · have b15 : v14.toInt = (0 : Int32).toInt := i_eq.mp c15
                    exact absurd b15 (by omega)
                  · have b15 : ¬ v14.toInt = (0 : Int32).toInt := fun z9 => c15 (i_eq.mpr z9)
                    refine lv_aload_n hx hb dX12_readHouse_71 rfl (lv_at hl 4 rfl) ?_
                    refine lv_iconst (v := 0) hx hb dX12_readHouse_72 (by decide) ?_
                    refine lv_bipush (v := 100) hx hb dX12_readHouse_73 (by decide) ?_
                    have k_100 : (100 : Int32).toInt = 100 := by decide
                    refine callV_Ei C S14 (c_X12_number_f l D G a0 (0 : Int32) (100 : Int32) 0 100 T (nx T (nx T (nx T (nx T (nx T (nx T b)))))) ga0 (by omega) (by omega) (by omega) (by omega)) kV_X12_109 ga0 (⟨trivial, ts14⟩) (by decide +kernel) dX12_readHouse_75 hl.1 rfl rfl (by decide) cd_X12_number ⟨Nat.le_of_ble_eq_true rfl, Nat.le_of_ble_eq_true rfl, Nat.le_of_ble_eq_true rfl, Nat.le_of_ble_eq_true rfl, Nat.le_of_ble_eq_true rfl⟩ (fun v16 H16 L16 S16 K16 q16 => ?_)
                    obtain ⟨q16, fq16⟩ := q16
                    have mv16 := mv14.keep S14.1 ga0 K16 (by decide +kernel) (by decide +kernel)
                    rcases fq16 with ⟨z16, y16, ts16, bg16⟩ | ⟨z16, y16, wr16⟩
                    · skip
                      refine lv_goto (tgt := 82) hx hb dX12_readHouse_78 (by decide) ?_
                      refine lv_istore (lv' := [(5, .int v16), (4, .int (1 : Int32)), (3, .int v8), (2, .int v5), (1, .int v1), (0, .ref a0)]) hx hb dX12_readHouse_82 hl (by decide) rfl (fun ls hl => ?_)
                      refine lv_iload hx hb dX12_readHouse_84 (lv_at hl 0 rfl) ?_
                      refine lv_if_ge (tgt := 91) hx hb dX12_readHouse_86 (by decide) (fun c17 => ?_) (fun c17 => ?_)
                      · have b17 : (0 : Int32).toInt ≤ v16.toInt := i_le.mp c17
                        refine lv_aload_n hx hb dX12_readHouse_91 rfl (lv_at hl 5 rfl) ?_
                        refine q_gr (T := TX12) C S16.1 ga0 1 kF_X12_13 dX12_readHouse_92 rfl rfl (by decide) rfl (by decide) rfl (fun g18 => ?_)
                        refine lv_iload_n hx hb dX12_readHouse_95 rfl (lv_at hl 4 rfl) ?_
                        refine lv_iconst (v := 0) hx hb dX12_readHouse_96 (by decide) ?_
                        refine callS_Pi C S16.1 S16.2.1.2.1 (c_X12_houseAt l D G v1 (0 : Int32) (by omega) (by omega)) kS_X12_49 (trivial) dX12_readHouse_97 hl.1 cd_X12_houseAt ⟨Nat.le_of_ble_eq_true rfl, Nat.le_of_ble_eq_true rfl, Nat.le_of_ble_eq_true rfl, Nat.le_of_ble_eq_true rfl, Nat.le_of_ble_eq_true rfl⟩ (fun v19 q19 => ?_)
                        refine lv_iload_n hx hb dX12_readHouse_100 rfl (lv_at hl 3 rfl) ?_
                        have n20 : aN H16 (fR D H16 11 a0 1) = 2052 := len_31 S16.1 g18
                        refine q_iast C S16 g18 (by omega) (by omega) dX12_readHouse_101 rfl (by decide) (by decide +kernel) (fun _ _ h => wk_low _ _ (by omega) (fun h9 => by omega) (fun h9 => by omega) (fun h9 => by omega) (fun j hj h9 => by omega) h) (fun H21 L21 S21 P21 => ?_) (hs := fun _ => Or.inl (by decide +kernel))
                        have rb21 := ts16.cells S16.1 ga0 g18 (by decide) (by decide) P21.2.2.1
                        have bg21 : (fI D H21 11 a0 12).toInt = (((nx T (nx T (nx T (nx T (nx T (nx T b)))))) : Nat) : Int) := by rw [Pa.f P21 (ne_role ga0 g18 (by decide))]; exact bg16
                        have mv21 := mv16.asto S16.1 ga0 rfl P21 (vy_no (by omega) (by omega) (by omega) (by omega) (fun h9 hh9 => by omega) (fun j9 hj9 => by omega))
                        refine lv_aload_n hx hb dX12_readHouse_102 rfl (lv_at hl 5 rfl) ?_
                        refine q_gr (T := TX12) C S21.1 ga0 1 kF_X12_13 dX12_readHouse_103 rfl rfl (by decide) rfl (by decide) rfl (fun g22 => ?_)
                        refine lv_iload_n hx hb dX12_readHouse_106 rfl (lv_at hl 4 rfl) ?_
                        refine lv_iconst (v := 1) hx hb dX12_readHouse_107 (by decide) ?_
                        have k_1 : (1 : Int32).toInt = 1 := by decide
                        refine callS_Pi C S21.1 S21.2.1.2.1 (c_X12_houseAt l D G v1 (1 : Int32) (by omega) (by omega)) kS_X12_49 (trivial) dX12_readHouse_108 hl.1 cd_X12_houseAt ⟨Nat.le_of_ble_eq_true rfl, Nat.le_of_ble_eq_true rfl, Nat.le_of_ble_eq_true rfl, Nat.le_of_ble_eq_true rfl, Nat.le_of_ble_eq_true rfl⟩ (fun v23 q23 => ?_)
                        refine lv_iload hx hb dX12_readHouse_111 (lv_at hl 1 rfl) ?_
                        have n24 : aN H21 (fR D H21 11 a0 1) = 2052 := len_31 S21.1 g22
                        refine q_iast C S21 g22 (by omega) (by omega) dX12_readHouse_113 rfl (by decide) (by decide +kernel) (fun _ _ h => wk_low _ _ (by omega) (fun h9 => by omega) (fun h9 => by omega) (fun h9 => by omega) (fun j hj h9 => by omega) h) (fun H25 L25 S25 P25 => ?_) (hs := fun _ => Or.inl (by decide +kernel))
                        have rb25 := rb21.cells S21.1 ga0 g22 (by decide) (by decide) P25.2.2.1
                        have bg25 : (fI D H25 11 a0 12).toInt = (((nx T (nx T (nx T (nx T (nx T (nx T b)))))) : Nat) : Int) := by rw [Pa.f P25 (ne_role ga0 g22 (by decide))]; exact bg21
                        have mv25 := mv21.asto S21.1 ga0 rfl P25 (vy_no (by omega) (by omega) (by omega) (by omega) (fun h9 hh9 => by omega) (fun j9 hj9 => by omega))
                        refine lv_aload_n hx hb dX12_readHouse_114 rfl (lv_at hl 5 rfl) ?_
                        refine q_gr (T := TX12) C S25.1 ga0 1 kF_X12_13 dX12_readHouse_115 rfl rfl (by decide) rfl (by decide) rfl (fun g26 => ?_)
                        refine lv_iload_n hx hb dX12_readHouse_118 rfl (lv_at hl 4 rfl) ?_
                        refine lv_iconst (v := 2) hx hb dX12_readHouse_119 (by decide) ?_
                        have k_2 : (2 : Int32).toInt = 2 := by decide
                        refine callS_Pi C S25.1 S25.2.1.2.1 (c_X12_houseAt l D G v1 (2 : Int32) (by omega) (by omega)) kS_X12_49 (trivial) dX12_readHouse_120 hl.1 cd_X12_houseAt ⟨Nat.le_of_ble_eq_true rfl, Nat.le_of_ble_eq_true rfl, Nat.le_of_ble_eq_true rfl, Nat.le_of_ble_eq_true rfl, Nat.le_of_ble_eq_true rfl⟩ (fun v27 q27 => ?_)
                        refine lv_iload_n hx hb dX12_readHouse_123 rfl (lv_at hl 2 rfl) ?_
                        have n28 : aN H25 (fR D H25 11 a0 1) = 2052 := len_31 S25.1 g26
                        refine q_iast C S25 g26 (by omega) (by omega) dX12_readHouse_124 rfl (by decide) (by decide +kernel) (fun _ _ h => wk_low _ _ (by omega) (fun h9 => by omega) (fun h9 => by omega) (fun h9 => by omega) (fun j hj h9 => by omega) h) (fun H29 L29 S29 P29 => ?_) (hs := fun _ => Or.inl (by decide +kernel))
                        have rb29 := rb25.cells S25.1 ga0 g26 (by decide) (by decide) P29.2.2.1
                        have bg29 : (fI D H29 11 a0 12).toInt = (((nx T (nx T (nx T (nx T (nx T (nx T b)))))) : Nat) : Int) := by rw [Pa.f P29 (ne_role ga0 g26 (by decide))]; exact bg25
                        have mv29 := mv25.asto S25.1 ga0 rfl P29 (vy_no (by omega) (by omega) (by omega) (by omega) (fun h9 hh9 => by omega) (fun j9 hj9 => by omega))
                        refine lv_aload_n hx hb dX12_readHouse_125 rfl (lv_at hl 5 rfl) ?_
                        refine q_gr (T := TX12) C S29.1 ga0 1 kF_X12_13 dX12_readHouse_126 rfl rfl (by decide) rfl (by decide) rfl (fun g30 => ?_)
                        refine lv_iload_n hx hb dX12_readHouse_129 rfl (lv_at hl 4 rfl) ?_
                        refine lv_iconst (v := 3) hx hb dX12_readHouse_130 (by decide) ?_
                        have k_3 : (3 : Int32).toInt = 3 := by decide
                        refine callS_Pi C S29.1 S29.2.1.2.1 (c_X12_houseAt l D G v1 (3 : Int32) (by omega) (by omega)) kS_X12_49 (trivial) dX12_readHouse_131 hl.1 cd_X12_houseAt ⟨Nat.le_of_ble_eq_true rfl, Nat.le_of_ble_eq_true rfl, Nat.le_of_ble_eq_true rfl, Nat.le_of_ble_eq_true rfl, Nat.le_of_ble_eq_true rfl⟩ (fun v31 q31 => ?_)
                        refine lv_iconst (v := 0) hx hb dX12_readHouse_134 (by decide) ?_
                        have n32 : aN H29 (fR D H29 11 a0 1) = 2052 := len_31 S29.1 g30
                        refine q_iast C S29 g30 (by omega) (by omega) dX12_readHouse_135 rfl (by decide) (by decide +kernel) (fun _ _ h => wk_low _ _ (by omega) (fun h9 => by omega) (fun h9 => by omega) (fun h9 => by omega) (fun j hj h9 => by omega) h) (fun H33 L33 S33 P33 => ?_) (hs := fun _ => Or.inl (by decide +kernel))
                        have rb33 := rb29.cells S29.1 ga0 g30 (by decide) (by decide) P33.2.2.1
                        have bg33 : (fI D H33 11 a0 12).toInt = (((nx T (nx T (nx T (nx T (nx T (nx T b)))))) : Nat) : Int) := by rw [Pa.f P33 (ne_role ga0 g30 (by decide))]; exact bg29
                        have mv33 := mv29.asto S29.1 ga0 rfl P33 (vy_no (by omega) (by omega) (by omega) (by omega) (fun h9 hh9 => by omega) (fun j9 hj9 => by omega))
                        refine lv_aload_n hx hb dX12_readHouse_136 rfl (lv_at hl 5 rfl) ?_
                        refine q_gr (T := TX12) C S33.1 ga0 1 kF_X12_13 dX12_readHouse_137 rfl rfl (by decide) rfl (by decide) rfl (fun g34 => ?_)
                        refine lv_iload_n hx hb dX12_readHouse_140 rfl (lv_at hl 4 rfl) ?_
                        refine lv_iconst (v := 4) hx hb dX12_readHouse_141 (by decide) ?_
                        have k_4 : (4 : Int32).toInt = 4 := by decide
                        refine callS_Pi C S33.1 S33.2.1.2.1 (c_X12_houseAt l D G v1 (4 : Int32) (by omega) (by omega)) kS_X12_49 (trivial) dX12_readHouse_142 hl.1 cd_X12_houseAt ⟨Nat.le_of_ble_eq_true rfl, Nat.le_of_ble_eq_true rfl, Nat.le_of_ble_eq_true rfl, Nat.le_of_ble_eq_true rfl, Nat.le_of_ble_eq_true rfl⟩ (fun v35 q35 => ?_)
                        refine lv_iload hx hb dX12_readHouse_145 (lv_at hl 0 rfl) ?_
                        have n36 : aN H33 (fR D H33 11 a0 1) = 2052 := len_31 S33.1 g34
                        refine q_iast C S33 g34 (by omega) (by omega) dX12_readHouse_147 rfl (by decide) (by decide +kernel) (fun _ _ h => wk_low _ _ (by omega) (fun h9 => by omega) (fun h9 => by omega) (fun h9 => by omega) (fun j hj h9 => by omega) h) (fun H37 L37 S37 P37 => ?_) (hs := fun _ => Or.inl (by decide +kernel))
                        have rb37 := rb33.cells S33.1 ga0 g34 (by decide) (by decide) P37.2.2.1
                        have bg37 : (fI D H37 11 a0 12).toInt = (((nx T (nx T (nx T (nx T (nx T (nx T b)))))) : Nat) : Int) := by rw [Pa.f P37 (ne_role ga0 g34 (by decide))]; exact bg33
                        have mv37 := MV.ast mv33 S33.1 ga0 rfl P37 (k := 16 + (sg 0).toNat) (by omega) (by rw [vy_w]; omega)
                        refine lv_aload_n hx hb dX12_readHouse_148 rfl (lv_at hl 5 rfl) ?_
                        refine q_gr (T := TX12) C S37.1 ga0 1 kF_X12_13 dX12_readHouse_149 rfl rfl (by decide) rfl (by decide) rfl (fun g38 => ?_)
                        refine lv_iconst (v := 0) hx hb dX12_readHouse_152 (by decide) ?_
                        refine lv_dup2_11 hx hb dX12_readHouse_153 rfl rfl ?_
                        have mc9 : (eI H37 (fR D H37 11 a0 1) 0).toInt = sg 0 := (mv_0 mv37).trans (sup_o _ _ (by omega))
                        have n39 : aN H37 (fR D H37 11 a0 1) = 2052 := len_31 S37.1 g38
                        refine q_iald C S37.1 g38 (by omega) (by omega) dX12_readHouse_154 rfl (by decide) ?_
                        refine lv_topi (fun v40 ev40 => ?_)
                        have wv40 : v40.toInt = (eI H37 (fR D H37 11 a0 1) 0).toInt := by rw [ev40]; rfl
                        refine lv_iconst (v := 1) hx hb dX12_readHouse_155 (by decide) ?_
                        refine lv_iadd hx hb dX12_readHouse_156 ?_
                        refine lv_topi (fun v41 ev41 => ?_)
                        have f42 : v41.toInt = v40.toInt + (1 : Int32).toInt := by rw [ev41]; exact i_add (by omega) (by omega)
                        refine q_iast C S37 g38 (by omega) (by omega) dX12_readHouse_157 rfl (by decide) (by decide +kernel) (fun _ _ h => wk_low _ _ (by omega) (fun h9 => by omega) (fun h9 => by omega) (fun h9 => by omega) (fun j hj h9 => by omega) h) (fun H43 L43 S43 P43 => ?_) (hs := fun _ => Or.inl (by decide +kernel))
                        have rb43 := rb37.cells S37.1 ga0 g38 (by decide) (by decide) P43.2.2.1
                        have bg43 : (fI D H43 11 a0 12).toInt = (((nx T (nx T (nx T (nx T (nx T (nx T b)))))) : Nat) : Int) := by rw [Pa.f P43 (ne_role ga0 g38 (by decide))]; exact bg37
                        have mv43 := MV.ast mv37 S37.1 ga0 rfl P43 (k := 0) (by decide) (by first | rfl | (show _ = 0; omega))
                        refine lv_iconst (v := 1) hx hb dX12_readHouse_158 (by decide) ?_
                        exact retE_z hQ C S43 hr dX12_readHouse_159 (z01 (by omega) (by omega)) (⟨by omega, RRP.ok (s1 := (hup sg (num T (nx T (nx T (nx T (nx T (nx T (nx T b)))))) 0 100))) (by simp [houF, houW, houP, houT, hc3, y5, w8, y8, y11, y14, y16]) (by omega) rb43 (by have z9 := mv43; rw [show v16.toInt = num T (nx T (nx T (nx T (nx T (nx T (nx T b)))))) 0 100 by first | omega | decide, show v41.toInt = sg 0 + 1 by omega] at z9; exact z9) (PV.houF9 pv0)⟩)
                      · have b17 : ¬ (0 : Int32).toInt ≤ v16.toInt := fun z9 => c17 (i_le.mpr z9)
                        exact absurd b17 (by omega)
                    · skip
                      refine lv_goto (tgt := 82) hx hb dX12_readHouse_78 (by decide) ?_
                      refine lv_istore (lv' := [(5, .int v16), (4, .int (1 : Int32)), (3, .int v8), (2, .int v5), (1, .int v1), (0, .ref a0)]) hx hb dX12_readHouse_82 hl (by decide) rfl (fun ls hl => ?_)
                      refine lv_iload hx hb dX12_readHouse_84 (lv_at hl 0 rfl) ?_
                      refine lv_if_ge (tgt := 91) hx hb dX12_readHouse_86 (by decide) (fun c44 => ?_) (fun c44 => ?_)
                      · have b44 : (0 : Int32).toInt ≤ v16.toInt := i_le.mp c44
                        exact absurd b44 (by omega)
                      · have b44 : ¬ (0 : Int32).toInt ≤ v16.toInt := fun z9 => c44 (i_le.mpr z9)
                        refine lv_iconst (v := 0) hx hb dX12_readHouse_89 (by decide) ?_
                        exact retE_z hQ C S16 hr dX12_readHouse_90 (z01 (by omega) (by omega)) (⟨by omega, RRP.no (s1 := sg) (by simp [houF, houW, houP, houT, hc3, y5, w8, y8, y11, y14, y16]) (by omega) wr16⟩)
                · skip
                  refine lv_if_eq (tgt := 81) hx hb dX12_readHouse_68 (by decide) (fun c45 => ?_) (fun c45 => ?_)
                  · have b45 : v14.toInt = (0 : Int32).toInt := i_eq.mp c45
                    refine lv_iconst (v := 0) hx hb dX12_readHouse_81 (by decide) ?_
                    refine lv_istore (lv' := [(5, .int (0 : Int32)), (4, .int (1 : Int32)), (3, .int v8), (2, .int v5), (1, .int v1), (0, .ref a0)]) hx hb dX12_readHouse_82 hl (by decide) rfl (fun ls hl => ?_)
                    refine lv_iload hx hb dX12_readHouse_84 (lv_at hl 0 rfl) ?_
                    refine lv_if_ge (tgt := 91) hx hb dX12_readHouse_86 (by decide) (fun c46 => ?_) (fun c46 => ?_)
                    · have b46 : (0 : Int32).toInt ≤ (0 : Int32).toInt := i_le.mp c46
                      refine lv_aload_n hx hb dX12_readHouse_91 rfl (lv_at hl 5 rfl) ?_
                      refine q_gr (T := TX12) C S14.1 ga0 1 kF_X12_13 dX12_readHouse_92 rfl rfl (by decide) rfl (by decide) rfl (fun g47 => ?_)
                      refine lv_iload_n hx hb dX12_readHouse_95 rfl (lv_at hl 4 rfl) ?_
                      refine lv_iconst (v := 0) hx hb dX12_readHouse_96 (by decide) ?_
                      refine callS_Pi C S14.1 S14.2.1.2.1 (c_X12_houseAt l D G v1 (0 : Int32) (by omega) (by omega)) kS_X12_49 (trivial) dX12_readHouse_97 hl.1 cd_X12_houseAt ⟨Nat.le_of_ble_eq_true rfl, Nat.le_of_ble_eq_true rfl, Nat.le_of_ble_eq_true rfl, Nat.le_of_ble_eq_true rfl, Nat.le_of_ble_eq_true rfl⟩ (fun v48 q48 => ?_)
                      refine lv_iload_n hx hb dX12_readHouse_100 rfl (lv_at hl 3 rfl) ?_
                      have n49 : aN H14 (fR D H14 11 a0 1) = 2052 := len_31 S14.1 g47
                      refine q_iast C S14 g47 (by omega) (by omega) dX12_readHouse_101 rfl (by decide) (by decide +kernel) (fun _ _ h => wk_low _ _ (by omega) (fun h9 => by omega) (fun h9 => by omega) (fun h9 => by omega) (fun j hj h9 => by omega) h) (fun H50 L50 S50 P50 => ?_) (hs := fun _ => Or.inl (by decide +kernel))
                      have rb50 := ts14.cells S14.1 ga0 g47 (by decide) (by decide) P50.2.2.1
                      have bg50 : (fI D H50 11 a0 12).toInt = (((nx T (nx T (nx T (nx T (nx T b))))) : Nat) : Int) := by rw [Pa.f P50 (ne_role ga0 g47 (by decide))]; exact wr14
                      have mv50 := mv14.asto S14.1 ga0 rfl P50 (vy_no (by omega) (by omega) (by omega) (by omega) (fun h9 hh9 => by omega) (fun j9 hj9 => by omega))
                      refine lv_aload_n hx hb dX12_readHouse_102 rfl (lv_at hl 5 rfl) ?_
                      refine q_gr (T := TX12) C S50.1 ga0 1 kF_X12_13 dX12_readHouse_103 rfl rfl (by decide) rfl (by decide) rfl (fun g51 => ?_)
                      refine lv_iload_n hx hb dX12_readHouse_106 rfl (lv_at hl 4 rfl) ?_
                      refine lv_iconst (v := 1) hx hb dX12_readHouse_107 (by decide) ?_
                      have k_1 : (1 : Int32).toInt = 1 := by decide
                      refine callS_Pi C S50.1 S50.2.1.2.1 (c_X12_houseAt l D G v1 (1 : Int32) (by omega) (by omega)) kS_X12_49 (trivial) dX12_readHouse_108 hl.1 cd_X12_houseAt ⟨Nat.le_of_ble_eq_true rfl, Nat.le_of_ble_eq_true rfl, Nat.le_of_ble_eq_true rfl, Nat.le_of_ble_eq_true rfl, Nat.le_of_ble_eq_true rfl⟩ (fun v52 q52 => ?_)
                      refine lv_iload hx hb dX12_readHouse_111 (lv_at hl 1 rfl) ?_
                      have n53 : aN H50 (fR D H50 11 a0 1) = 2052 := len_31 S50.1 g51
                      refine q_iast C S50 g51 (by omega) (by omega) dX12_readHouse_113 rfl (by decide) (by decide +kernel) (fun _ _ h => wk_low _ _ (by omega) (fun h9 => by omega) (fun h9 => by omega) (fun h9 => by omega) (fun j hj h9 => by omega) h) (fun H54 L54 S54 P54 => ?_) (hs := fun _ => Or.inl (by decide +kernel))
                      have rb54 := rb50.cells S50.1 ga0 g51 (by decide) (by decide) P54.2.2.1
                      have bg54 : (fI D H54 11 a0 12).toInt = (((nx T (nx T (nx T (nx T (nx T b))))) : Nat) : Int) := by rw [Pa.f P54 (ne_role ga0 g51 (by decide))]; exact bg50
                      have mv54 := mv50.asto S50.1 ga0 rfl P54 (vy_no (by omega) (by omega) (by omega) (by omega) (fun h9 hh9 => by omega) (fun j9 hj9 => by omega))
                      refine lv_aload_n hx hb dX12_readHouse_114 rfl (lv_at hl 5 rfl) ?_
                      refine q_gr (T := TX12) C S54.1 ga0 1 kF_X12_13 dX12_readHouse_115 rfl rfl (by decide) rfl (by decide) rfl (fun g55 => ?_)
                      refine lv_iload_n hx hb dX12_readHouse_118 rfl (lv_at hl 4 rfl) ?_
                      refine lv_iconst (v := 2) hx hb dX12_readHouse_119 (by decide) ?_
                      have k_2 : (2 : Int32).toInt = 2 := by decide
                      refine callS_Pi C S54.1 S54.2.1.2.1 (c_X12_houseAt l D G v1 (2 : Int32) (by omega) (by omega)) kS_X12_49 (trivial) dX12_readHouse_120 hl.1 cd_X12_houseAt ⟨Nat.le_of_ble_eq_true rfl, Nat.le_of_ble_eq_true rfl, Nat.le_of_ble_eq_true rfl, Nat.le_of_ble_eq_true rfl, Nat.le_of_ble_eq_true rfl⟩ (fun v56 q56 => ?_)
                      refine lv_iload_n hx hb dX12_readHouse_123 rfl (lv_at hl 2 rfl) ?_
                      have n57 : aN H54 (fR D H54 11 a0 1) = 2052 := len_31 S54.1 g55
                      refine q_iast C S54 g55 (by omega) (by omega) dX12_readHouse_124 rfl (by decide) (by decide +kernel) (fun _ _ h => wk_low _ _ (by omega) (fun h9 => by omega) (fun h9 => by omega) (fun h9 => by omega) (fun j hj h9 => by omega) h) (fun H58 L58 S58 P58 => ?_) (hs := fun _ => Or.inl (by decide +kernel))
                      have rb58 := rb54.cells S54.1 ga0 g55 (by decide) (by decide) P58.2.2.1
                      have bg58 : (fI D H58 11 a0 12).toInt = (((nx T (nx T (nx T (nx T (nx T b))))) : Nat) : Int) := by rw [Pa.f P58 (ne_role ga0 g55 (by decide))]; exact bg54
                      have mv58 := mv54.asto S54.1 ga0 rfl P58 (vy_no (by omega) (by omega) (by omega) (by omega) (fun h9 hh9 => by omega) (fun j9 hj9 => by omega))
                      refine lv_aload_n hx hb dX12_readHouse_125 rfl (lv_at hl 5 rfl) ?_
                      refine q_gr (T := TX12) C S58.1 ga0 1 kF_X12_13 dX12_readHouse_126 rfl rfl (by decide) rfl (by decide) rfl (fun g59 => ?_)
                      refine lv_iload_n hx hb dX12_readHouse_129 rfl (lv_at hl 4 rfl) ?_
                      refine lv_iconst (v := 3) hx hb dX12_readHouse_130 (by decide) ?_
                      have k_3 : (3 : Int32).toInt = 3 := by decide
                      refine callS_Pi C S58.1 S58.2.1.2.1 (c_X12_houseAt l D G v1 (3 : Int32) (by omega) (by omega)) kS_X12_49 (trivial) dX12_readHouse_131 hl.1 cd_X12_houseAt ⟨Nat.le_of_ble_eq_true rfl, Nat.le_of_ble_eq_true rfl, Nat.le_of_ble_eq_true rfl, Nat.le_of_ble_eq_true rfl, Nat.le_of_ble_eq_true rfl⟩ (fun v60 q60 => ?_)
                      refine lv_iconst (v := 0) hx hb dX12_readHouse_134 (by decide) ?_
                      have n61 : aN H58 (fR D H58 11 a0 1) = 2052 := len_31 S58.1 g59
                      refine q_iast C S58 g59 (by omega) (by omega) dX12_readHouse_135 rfl (by decide) (by decide +kernel) (fun _ _ h => wk_low _ _ (by omega) (fun h9 => by omega) (fun h9 => by omega) (fun h9 => by omega) (fun j hj h9 => by omega) h) (fun H62 L62 S62 P62 => ?_) (hs := fun _ => Or.inl (by decide +kernel))
                      have rb62 := rb58.cells S58.1 ga0 g59 (by decide) (by decide) P62.2.2.1
                      have bg62 : (fI D H62 11 a0 12).toInt = (((nx T (nx T (nx T (nx T (nx T b))))) : Nat) : Int) := by rw [Pa.f P62 (ne_role ga0 g59 (by decide))]; exact bg58
                      have mv62 := mv58.asto S58.1 ga0 rfl P62 (vy_no (by omega) (by omega) (by omega) (by omega) (fun h9 hh9 => by omega) (fun j9 hj9 => by omega))
                      refine lv_aload_n hx hb dX12_readHouse_136 rfl (lv_at hl 5 rfl) ?_
                      refine q_gr (T := TX12) C S62.1 ga0 1 kF_X12_13 dX12_readHouse_137 rfl rfl (by decide) rfl (by decide) rfl (fun g63 => ?_)
                      refine lv_iload_n hx hb dX12_readHouse_140 rfl (lv_at hl 4 rfl) ?_
                      refine lv_iconst (v := 4) hx hb dX12_readHouse_141 (by decide) ?_
                      have k_4 : (4 : Int32).toInt = 4 := by decide
                      refine callS_Pi C S62.1 S62.2.1.2.1 (c_X12_houseAt l D G v1 (4 : Int32) (by omega) (by omega)) kS_X12_49 (trivial) dX12_readHouse_142 hl.1 cd_X12_houseAt ⟨Nat.le_of_ble_eq_true rfl, Nat.le_of_ble_eq_true rfl, Nat.le_of_ble_eq_true rfl, Nat.le_of_ble_eq_true rfl, Nat.le_of_ble_eq_true rfl⟩ (fun v64 q64 => ?_)
                      refine lv_iload hx hb dX12_readHouse_145 (lv_at hl 0 rfl) ?_
                      have n65 : aN H62 (fR D H62 11 a0 1) = 2052 := len_31 S62.1 g63
                      refine q_iast C S62 g63 (by omega) (by omega) dX12_readHouse_147 rfl (by decide) (by decide +kernel) (fun _ _ h => wk_low _ _ (by omega) (fun h9 => by omega) (fun h9 => by omega) (fun h9 => by omega) (fun j hj h9 => by omega) h) (fun H66 L66 S66 P66 => ?_) (hs := fun _ => Or.inl (by decide +kernel))
                      have rb66 := rb62.cells S62.1 ga0 g63 (by decide) (by decide) P66.2.2.1
                      have bg66 : (fI D H66 11 a0 12).toInt = (((nx T (nx T (nx T (nx T (nx T b))))) : Nat) : Int) := by rw [Pa.f P66 (ne_role ga0 g63 (by decide))]; exact bg62
                      have mv66 := MV.ast mv62 S62.1 ga0 rfl P66 (k := 16 + (sg 0).toNat) (by omega) (by rw [vy_w]; omega)
                      refine lv_aload_n hx hb dX12_readHouse_148 rfl (lv_at hl 5 rfl) ?_
                      refine q_gr (T := TX12) C S66.1 ga0 1 kF_X12_13 dX12_readHouse_149 rfl rfl (by decide) rfl (by decide) rfl (fun g67 => ?_)
                      refine lv_iconst (v := 0) hx hb dX12_readHouse_152 (by decide) ?_
                      refine lv_dup2_11 hx hb dX12_readHouse_153 rfl rfl ?_
                      have mc9 : (eI H66 (fR D H66 11 a0 1) 0).toInt = sg 0 := (mv_0 mv66).trans (sup_o _ _ (by omega))
                      have n68 : aN H66 (fR D H66 11 a0 1) = 2052 := len_31 S66.1 g67
                      refine q_iald C S66.1 g67 (by omega) (by omega) dX12_readHouse_154 rfl (by decide) ?_
                      refine lv_topi (fun v69 ev69 => ?_)
                      have wv69 : v69.toInt = (eI H66 (fR D H66 11 a0 1) 0).toInt := by rw [ev69]; rfl
                      refine lv_iconst (v := 1) hx hb dX12_readHouse_155 (by decide) ?_
                      refine lv_iadd hx hb dX12_readHouse_156 ?_
                      refine lv_topi (fun v70 ev70 => ?_)
                      have f71 : v70.toInt = v69.toInt + (1 : Int32).toInt := by rw [ev70]; exact i_add (by omega) (by omega)
                      refine q_iast C S66 g67 (by omega) (by omega) dX12_readHouse_157 rfl (by decide) (by decide +kernel) (fun _ _ h => wk_low _ _ (by omega) (fun h9 => by omega) (fun h9 => by omega) (fun h9 => by omega) (fun j hj h9 => by omega) h) (fun H72 L72 S72 P72 => ?_) (hs := fun _ => Or.inl (by decide +kernel))
                      have rb72 := rb66.cells S66.1 ga0 g67 (by decide) (by decide) P72.2.2.1
                      have bg72 : (fI D H72 11 a0 12).toInt = (((nx T (nx T (nx T (nx T (nx T b))))) : Nat) : Int) := by rw [Pa.f P72 (ne_role ga0 g67 (by decide))]; exact bg66
                      have mv72 := MV.ast mv66 S66.1 ga0 rfl P72 (k := 0) (by decide) (by first | rfl | (show _ = 0; omega))
                      refine lv_iconst (v := 1) hx hb dX12_readHouse_158 (by decide) ?_
                      exact retE_z hQ C S72 hr dX12_readHouse_159 (z01 (by omega) (by omega)) (⟨by omega, RRP.ok (s1 := (hup sg 0)) (by simp [houF, houW, houP, houT, hc3, y5, w8, y8, y11, y14]) (by omega) rb72 (by have z9 := mv72; rw [show (0 : Int32).toInt = 0 by first | omega | decide, show v70.toInt = sg 0 + 1 by omega] at z9; exact z9) (PV.houF9 pv0)⟩)
                    · have b46 : ¬ (0 : Int32).toInt ≤ (0 : Int32).toInt := fun z9 => c46 (i_le.mpr z9)
                      exact absurd b46 (by omega)
                  · have b45 : ¬ v14.toInt = (0 : Int32).toInt := fun z9 => c45 (i_eq.mpr z9)
                    exact absurd b45 (by omega)
            · skip
              refine lv_if_eq (tgt := 59) hx hb dX12_readHouse_52 (by decide) (fun c73 => ?_) (fun c73 => ?_)
              · have b73 : v11.toInt = (0 : Int32).toInt := i_eq.mp c73
                refine lv_iconst (v := 0) hx hb dX12_readHouse_59 (by decide) ?_
                refine lv_istore (lv' := [(4, .int (0 : Int32)), (3, .int v8), (2, .int v5), (1, .int v1), (0, .ref a0)]) hx hb dX12_readHouse_60 hl (by decide) rfl (fun ls hl => ?_)
                refine lv_aload_n hx hb dX12_readHouse_62 rfl (lv_at hl 4 rfl) ?_
                refine q_lds C ks_X12_123 dX12_readHouse_63 (fun a74 ha74 wa74 => ?_)
                refine callV_Ei C S11 (c_X12_passes_f l D G a0 a74 5 w_tells T (nx T (nx T (nx T (nx T b)))) ga0 ha74 (Wc.of wa74 kw_tells) (by decide)) kV_X12_120 ga0 (⟨trivial, ts11⟩) (by decide +kernel) dX12_readHouse_65 hl.1 rfl rfl (by decide) cd_X12_passes ⟨Nat.le_of_ble_eq_true rfl, Nat.le_of_ble_eq_true rfl, Nat.le_of_ble_eq_true rfl, Nat.le_of_ble_eq_true rfl, Nat.le_of_ble_eq_true rfl⟩ (fun v75 H75 L75 S75 K75 q75 => ?_)
                obtain ⟨q75, fq75⟩ := q75
                have mv75 := mv11.keep S11.1 ga0 K75 (by decide +kernel) (by decide +kernel)
                rcases fq75 with ⟨z75, y75, ts75, wr75⟩ | ⟨z75, y75, ts75, wr75⟩
                · skip
                  refine lv_if_eq (tgt := 81) hx hb dX12_readHouse_68 (by decide) (fun c76 => ?_) (fun c76 => ?_)
                  · have b76 : v75.toInt = (0 : Int32).toInt := i_eq.mp c76
                    exact absurd b76 (by omega)
                  · have b76 : ¬ v75.toInt = (0 : Int32).toInt := fun z9 => c76 (i_eq.mpr z9)
                    refine lv_aload_n hx hb dX12_readHouse_71 rfl (lv_at hl 4 rfl) ?_
                    refine lv_iconst (v := 0) hx hb dX12_readHouse_72 (by decide) ?_
                    refine lv_bipush (v := 100) hx hb dX12_readHouse_73 (by decide) ?_
                    have k_100 : (100 : Int32).toInt = 100 := by decide
                    refine callV_Ei C S75 (c_X12_number_f l D G a0 (0 : Int32) (100 : Int32) 0 100 T (nx T (nx T (nx T (nx T (nx T b))))) ga0 (by omega) (by omega) (by omega) (by omega)) kV_X12_109 ga0 (⟨trivial, ts75⟩) (by decide +kernel) dX12_readHouse_75 hl.1 rfl rfl (by decide) cd_X12_number ⟨Nat.le_of_ble_eq_true rfl, Nat.le_of_ble_eq_true rfl, Nat.le_of_ble_eq_true rfl, Nat.le_of_ble_eq_true rfl, Nat.le_of_ble_eq_true rfl⟩ (fun v77 H77 L77 S77 K77 q77 => ?_)
                    obtain ⟨q77, fq77⟩ := q77
                    have mv77 := mv75.keep S75.1 ga0 K77 (by decide +kernel) (by decide +kernel)
                    rcases fq77 with ⟨z77, y77, ts77, bg77⟩ | ⟨z77, y77, wr77⟩
                    · skip
                      refine lv_goto (tgt := 82) hx hb dX12_readHouse_78 (by decide) ?_
                      refine lv_istore (lv' := [(5, .int v77), (4, .int (0 : Int32)), (3, .int v8), (2, .int v5), (1, .int v1), (0, .ref a0)]) hx hb dX12_readHouse_82 hl (by decide) rfl (fun ls hl => ?_)
                      refine lv_iload hx hb dX12_readHouse_84 (lv_at hl 0 rfl) ?_
                      refine lv_if_ge (tgt := 91) hx hb dX12_readHouse_86 (by decide) (fun c78 => ?_) (fun c78 => ?_)
                      · have b78 : (0 : Int32).toInt ≤ v77.toInt := i_le.mp c78
                        refine lv_aload_n hx hb dX12_readHouse_91 rfl (lv_at hl 5 rfl) ?_
                        refine q_gr (T := TX12) C S77.1 ga0 1 kF_X12_13 dX12_readHouse_92 rfl rfl (by decide) rfl (by decide) rfl (fun g79 => ?_)
                        refine lv_iload_n hx hb dX12_readHouse_95 rfl (lv_at hl 4 rfl) ?_
                        refine lv_iconst (v := 0) hx hb dX12_readHouse_96 (by decide) ?_
                        refine callS_Pi C S77.1 S77.2.1.2.1 (c_X12_houseAt l D G v1 (0 : Int32) (by omega) (by omega)) kS_X12_49 (trivial) dX12_readHouse_97 hl.1 cd_X12_houseAt ⟨Nat.le_of_ble_eq_true rfl, Nat.le_of_ble_eq_true rfl, Nat.le_of_ble_eq_true rfl, Nat.le_of_ble_eq_true rfl, Nat.le_of_ble_eq_true rfl⟩ (fun v80 q80 => ?_)
                        refine lv_iload_n hx hb dX12_readHouse_100 rfl (lv_at hl 3 rfl) ?_
                        have n81 : aN H77 (fR D H77 11 a0 1) = 2052 := len_31 S77.1 g79
                        refine q_iast C S77 g79 (by omega) (by omega) dX12_readHouse_101 rfl (by decide) (by decide +kernel) (fun _ _ h => wk_low _ _ (by omega) (fun h9 => by omega) (fun h9 => by omega) (fun h9 => by omega) (fun j hj h9 => by omega) h) (fun H82 L82 S82 P82 => ?_) (hs := fun _ => Or.inl (by decide +kernel))
                        have rb82 := ts77.cells S77.1 ga0 g79 (by decide) (by decide) P82.2.2.1
                        have bg82 : (fI D H82 11 a0 12).toInt = (((nx T (nx T (nx T (nx T (nx T b))))) : Nat) : Int) := by rw [Pa.f P82 (ne_role ga0 g79 (by decide))]; exact bg77
                        have mv82 := mv77.asto S77.1 ga0 rfl P82 (vy_no (by omega) (by omega) (by omega) (by omega) (fun h9 hh9 => by omega) (fun j9 hj9 => by omega))
                        refine lv_aload_n hx hb dX12_readHouse_102 rfl (lv_at hl 5 rfl) ?_
                        refine q_gr (T := TX12) C S82.1 ga0 1 kF_X12_13 dX12_readHouse_103 rfl rfl (by decide) rfl (by decide) rfl (fun g83 => ?_)
                        refine lv_iload_n hx hb dX12_readHouse_106 rfl (lv_at hl 4 rfl) ?_
                        refine lv_iconst (v := 1) hx hb dX12_readHouse_107 (by decide) ?_
                        have k_1 : (1 : Int32).toInt = 1 := by decide
                        refine callS_Pi C S82.1 S82.2.1.2.1 (c_X12_houseAt l D G v1 (1 : Int32) (by omega) (by omega)) kS_X12_49 (trivial) dX12_readHouse_108 hl.1 cd_X12_houseAt ⟨Nat.le_of_ble_eq_true rfl, Nat.le_of_ble_eq_true rfl, Nat.le_of_ble_eq_true rfl, Nat.le_of_ble_eq_true rfl, Nat.le_of_ble_eq_true rfl⟩ (fun v84 q84 => ?_)
                        refine lv_iload hx hb dX12_readHouse_111 (lv_at hl 1 rfl) ?_
                        have n85 : aN H82 (fR D H82 11 a0 1) = 2052 := len_31 S82.1 g83
                        refine q_iast C S82 g83 (by omega) (by omega) dX12_readHouse_113 rfl (by decide) (by decide +kernel) (fun _ _ h => wk_low _ _ (by omega) (fun h9 => by omega) (fun h9 => by omega) (fun h9 => by omega) (fun j hj h9 => by omega) h) (fun H86 L86 S86 P86 => ?_) (hs := fun _ => Or.inl (by decide +kernel))
                        have rb86 := rb82.cells S82.1 ga0 g83 (by decide) (by decide) P86.2.2.1
                        have bg86 : (fI D H86 11 a0 12).toInt = (((nx T (nx T (nx T (nx T (nx T b))))) : Nat) : Int) := by rw [Pa.f P86 (ne_role ga0 g83 (by decide))]; exact bg82
                        have mv86 := mv82.asto S82.1 ga0 rfl P86 (vy_no (by omega) (by omega) (by omega) (by omega) (fun h9 hh9 => by omega) (fun j9 hj9 => by omega))
                        refine lv_aload_n hx hb dX12_readHouse_114 rfl (lv_at hl 5 rfl) ?_
                        refine q_gr (T := TX12) C S86.1 ga0 1 kF_X12_13 dX12_readHouse_115 rfl rfl (by decide) rfl (by decide) rfl (fun g87 => ?_)
                        refine lv_iload_n hx hb dX12_readHouse_118 rfl (lv_at hl 4 rfl) ?_
                        refine lv_iconst (v := 2) hx hb dX12_readHouse_119 (by decide) ?_
                        have k_2 : (2 : Int32).toInt = 2 := by decide
                        refine callS_Pi C S86.1 S86.2.1.2.1 (c_X12_houseAt l D G v1 (2 : Int32) (by omega) (by omega)) kS_X12_49 (trivial) dX12_readHouse_120 hl.1 cd_X12_houseAt ⟨Nat.le_of_ble_eq_true rfl, Nat.le_of_ble_eq_true rfl, Nat.le_of_ble_eq_true rfl, Nat.le_of_ble_eq_true rfl, Nat.le_of_ble_eq_true rfl⟩ (fun v88 q88 => ?_)
                        refine lv_iload_n hx hb dX12_readHouse_123 rfl (lv_at hl 2 rfl) ?_
                        have n89 : aN H86 (fR D H86 11 a0 1) = 2052 := len_31 S86.1 g87
                        refine q_iast C S86 g87 (by omega) (by omega) dX12_readHouse_124 rfl (by decide) (by decide +kernel) (fun _ _ h => wk_low _ _ (by omega) (fun h9 => by omega) (fun h9 => by omega) (fun h9 => by omega) (fun j hj h9 => by omega) h) (fun H90 L90 S90 P90 => ?_) (hs := fun _ => Or.inl (by decide +kernel))
                        have rb90 := rb86.cells S86.1 ga0 g87 (by decide) (by decide) P90.2.2.1
                        have bg90 : (fI D H90 11 a0 12).toInt = (((nx T (nx T (nx T (nx T (nx T b))))) : Nat) : Int) := by rw [Pa.f P90 (ne_role ga0 g87 (by decide))]; exact bg86
                        have mv90 := mv86.asto S86.1 ga0 rfl P90 (vy_no (by omega) (by omega) (by omega) (by omega) (fun h9 hh9 => by omega) (fun j9 hj9 => by omega))
                        refine lv_aload_n hx hb dX12_readHouse_125 rfl (lv_at hl 5 rfl) ?_
                        refine q_gr (T := TX12) C S90.1 ga0 1 kF_X12_13 dX12_readHouse_126 rfl rfl (by decide) rfl (by decide) rfl (fun g91 => ?_)
                        refine lv_iload_n hx hb dX12_readHouse_129 rfl (lv_at hl 4 rfl) ?_
                        refine lv_iconst (v := 3) hx hb dX12_readHouse_130 (by decide) ?_
                        have k_3 : (3 : Int32).toInt = 3 := by decide
                        refine callS_Pi C S90.1 S90.2.1.2.1 (c_X12_houseAt l D G v1 (3 : Int32) (by omega) (by omega)) kS_X12_49 (trivial) dX12_readHouse_131 hl.1 cd_X12_houseAt ⟨Nat.le_of_ble_eq_true rfl, Nat.le_of_ble_eq_true rfl, Nat.le_of_ble_eq_true rfl, Nat.le_of_ble_eq_true rfl, Nat.le_of_ble_eq_true rfl⟩ (fun v92 q92 => ?_)
                        refine lv_iconst (v := 0) hx hb dX12_readHouse_134 (by decide) ?_
                        have n93 : aN H90 (fR D H90 11 a0 1) = 2052 := len_31 S90.1 g91
                        refine q_iast C S90 g91 (by omega) (by omega) dX12_readHouse_135 rfl (by decide) (by decide +kernel) (fun _ _ h => wk_low _ _ (by omega) (fun h9 => by omega) (fun h9 => by omega) (fun h9 => by omega) (fun j hj h9 => by omega) h) (fun H94 L94 S94 P94 => ?_) (hs := fun _ => Or.inl (by decide +kernel))
                        have rb94 := rb90.cells S90.1 ga0 g91 (by decide) (by decide) P94.2.2.1
                        have bg94 : (fI D H94 11 a0 12).toInt = (((nx T (nx T (nx T (nx T (nx T b))))) : Nat) : Int) := by rw [Pa.f P94 (ne_role ga0 g91 (by decide))]; exact bg90
                        have mv94 := mv90.asto S90.1 ga0 rfl P94 (vy_no (by omega) (by omega) (by omega) (by omega) (fun h9 hh9 => by omega) (fun j9 hj9 => by omega))
                        refine lv_aload_n hx hb dX12_readHouse_136 rfl (lv_at hl 5 rfl) ?_
                        refine q_gr (T := TX12) C S94.1 ga0 1 kF_X12_13 dX12_readHouse_137 rfl rfl (by decide) rfl (by decide) rfl (fun g95 => ?_)
                        refine lv_iload_n hx hb dX12_readHouse_140 rfl (lv_at hl 4 rfl) ?_
                        refine lv_iconst (v := 4) hx hb dX12_readHouse_141 (by decide) ?_
                        have k_4 : (4 : Int32).toInt = 4 := by decide
                        refine callS_Pi C S94.1 S94.2.1.2.1 (c_X12_houseAt l D G v1 (4 : Int32) (by omega) (by omega)) kS_X12_49 (trivial) dX12_readHouse_142 hl.1 cd_X12_houseAt ⟨Nat.le_of_ble_eq_true rfl, Nat.le_of_ble_eq_true rfl, Nat.le_of_ble_eq_true rfl, Nat.le_of_ble_eq_true rfl, Nat.le_of_ble_eq_true rfl⟩ (fun v96 q96 => ?_)
                        refine lv_iload hx hb dX12_readHouse_145 (lv_at hl 0 rfl) ?_
                        have n97 : aN H94 (fR D H94 11 a0 1) = 2052 := len_31 S94.1 g95
                        refine q_iast C S94 g95 (by omega) (by omega) dX12_readHouse_147 rfl (by decide) (by decide +kernel) (fun _ _ h => wk_low _ _ (by omega) (fun h9 => by omega) (fun h9 => by omega) (fun h9 => by omega) (fun j hj h9 => by omega) h) (fun H98 L98 S98 P98 => ?_) (hs := fun _ => Or.inl (by decide +kernel))
                        have rb98 := rb94.cells S94.1 ga0 g95 (by decide) (by decide) P98.2.2.1
                        have bg98 : (fI D H98 11 a0 12).toInt = (((nx T (nx T (nx T (nx T (nx T b))))) : Nat) : Int) := by rw [Pa.f P98 (ne_role ga0 g95 (by decide))]; exact bg94
                        have mv98 := MV.ast mv94 S94.1 ga0 rfl P98 (k := 16 + (sg 0).toNat) (by omega) (by rw [vy_w]; omega)
                        refine lv_aload_n hx hb dX12_readHouse_148 rfl (lv_at hl 5 rfl) ?_
                        refine q_gr (T := TX12) C S98.1 ga0 1 kF_X12_13 dX12_readHouse_149 rfl rfl (by decide) rfl (by decide) rfl (fun g99 => ?_)
                        refine lv_iconst (v := 0) hx hb dX12_readHouse_152 (by decide) ?_
                        refine lv_dup2_11 hx hb dX12_readHouse_153 rfl rfl ?_
                        have mc9 : (eI H98 (fR D H98 11 a0 1) 0).toInt = sg 0 := (mv_0 mv98).trans (sup_o _ _ (by omega))
                        have n100 : aN H98 (fR D H98 11 a0 1) = 2052 := len_31 S98.1 g99
                        refine q_iald C S98.1 g99 (by omega) (by omega) dX12_readHouse_154 rfl (by decide) ?_
                        refine lv_topi (fun v101 ev101 => ?_)
                        have wv101 : v101.toInt = (eI H98 (fR D H98 11 a0 1) 0).toInt := by rw [ev101]; rfl
                        refine lv_iconst (v := 1) hx hb dX12_readHouse_155 (by decide) ?_
                        refine lv_iadd hx hb dX12_readHouse_156 ?_
                        refine lv_topi (fun v102 ev102 => ?_)
                        have f103 : v102.toInt = v101.toInt + (1 : Int32).toInt := by rw [ev102]; exact i_add (by omega) (by omega)
                        refine q_iast C S98 g99 (by omega) (by omega) dX12_readHouse_157 rfl (by decide) (by decide +kernel) (fun _ _ h => wk_low _ _ (by omega) (fun h9 => by omega) (fun h9 => by omega) (fun h9 => by omega) (fun j hj h9 => by omega) h) (fun H104 L104 S104 P104 => ?_) (hs := fun _ => Or.inl (by decide +kernel))
                        have rb104 := rb98.cells S98.1 ga0 g99 (by decide) (by decide) P104.2.2.1
                        have bg104 : (fI D H104 11 a0 12).toInt = (((nx T (nx T (nx T (nx T (nx T b))))) : Nat) : Int) := by rw [Pa.f P104 (ne_role ga0 g99 (by decide))]; exact bg98
                        have mv104 := MV.ast mv98 S98.1 ga0 rfl P104 (k := 0) (by decide) (by first | rfl | (show _ = 0; omega))
                        refine lv_iconst (v := 1) hx hb dX12_readHouse_158 (by decide) ?_
                        exact retE_z hQ C S104 hr dX12_readHouse_159 (z01 (by omega) (by omega)) (⟨by omega, RRP.ok (s1 := (hup sg (num T (nx T (nx T (nx T (nx T (nx T b))))) 0 100))) (by simp [houF, houW, houP, houT, hc3, y5, w8, y8, y11, y75, y77]) (by omega) rb104 (by have z9 := mv104; rw [show v77.toInt = num T (nx T (nx T (nx T (nx T (nx T b))))) 0 100 by first | omega | decide, show v102.toInt = sg 0 + 1 by omega] at z9; exact z9) (PV.houF9 pv0)⟩)
                      · have b78 : ¬ (0 : Int32).toInt ≤ v77.toInt := fun z9 => c78 (i_le.mpr z9)
                        exact absurd b78 (by omega)
                    · skip
                      refine lv_goto (tgt := 82) hx hb dX12_readHouse_78 (by decide) ?_
                      refine lv_istore (lv' := [(5, .int v77), (4, .int (0 : Int32)), (3, .int v8), (2, .int v5), (1, .int v1), (0, .ref a0)]) hx hb dX12_readHouse_82 hl (by decide) rfl (fun ls hl => ?_)
                      refine lv_iload hx hb dX12_readHouse_84 (lv_at hl 0 rfl) ?_
                      refine lv_if_ge (tgt := 91) hx hb dX12_readHouse_86 (by decide) (fun c105 => ?_) (fun c105 => ?_)
                      · have b105 : (0 : Int32).toInt ≤ v77.toInt := i_le.mp c105
                        exact absurd b105 (by omega)
                      · have b105 : ¬ (0 : Int32).toInt ≤ v77.toInt := fun z9 => c105 (i_le.mpr z9)
                        refine lv_iconst (v := 0) hx hb dX12_readHouse_89 (by decide) ?_
                        exact retE_z hQ C S77 hr dX12_readHouse_90 (z01 (by omega) (by omega)) (⟨by omega, RRP.no (s1 := sg) (by simp [houF, houW, houP, houT, hc3, y5, w8, y8, y11, y75, y77]) (by omega) wr77⟩)
                · skip
                  refine lv_if_eq (tgt := 81) hx hb dX12_readHouse_68 (by decide) (fun c106 => ?_) (fun c106 => ?_)
                  · have b106 : v75.toInt = (0 : Int32).toInt := i_eq.mp c106
                    refine lv_iconst (v := 0) hx hb dX12_readHouse_81 (by decide) ?_
                    refine lv_istore (lv' := [(5, .int (0 : Int32)), (4, .int (0 : Int32)), (3, .int v8), (2, .int v5), (1, .int v1), (0, .ref a0)]) hx hb dX12_readHouse_82 hl (by decide) rfl (fun ls hl => ?_)
                    refine lv_iload hx hb dX12_readHouse_84 (lv_at hl 0 rfl) ?_
                    refine lv_if_ge (tgt := 91) hx hb dX12_readHouse_86 (by decide) (fun c107 => ?_) (fun c107 => ?_)
                    · have b107 : (0 : Int32).toInt ≤ (0 : Int32).toInt := i_le.mp c107
                      refine lv_aload_n hx hb dX12_readHouse_91 rfl (lv_at hl 5 rfl) ?_
                      refine q_gr (T := TX12) C S75.1 ga0 1 kF_X12_13 dX12_readHouse_92 rfl rfl (by decide) rfl (by decide) rfl (fun g108 => ?_)
                      refine lv_iload_n hx hb dX12_readHouse_95 rfl (lv_at hl 4 rfl) ?_
                      refine lv_iconst (v := 0) hx hb dX12_readHouse_96 (by decide) ?_
                      refine callS_Pi C S75.1 S75.2.1.2.1 (c_X12_houseAt l D G v1 (0 : Int32) (by omega) (by omega)) kS_X12_49 (trivial) dX12_readHouse_97 hl.1 cd_X12_houseAt ⟨Nat.le_of_ble_eq_true rfl, Nat.le_of_ble_eq_true rfl, Nat.le_of_ble_eq_true rfl, Nat.le_of_ble_eq_true rfl, Nat.le_of_ble_eq_true rfl⟩ (fun v109 q109 => ?_)
                      refine lv_iload_n hx hb dX12_readHouse_100 rfl (lv_at hl 3 rfl) ?_
                      have n110 : aN H75 (fR D H75 11 a0 1) = 2052 := len_31 S75.1 g108
                      refine q_iast C S75 g108 (by omega) (by omega) dX12_readHouse_101 rfl (by decide) (by decide +kernel) (fun _ _ h => wk_low _ _ (by omega) (fun h9 => by omega) (fun h9 => by omega) (fun h9 => by omega) (fun j hj h9 => by omega) h) (fun H111 L111 S111 P111 => ?_) (hs := fun _ => Or.inl (by decide +kernel))
                      have rb111 := ts75.cells S75.1 ga0 g108 (by decide) (by decide) P111.2.2.1
                      have bg111 : (fI D H111 11 a0 12).toInt = (((nx T (nx T (nx T (nx T b)))) : Nat) : Int) := by rw [Pa.f P111 (ne_role ga0 g108 (by decide))]; exact wr75
                      have mv111 := mv75.asto S75.1 ga0 rfl P111 (vy_no (by omega) (by omega) (by omega) (by omega) (fun h9 hh9 => by omega) (fun j9 hj9 => by omega))
                      refine lv_aload_n hx hb dX12_readHouse_102 rfl (lv_at hl 5 rfl) ?_
                      refine q_gr (T := TX12) C S111.1 ga0 1 kF_X12_13 dX12_readHouse_103 rfl rfl (by decide) rfl (by decide) rfl (fun g112 => ?_)
                      refine lv_iload_n hx hb dX12_readHouse_106 rfl (lv_at hl 4 rfl) ?_
                      refine lv_iconst (v := 1) hx hb dX12_readHouse_107 (by decide) ?_
                      have k_1 : (1 : Int32).toInt = 1 := by decide
                      refine callS_Pi C S111.1 S111.2.1.2.1 (c_X12_houseAt l D G v1 (1 : Int32) (by omega) (by omega)) kS_X12_49 (trivial) dX12_readHouse_108 hl.1 cd_X12_houseAt ⟨Nat.le_of_ble_eq_true rfl, Nat.le_of_ble_eq_true rfl, Nat.le_of_ble_eq_true rfl, Nat.le_of_ble_eq_true rfl, Nat.le_of_ble_eq_true rfl⟩ (fun v113 q113 => ?_)
                      refine lv_iload hx hb dX12_readHouse_111 (lv_at hl 1 rfl) ?_
                      have n114 : aN H111 (fR D H111 11 a0 1) = 2052 := len_31 S111.1 g112
                      refine q_iast C S111 g112 (by omega) (by omega) dX12_readHouse_113 rfl (by decide) (by decide +kernel) (fun _ _ h => wk_low _ _ (by omega) (fun h9 => by omega) (fun h9 => by omega) (fun h9 => by omega) (fun j hj h9 => by omega) h) (fun H115 L115 S115 P115 => ?_) (hs := fun _ => Or.inl (by decide +kernel))
                      have rb115 := rb111.cells S111.1 ga0 g112 (by decide) (by decide) P115.2.2.1
                      have bg115 : (fI D H115 11 a0 12).toInt = (((nx T (nx T (nx T (nx T b)))) : Nat) : Int) := by rw [Pa.f P115 (ne_role ga0 g112 (by decide))]; exact bg111
                      have mv115 := mv111.asto S111.1 ga0 rfl P115 (vy_no (by omega) (by omega) (by omega) (by omega) (fun h9 hh9 => by omega) (fun j9 hj9 => by omega))
                      refine lv_aload_n hx hb dX12_readHouse_114 rfl (lv_at hl 5 rfl) ?_
                      refine q_gr (T := TX12) C S115.1 ga0 1 kF_X12_13 dX12_readHouse_115 rfl rfl (by decide) rfl (by decide) rfl (fun g116 => ?_)
                      refine lv_iload_n hx hb dX12_readHouse_118 rfl (lv_at hl 4 rfl) ?_
                      refine lv_iconst (v := 2) hx hb dX12_readHouse_119 (by decide) ?_
                      have k_2 : (2 : Int32).toInt = 2 := by decide
                      refine callS_Pi C S115.1 S115.2.1.2.1 (c_X12_houseAt l D G v1 (2 : Int32) (by omega) (by omega)) kS_X12_49 (trivial) dX12_readHouse_120 hl.1 cd_X12_houseAt ⟨Nat.le_of_ble_eq_true rfl, Nat.le_of_ble_eq_true rfl, Nat.le_of_ble_eq_true rfl, Nat.le_of_ble_eq_true rfl, Nat.le_of_ble_eq_true rfl⟩ (fun v117 q117 => ?_)
                      refine lv_iload_n hx hb dX12_readHouse_123 rfl (lv_at hl 2 rfl) ?_
                      have n118 : aN H115 (fR D H115 11 a0 1) = 2052 := len_31 S115.1 g116
                      refine q_iast C S115 g116 (by omega) (by omega) dX12_readHouse_124 rfl (by decide) (by decide +kernel) (fun _ _ h => wk_low _ _ (by omega) (fun h9 => by omega) (fun h9 => by omega) (fun h9 => by omega) (fun j hj h9 => by omega) h) (fun H119 L119 S119 P119 => ?_) (hs := fun _ => Or.inl (by decide +kernel))
                      have rb119 := rb115.cells S115.1 ga0 g116 (by decide) (by decide) P119.2.2.1
                      have bg119 : (fI D H119 11 a0 12).toInt = (((nx T (nx T (nx T (nx T b)))) : Nat) : Int) := by rw [Pa.f P119 (ne_role ga0 g116 (by decide))]; exact bg115
                      have mv119 := mv115.asto S115.1 ga0 rfl P119 (vy_no (by omega) (by omega) (by omega) (by omega) (fun h9 hh9 => by omega) (fun j9 hj9 => by omega))
                      refine lv_aload_n hx hb dX12_readHouse_125 rfl (lv_at hl 5 rfl) ?_
                      refine q_gr (T := TX12) C S119.1 ga0 1 kF_X12_13 dX12_readHouse_126 rfl rfl (by decide) rfl (by decide) rfl (fun g120 => ?_)
                      refine lv_iload_n hx hb dX12_readHouse_129 rfl (lv_at hl 4 rfl) ?_
                      refine lv_iconst (v := 3) hx hb dX12_readHouse_130 (by decide) ?_
                      have k_3 : (3 : Int32).toInt = 3 := by decide
                      refine callS_Pi C S119.1 S119.2.1.2.1 (c_X12_houseAt l D G v1 (3 : Int32) (by omega) (by omega)) kS_X12_49 (trivial) dX12_readHouse_131 hl.1 cd_X12_houseAt ⟨Nat.le_of_ble_eq_true rfl, Nat.le_of_ble_eq_true rfl, Nat.le_of_ble_eq_true rfl, Nat.le_of_ble_eq_true rfl, Nat.le_of_ble_eq_true rfl⟩ (fun v121 q121 => ?_)
                      refine lv_iconst (v := 0) hx hb dX12_readHouse_134 (by decide) ?_
                      have n122 : aN H119 (fR D H119 11 a0 1) = 2052 := len_31 S119.1 g120
                      refine q_iast C S119 g120 (by omega) (by omega) dX12_readHouse_135 rfl (by decide) (by decide +kernel) (fun _ _ h => wk_low _ _ (by omega) (fun h9 => by omega) (fun h9 => by omega) (fun h9 => by omega) (fun j hj h9 => by omega) h) (fun H123 L123 S123 P123 => ?_) (hs := fun _ => Or.inl (by decide +kernel))
                      have rb123 := rb119.cells S119.1 ga0 g120 (by decide) (by decide) P123.2.2.1
                      have bg123 : (fI D H123 11 a0 12).toInt = (((nx T (nx T (nx T (nx T b)))) : Nat) : Int) := by rw [Pa.f P123 (ne_role ga0 g120 (by decide))]; exact bg119
                      have mv123 := mv119.asto S119.1 ga0 rfl P123 (vy_no (by omega) (by omega) (by omega) (by omega) (fun h9 hh9 => by omega) (fun j9 hj9 => by omega))
                      refine lv_aload_n hx hb dX12_readHouse_136 rfl (lv_at hl 5 rfl) ?_
                      refine q_gr (T := TX12) C S123.1 ga0 1 kF_X12_13 dX12_readHouse_137 rfl rfl (by decide) rfl (by decide) rfl (fun g124 => ?_)
                      refine lv_iload_n hx hb dX12_readHouse_140 rfl (lv_at hl 4 rfl) ?_
                      refine lv_iconst (v := 4) hx hb dX12_readHouse_141 (by decide) ?_
                      have k_4 : (4 : Int32).toInt = 4 := by decide
                      refine callS_Pi C S123.1 S123.2.1.2.1 (c_X12_houseAt l D G v1 (4 : Int32) (by omega) (by omega)) kS_X12_49 (trivial) dX12_readHouse_142 hl.1 cd_X12_houseAt ⟨Nat.le_of_ble_eq_true rfl, Nat.le_of_ble_eq_true rfl, Nat.le_of_ble_eq_true rfl, Nat.le_of_ble_eq_true rfl, Nat.le_of_ble_eq_true rfl⟩ (fun v125 q125 => ?_)
                      refine lv_iload hx hb dX12_readHouse_145 (lv_at hl 0 rfl) ?_
                      have n126 : aN H123 (fR D H123 11 a0 1) = 2052 := len_31 S123.1 g124
                      refine q_iast C S123 g124 (by omega) (by omega) dX12_readHouse_147 rfl (by decide) (by decide +kernel) (fun _ _ h => wk_low _ _ (by omega) (fun h9 => by omega) (fun h9 => by omega) (fun h9 => by omega) (fun j hj h9 => by omega) h) (fun H127 L127 S127 P127 => ?_) (hs := fun _ => Or.inl (by decide +kernel))
                      have rb127 := rb123.cells S123.1 ga0 g124 (by decide) (by decide) P127.2.2.1
                      have bg127 : (fI D H127 11 a0 12).toInt = (((nx T (nx T (nx T (nx T b)))) : Nat) : Int) := by rw [Pa.f P127 (ne_role ga0 g124 (by decide))]; exact bg123
                      have mv127 := MV.ast mv123 S123.1 ga0 rfl P127 (k := 16 + (sg 0).toNat) (by omega) (by rw [vy_w]; omega)
                      refine lv_aload_n hx hb dX12_readHouse_148 rfl (lv_at hl 5 rfl) ?_
                      refine q_gr (T := TX12) C S127.1 ga0 1 kF_X12_13 dX12_readHouse_149 rfl rfl (by decide) rfl (by decide) rfl (fun g128 => ?_)
                      refine lv_iconst (v := 0) hx hb dX12_readHouse_152 (by decide) ?_
                      refine lv_dup2_11 hx hb dX12_readHouse_153 rfl rfl ?_
                      have mc9 : (eI H127 (fR D H127 11 a0 1) 0).toInt = sg 0 := (mv_0 mv127).trans (sup_o _ _ (by omega))
                      have n129 : aN H127 (fR D H127 11 a0 1) = 2052 := len_31 S127.1 g128
                      refine q_iald C S127.1 g128 (by omega) (by omega) dX12_readHouse_154 rfl (by decide) ?_
                      refine lv_topi (fun v130 ev130 => ?_)
                      have wv130 : v130.toInt = (eI H127 (fR D H127 11 a0 1) 0).toInt := by rw [ev130]; rfl
                      refine lv_iconst (v := 1) hx hb dX12_readHouse_155 (by decide) ?_
                      refine lv_iadd hx hb dX12_readHouse_156 ?_
                      refine lv_topi (fun v131 ev131 => ?_)
                      have f132 : v131.toInt = v130.toInt + (1 : Int32).toInt := by rw [ev131]; exact i_add (by omega) (by omega)
                      refine q_iast C S127 g128 (by omega) (by omega) dX12_readHouse_157 rfl (by decide) (by decide +kernel) (fun _ _ h => wk_low _ _ (by omega) (fun h9 => by omega) (fun h9 => by omega) (fun h9 => by omega) (fun j hj h9 => by omega) h) (fun H133 L133 S133 P133 => ?_) (hs := fun _ => Or.inl (by decide +kernel))
                      have rb133 := rb127.cells S127.1 ga0 g128 (by decide) (by decide) P133.2.2.1
                      have bg133 : (fI D H133 11 a0 12).toInt = (((nx T (nx T (nx T (nx T b)))) : Nat) : Int) := by rw [Pa.f P133 (ne_role ga0 g128 (by decide))]; exact bg127
                      have mv133 := MV.ast mv127 S127.1 ga0 rfl P133 (k := 0) (by decide) (by first | rfl | (show _ = 0; omega))
                      refine lv_iconst (v := 1) hx hb dX12_readHouse_158 (by decide) ?_
                      exact retE_z hQ C S133 hr dX12_readHouse_159 (z01 (by omega) (by omega)) (⟨by omega, RRP.ok (s1 := (hup sg 0)) (by simp [houF, houW, houP, houT, hc3, y5, w8, y8, y11, y75]) (by omega) rb133 (by have z9 := mv133; rw [show (0 : Int32).toInt = 0 by first | omega | decide, show v131.toInt = sg 0 + 1 by omega] at z9; exact z9) (PV.houF9 pv0)⟩)
                    · have b107 : ¬ (0 : Int32).toInt ≤ (0 : Int32).toInt := fun z9 => c107 (i_le.mpr z9)
                      exact absurd b107 (by omega)
                  · have b106 : ¬ v75.toInt = (0 : Int32).toInt := fun z9 => c106 (i_eq.mpr z9)
                    exact absurd b106 (by omega)
              · have b73 : ¬ v11.toInt = (0 : Int32).toInt := fun z9 => c73 (i_eq.mpr z9)
                exact absurd b73 (by omega)
          · have b9 : ¬ (0 : Int32).toInt ≤ v8.toInt := fun z9 => c9 (i_le.mpr z9)
            exact absurd b9 (by omega)
        · clear q8
          refine lv_istore_n (lv' := [(3, .int v8), (2, .int v5), (1, .int v1), (0, .ref a0)]) hx hb dX12_readHouse_39 rfl hl (by decide) rfl (fun ls hl => ?_)
          refine lv_iload_n hx hb dX12_readHouse_40 rfl (lv_at hl 0 rfl) ?_
          refine lv_if_ge (tgt := 46) hx hb dX12_readHouse_41 (by decide) (fun c134 => ?_) (fun c134 => ?_)
          · have b134 : (0 : Int32).toInt ≤ v8.toInt := i_le.mp c134
            exact absurd b134 (by omega)
          · have b134 : ¬ (0 : Int32).toInt ≤ v8.toInt := fun z9 => c134 (i_le.mpr z9)
            refine lv_iconst (v := 0) hx hb dX12_readHouse_44 (by decide) ?_
            exact retE_z hQ C S8 hr dX12_readHouse_45 (z01 (by omega) (by omega)) (⟨by omega, RRP.no (s1 := sg) (by simp [houF, houW, houP, houT, hc3, y5, w8, y8]) (by omega) wr8⟩)
        · clear q8
          refine lv_istore_n (lv' := [(3, .int v8), (2, .int v5), (1, .int v1), (0, .ref a0)]) hx hb dX12_readHouse_39 rfl hl (by decide) rfl (fun ls hl => ?_)
          refine lv_iload_n hx hb dX12_readHouse_40 rfl (lv_at hl 0 rfl) ?_
          refine lv_if_ge (tgt := 46) hx hb dX12_readHouse_41 (by decide) (fun c135 => ?_) (fun c135 => ?_)
          · have b135 : (0 : Int32).toInt ≤ v8.toInt := i_le.mp c135
            exact absurd b135 (by omega)
          · have b135 : ¬ (0 : Int32).toInt ≤ v8.toInt := fun z9 => c135 (i_le.mpr z9)
            refine lv_iconst (v := 0) hx hb dX12_readHouse_44 (by decide) ?_
            exact retE_z hQ C S8 hr dX12_readHouse_45 (z01 (by omega) (by omega)) (⟨by omega, RRP.no (s1 := sg) (by simp [houF, houW, houP, houT, hc3, y5, w8]) (by omega) wr8⟩)
      · have b6 : ¬ (0 : Int32).toInt ≤ v5.toInt := fun z9 => c6 (i_le.mpr z9)
        exact absurd b6 (by omega)
    · skip
      refine lv_istore_n (lv' := [(2, .int v5), (1, .int v1), (0, .ref a0)]) hx hb dX12_readHouse_21 rfl hl (by decide) rfl (fun ls hl => ?_)
      refine lv_iload_n hx hb dX12_readHouse_22 rfl (lv_at hl 0 rfl) ?_
      refine lv_if_ge (tgt := 30) hx hb dX12_readHouse_23 (by decide) (fun c136 => ?_) (fun c136 => ?_)
      · have b136 : (0 : Int32).toInt ≤ v5.toInt := i_le.mp c136
        exact absurd b136 (by omega)
      · have b136 : ¬ (0 : Int32).toInt ≤ v5.toInt := fun z9 => c136 (i_le.mpr z9)
        refine lv_iconst (v := -1) hx hb dX12_readHouse_26 (by decide) ?_
        refine lv_goto (tgt := 39) hx hb dX12_readHouse_27 (by decide) ?_
        refine lv_istore_n (lv' := [(3, .int (-1 : Int32)), (2, .int v5), (1, .int v1), (0, .ref a0)]) hx hb dX12_readHouse_39 rfl hl (by decide) rfl (fun ls hl => ?_)
        refine lv_iload_n hx hb dX12_readHouse_40 rfl (lv_at hl 0 rfl) ?_
        have k_m1 : (-1 : Int32).toInt = -1 := by decide
        refine lv_if_ge (tgt := 46) hx hb dX12_readHouse_41 (by decide) (fun c137 => ?_) (fun c137 => ?_)
        · have b137 : (0 : Int32).toInt ≤ (-1 : Int32).toInt := i_le.mp c137
          exact absurd b137 (by omega)
        · have b137 : ¬ (0 : Int32).toInt ≤ (-1 : Int32).toInt := fun z9 => c137 (i_le.mpr z9)
          refine lv_iconst (v := 0) hx hb dX12_readHouse_44 (by decide) ?_
          exact retE_z hQ C S5 hr dX12_readHouse_45 (z01 (by omega) (by omega)) (⟨by omega, RRP.no (s1 := sg) (by simp [houF, houW, houP, houT, hc3, y5]) (by omega) wr5⟩)
  · have b2 : v1.toInt = (6 : Int32).toInt := i_eq.mp c2
    have hc138 : sg 0 = 6 := by omega
    refine lv_iconst (v := 0) hx hb dX12_readHouse_11 (by decide) ?_
    have k_0 : (0 : Int32).toInt = 0 := by decide
    exact retE_z hQ C S hr dX12_readHouse_12 (z01 (by omega) (by omega)) (⟨by omega, RRP.no (s1 := sg) (by simp [houF, houW, houP, houT, hc138]) (by omega) ts0.2.2.1⟩)
