set_option maxRecDepth 100000 in
set_option maxHeartbeats 4000000 in
theorem c_X12_readHearth_f (l : Launch) (D : DD) (G : Nat → Nat) (a0 : Nat) (sg : Sg) (T : Tx) (b : Nat) (ga0 : G a0 = 30) (hw0 : isW T b w_hearth = true) : CE l D G yX12_readHearth cX12_readHearth 7 (some .boolean) 6 [.ref a0] (fun H => (True) ∧ (LB D H a0 T b ∧ MV D H a0 sg ∧ PV sg)) [(30, 10), (30, 12), (31, 0), (31, 1)] (xI (fun H r H1 => (0 ≤ r.toInt ∧ r.toInt ≤ 1) ∧ (RRP D H1 a0 T (heaF T sg b) r))) := by
  refine enter (by decide) (Nat.le_of_ble_eq_true rfl) ?_
  intro p e s m args below meth c ls Q hA hQ C hr hO hpre hl
  have hx := C.1
  have hb := C.2.1
  have S : Sd D G [(30, 10), (30, 12), (31, 0), (31, 1)] s.heap s.heap [] := Sd.start hO
  have hl : lv_has ls 7 [(0, .ref a0)] := hl
  obtain ⟨hpre, hf⟩ := hpre
  obtain ⟨ts0, mv0, pv0⟩ := hf
  have hT : T.2 ≤ 400 := ts0.le hO ga0
  have hs9 := mv_1 mv0
  refine lv_aload_n hx hb dX12_readHearth_0 rfl (lv_at hl 0 rfl) ?_
  refine callV_Pi C S.1 S.2.1.2.1 (c_X12_hearths_v l D G a0 ga0) kV_X12_67 ga0 (trivial) dX12_readHearth_1 hl.1 rfl rfl (by decide) cd_X12_hearths ⟨Nat.le_of_ble_eq_true rfl, Nat.le_of_ble_eq_true rfl, Nat.le_of_ble_eq_true rfl, Nat.le_of_ble_eq_true rfl, Nat.le_of_ble_eq_true rfl⟩ (fun v1 q1 => ?_)
  refine lv_istore_n (lv' := [(1, .int v1), (0, .ref a0)]) hx hb dX12_readHearth_4 rfl hl (by decide) rfl (fun ls hl => ?_)
  refine lv_iload_n hx hb dX12_readHearth_5 rfl (lv_at hl 0 rfl) ?_
  refine lv_bipush (v := 12) hx hb dX12_readHearth_6 (by decide) ?_
  have k_12 : (12 : Int32).toInt = 12 := by decide
  refine lv_icmp_ne (tgt := 13) hx hb dX12_readHearth_8 (by decide) (fun c2 => ?_) (fun c2 => ?_)
  · have b2 : ¬ v1.toInt = (12 : Int32).toInt := fun z9 => c2 (i_eq.mpr z9)
    have hc3 : ¬ sg 1 = 12 := by omega
    refine lv_aload_n hx hb dX12_readHearth_13 rfl (lv_at hl 1 rfl) ?_
    have rb4 := ts0.rb1 (isW_k hw0)
    refine callV_Ei C S (c_X12_kindTold_f l D G a0 T (nx T b) ga0) kV_X12_133 ga0 (⟨trivial, rb4⟩) (by decide +kernel) dX12_readHearth_14 hl.1 rfl rfl (by decide) cd_X12_kindTold ⟨Nat.le_of_ble_eq_true rfl, Nat.le_of_ble_eq_true rfl, Nat.le_of_ble_eq_true rfl, Nat.le_of_ble_eq_true rfl, Nat.le_of_ble_eq_true rfl⟩ (fun v5 H5 L5 S5 K5 q5 => ?_)
    obtain ⟨q5, fq5⟩ := q5
    have mv5 := mv0.keep S.1 ga0 K5 (by decide +kernel) (by decide +kernel)
    have z5 := fq5.1
    refine lv_istore_n (lv' := [(2, .int v5), (1, .int v1), (0, .ref a0)]) hx hb dX12_readHearth_17 rfl hl (by decide) rfl (fun ls hl => ?_)
    refine lv_iload_n hx hb dX12_readHearth_18 rfl (lv_at hl 0 rfl) ?_
    have k_0 : (0 : Int32).toInt = 0 := by decide
    refine lv_if_ge (tgt := 26) hx hb dX12_readHearth_19 (by decide) (fun c6 => ?_) (fun c6 => ?_)
    · have b6 : (0 : Int32).toInt ≤ v5.toInt := i_le.mp c6
      have hk7 : ¬ kin T (nx T b) = -1 := by omega
      have rbk := fq5.2.rb1 (kin_k hk7)
      refine lv_aload_n hx hb dX12_readHearth_26 rfl (lv_at hl 2 rfl) ?_
      refine q_lds C ks_X12_136 dX12_readHearth_27 (fun a8 ha8 wa8 => ?_)
      refine lv_iconst (v := 0) hx hb dX12_readHearth_29 (by decide) ?_
      refine lv_aload_n hx hb dX12_readHearth_30 rfl (lv_at hl 2 rfl) ?_
      refine callV_Pi C S5.1 S5.2.1.2.1 (c_X12_houses_v l D G a0 ga0) kV_X12_59 ga0 (trivial) dX12_readHearth_31 hl.1 rfl rfl (by decide) cd_X12_houses ⟨Nat.le_of_ble_eq_true rfl, Nat.le_of_ble_eq_true rfl, Nat.le_of_ble_eq_true rfl, Nat.le_of_ble_eq_true rfl, Nat.le_of_ble_eq_true rfl⟩ (fun v9 q9 => ?_)
      have hs8 : v9.toInt = sg 0 := q9.2.trans (mv_0 mv5)
      refine lv_iconst (v := 1) hx hb dX12_readHearth_34 (by decide) ?_
      have k_1 : (1 : Int32).toInt = 1 := by decide
      refine lv_isub hx hb dX12_readHearth_35 ?_
      refine lv_topi (fun v10 ev10 => ?_)
      have f11 : v10.toInt = v9.toInt - (1 : Int32).toInt := by rw [ev10]; exact i_sub (by omega) (by omega)
      refine callV_Ei C S5 (c_X12_after_f l D G a0 a8 2 (0 : Int32) v10 w_of 0 (sg 0 - 1) T (nx T (nx T b)) ga0 ha8 (by omega) (Wc.of wa8 kw_of) (by decide) (by omega) (by omega) (by omega)) kV_X12_114 ga0 (⟨trivial, rbk⟩) (by decide +kernel) dX12_readHearth_36 hl.1 rfl rfl (by decide) cd_X12_after ⟨Nat.le_of_ble_eq_true rfl, Nat.le_of_ble_eq_true rfl, Nat.le_of_ble_eq_true rfl, Nat.le_of_ble_eq_true rfl, Nat.le_of_ble_eq_true rfl⟩ (fun v12 H12 L12 S12 K12 q12 => ?_)
      obtain ⟨q12, fq12⟩ := q12
      have mv12 := mv5.keep S5.1 ga0 K12 (by decide +kernel) (by decide +kernel)
      rcases fq12 with ⟨w12, y12, z12, ts12, bg12⟩ | ⟨w12, y12, z12, wr12⟩ | ⟨w12, z12, wr12⟩
      · clear q12
        have u12 : 0 ≤ v12.toInt ∧ v12.toInt ≤ 5 := by have z9 := num_r (T := T) (b := nx T (nx T (nx T b))) (lo := 0) (hi := (sg 0 - 1)) (by decide); omega
        refine lv_istore_n (lv' := [(3, .int v12), (2, .int v5), (1, .int v1), (0, .ref a0)]) hx hb dX12_readHearth_39 rfl hl (by decide) rfl (fun ls hl => ?_)
        refine lv_iload_n hx hb dX12_readHearth_40 rfl (lv_at hl 0 rfl) ?_
        refine lv_if_lt (tgt := 57) hx hb dX12_readHearth_41 (by decide) (fun c13 => ?_) (fun c13 => ?_)
        · have b13 : v12.toInt < (0 : Int32).toInt := i_lt.mp c13
          exact absurd b13 (by omega)
        · have b13 : ¬ v12.toInt < (0 : Int32).toInt := fun z9 => c13 (i_lt.mpr z9)
          refine lv_aload_n hx hb dX12_readHearth_44 rfl (lv_at hl 3 rfl) ?_
          refine lv_iload_n hx hb dX12_readHearth_45 rfl (lv_at hl 0 rfl) ?_
          refine callV_Pi C S12.1 S12.2.1.2.1 (c_X12_hearthsOf_v l D G a0 v12 sg ga0) kV_X12_138 ga0 (mv12) dX12_readHearth_46 hl.1 rfl rfl (by decide) cd_X12_hearthsOf ⟨Nat.le_of_ble_eq_true rfl, Nat.le_of_ble_eq_true rfl, Nat.le_of_ble_eq_true rfl, Nat.le_of_ble_eq_true rfl, Nat.le_of_ble_eq_true rfl⟩ (fun v14 q14 => ?_)
          have hb2 : v14.toInt.toNat = bto sg v12.toInt (sg 1).toNat := by have := q14.2; omega
          refine callS_Pi C S12.1 S12.2.1.2.1 (c_J6_bitCount_0f7a4 l D G v14) kS_X12_142 (trivial) dX12_readHearth_49 hl.1 cd_J6_bitCount_0f7a4 ⟨Nat.le_of_ble_eq_true rfl, Nat.le_of_ble_eq_true rfl, Nat.le_of_ble_eq_true rfl, Nat.le_of_ble_eq_true rfl, Nat.le_of_ble_eq_true rfl⟩ (fun v15 q15 => ?_)
          have hon := q15 (by omega)
          rw [hb2] at hon
          refine lv_bipush (v := 6) hx hb dX12_readHearth_52 (by decide) ?_
          have k_6 : (6 : Int32).toInt = 6 := by decide
          refine lv_icmp_ne (tgt := 59) hx hb dX12_readHearth_54 (by decide) (fun c16 => ?_) (fun c16 => ?_)
          · have b16 : ¬ v15.toInt = (6 : Int32).toInt := fun z9 => c16 (i_eq.mpr z9)
            have hb17 : ¬ 6 ≤ ones (bto sg (num T (nx T (nx T (nx T b))) 0 (sg 0 - 1)) (sg 1).toNat) := by rw [← z12]; have z9 := pv0.2.2.1 v12.toInt; omega
            refine lv_aload_n hx hb dX12_readHearth_59 rfl (lv_at hl 3 rfl) ?_
            refine q_lds C ks_X12_147 dX12_readHearth_60 (fun a18 ha18 wa18 => ?_)
            refine lv_iconst (v := 0) hx hb dX12_readHearth_62 (by decide) ?_
            refine lv_bipush (v := 9) hx hb dX12_readHearth_63 (by decide) ?_
            have k_9 : (9 : Int32).toInt = 9 := by decide
            refine callV_Ei C S12 (c_X12_after_f l D G a0 a18 4 (0 : Int32) (9 : Int32) w_flue 0 9 T (nx T (nx T (nx T (nx T b)))) ga0 ha18 (by omega) (Wc.of wa18 kw_flue) (by decide) (by omega) (by omega) (by omega)) kV_X12_114 ga0 (⟨trivial, ts12⟩) (by decide +kernel) dX12_readHearth_65 hl.1 rfl rfl (by decide) cd_X12_after ⟨Nat.le_of_ble_eq_true rfl, Nat.le_of_ble_eq_true rfl, Nat.le_of_ble_eq_true rfl, Nat.le_of_ble_eq_true rfl, Nat.le_of_ble_eq_true rfl⟩ (fun v19 H19 L19 S19 K19 q19 => ?_)
            obtain ⟨q19, fq19⟩ := q19
            have mv19 := mv12.keep S12.1 ga0 K19 (by decide +kernel) (by decide +kernel)
            rcases fq19 with ⟨w19, y19, z19, ts19, bg19⟩ | ⟨w19, y19, z19, wr19⟩ | ⟨w19, z19, wr19⟩
            · clear q19
              have u19 : 0 ≤ v19.toInt ∧ v19.toInt ≤ 9 := by have z9 := num_r (T := T) (b := nx T (nx T (nx T (nx T (nx T b))))) (lo := 0) (hi := 9) (by decide); omega
              refine lv_istore (lv' := [(4, .int v19), (3, .int v12), (2, .int v5), (1, .int v1), (0, .ref a0)]) hx hb dX12_readHearth_68 hl (by decide) rfl (fun ls hl => ?_)
              refine lv_iload hx hb dX12_readHearth_70 (lv_at hl 0 rfl) ?_
              refine lv_if_ge (tgt := 79) hx hb dX12_readHearth_72 (by decide) (fun c20 => ?_) (fun c20 => ?_)
              · have b20 : (0 : Int32).toInt ≤ v19.toInt := i_le.mp c20
                refine lv_aload_n hx hb dX12_readHearth_79 rfl (lv_at hl 4 rfl) ?_
                refine q_lds C ks_X12_149 dX12_readHearth_80 (fun a21 ha21 wa21 => ?_)
                refine lv_iconst (v := 1) hx hb dX12_readHearth_82 (by decide) ?_
                refine lv_bipush (v := 9) hx hb dX12_readHearth_83 (by decide) ?_
                refine callV_Ei C S19 (c_X12_after_f l D G a0 a21 4 (1 : Int32) (9 : Int32) w_warm 1 9 T (nx T (nx T (nx T (nx T (nx T (nx T b)))))) ga0 ha21 (by omega) (Wc.of wa21 kw_warm) (by decide) (by omega) (by omega) (by omega)) kV_X12_114 ga0 (⟨trivial, ts19⟩) (by decide +kernel) dX12_readHearth_85 hl.1 rfl rfl (by decide) cd_X12_after ⟨Nat.le_of_ble_eq_true rfl, Nat.le_of_ble_eq_true rfl, Nat.le_of_ble_eq_true rfl, Nat.le_of_ble_eq_true rfl, Nat.le_of_ble_eq_true rfl⟩ (fun v22 H22 L22 S22 K22 q22 => ?_)
                obtain ⟨q22, fq22⟩ := q22
                have mv22 := mv19.keep S19.1 ga0 K22 (by decide +kernel) (by decide +kernel)
                rcases fq22 with ⟨w22, y22, z22, ts22, bg22⟩ | ⟨w22, y22, z22, wr22⟩ | ⟨w22, z22, wr22⟩
                · clear q22
                  have u22 : 1 ≤ v22.toInt ∧ v22.toInt ≤ 9 := by have z9 := num_r (T := T) (b := nx T (nx T (nx T (nx T (nx T (nx T (nx T b))))))) (lo := 1) (hi := 9) (by decide); omega
                  refine lv_istore (lv' := [(5, .int v22), (4, .int v19), (3, .int v12), (2, .int v5), (1, .int v1), (0, .ref a0)]) hx hb dX12_readHearth_88 hl (by decide) rfl (fun ls hl => ?_)
                  refine lv_iload hx hb dX12_readHearth_90 (lv_at hl 0 rfl) ?_
                  refine lv_if_ge (tgt := 99) hx hb dX12_readHearth_92 (by decide) (fun c23 => ?_) (fun c23 => ?_)
                  · have b23 : (0 : Int32).toInt ≤ v22.toInt := i_le.mp c23
                    refine lv_aload_n hx hb dX12_readHearth_99 rfl (lv_at hl 5 rfl) ?_
                    refine q_lds C ks_X12_151 dX12_readHearth_100 (fun a24 ha24 wa24 => ?_)
                    refine lv_iconst (v := 1) hx hb dX12_readHearth_102 (by decide) ?_
                    refine lv_bipush (v := 30) hx hb dX12_readHearth_103 (by decide) ?_
                    have k_30 : (30 : Int32).toInt = 30 := by decide
                    refine callV_Ei C S22 (c_X12_after_f l D G a0 a24 4 (1 : Int32) (30 : Int32) w_wall 1 30 T (nx T (nx T (nx T (nx T (nx T (nx T (nx T (nx T b)))))))) ga0 ha24 (by omega) (Wc.of wa24 kw_wall) (by decide) (by omega) (by omega) (by omega)) kV_X12_114 ga0 (⟨trivial, ts22⟩) (by decide +kernel) dX12_readHearth_105 hl.1 rfl rfl (by decide) cd_X12_after ⟨Nat.le_of_ble_eq_true rfl, Nat.le_of_ble_eq_true rfl, Nat.le_of_ble_eq_true rfl, Nat.le_of_ble_eq_true rfl, Nat.le_of_ble_eq_true rfl⟩ (fun v25 H25 L25 S25 K25 q25 => ?_)
                    obtain ⟨q25, fq25⟩ := q25
                    have mv25 := mv22.keep S22.1 ga0 K25 (by decide +kernel) (by decide +kernel)
                    rcases fq25 with ⟨w25, y25, z25, ts25, bg25⟩ | ⟨w25, y25, z25, wr25⟩ | ⟨w25, z25, wr25⟩
                    · clear q25
                      have u25 : 1 ≤ v25.toInt ∧ v25.toInt ≤ 30 := by have z9 := num_r (T := T) (b := nx T (nx T (nx T (nx T (nx T (nx T (nx T (nx T (nx T b))))))))) (lo := 1) (hi := 30) (by decide); omega
                      refine lv_istore (lv' := [(6, .int v25), (5, .int v22), (4, .int v19), (3, .int v12), (2, .int v5), (1, .int v1), (0, .ref a0)]) hx hb dX12_readHearth_108 hl (by decide) rfl (fun ls hl => ?_)
                      refine lv_iload hx hb dX12_readHearth_110 (lv_at hl 0 rfl) ?_
                      refine lv_if_ge (tgt := 117) hx hb dX12_readHearth_112 (by decide) (fun c26 => ?_) (fun c26 => ?_)
                      · have b26 : (0 : Int32).toInt ≤ v25.toInt := i_le.mp c26
                        refine lv_aload_n hx hb dX12_readHearth_117 rfl (lv_at hl 6 rfl) ?_
                        refine q_gr (T := TX12) C S25.1 ga0 1 kF_X12_13 dX12_readHearth_118 rfl rfl (by decide) rfl (by decide) rfl (fun g27 => ?_)
                        refine lv_iload_n hx hb dX12_readHearth_121 rfl (lv_at hl 5 rfl) ?_
                        refine lv_iconst (v := 0) hx hb dX12_readHearth_122 (by decide) ?_
                        refine callS_Pi C S25.1 S25.2.1.2.1 (c_X12_hearthAt l D G v1 (0 : Int32) (by omega) (by omega)) kS_X12_53 (trivial) dX12_readHearth_123 hl.1 cd_X12_hearthAt ⟨Nat.le_of_ble_eq_true rfl, Nat.le_of_ble_eq_true rfl, Nat.le_of_ble_eq_true rfl, Nat.le_of_ble_eq_true rfl, Nat.le_of_ble_eq_true rfl⟩ (fun v28 q28 => ?_)
                        refine lv_iload_n hx hb dX12_readHearth_126 rfl (lv_at hl 3 rfl) ?_
                        have n29 : aN H25 (fR D H25 11 a0 1) = 2052 := len_31 S25.1 g27
                        refine q_iast C S25 g27 (by omega) (by omega) dX12_readHearth_127 rfl (by decide) (by decide +kernel) (fun _ _ h => wk_low _ _ (by omega) (fun h9 => by omega) (fun h9 => by omega) (fun h9 => by omega) (fun j hj h9 => by omega) h) (fun H30 L30 S30 P30 => ?_) (hs := fun _ => Or.inl (by decide +kernel))
                        have rb30 := ts25.cells S25.1 ga0 g27 (by decide) (by decide) P30.2.2.1
                        have bg30 : (fI D H30 11 a0 12).toInt = (((nx T (nx T (nx T (nx T (nx T (nx T (nx T (nx T (nx T b))))))))) : Nat) : Int) := by rw [Pa.f P30 (ne_role ga0 g27 (by decide))]; exact bg25
                        have mv30 := MV.ast mv25 S25.1 ga0 rfl P30 (k := 3 + (sg 1).toNat) (by omega) (by rw [vy_h (by omega)]; omega)
                        refine lv_aload_n hx hb dX12_readHearth_128 rfl (lv_at hl 6 rfl) ?_
                        refine q_gr (T := TX12) C S30.1 ga0 1 kF_X12_13 dX12_readHearth_129 rfl rfl (by decide) rfl (by decide) rfl (fun g31 => ?_)
                        refine lv_iload_n hx hb dX12_readHearth_132 rfl (lv_at hl 5 rfl) ?_
                        refine lv_iconst (v := 1) hx hb dX12_readHearth_133 (by decide) ?_
                        refine callS_Pi C S30.1 S30.2.1.2.1 (c_X12_hearthAt l D G v1 (1 : Int32) (by omega) (by omega)) kS_X12_53 (trivial) dX12_readHearth_134 hl.1 cd_X12_hearthAt ⟨Nat.le_of_ble_eq_true rfl, Nat.le_of_ble_eq_true rfl, Nat.le_of_ble_eq_true rfl, Nat.le_of_ble_eq_true rfl, Nat.le_of_ble_eq_true rfl⟩ (fun v32 q32 => ?_)
                        refine lv_iload_n hx hb dX12_readHearth_137 rfl (lv_at hl 4 rfl) ?_
                        have n33 : aN H30 (fR D H30 11 a0 1) = 2052 := len_31 S30.1 g31
                        refine q_iast C S30 g31 (by omega) (by omega) dX12_readHearth_138 rfl (by decide) (by decide +kernel) (fun _ _ h => wk_low _ _ (by omega) (fun h9 => by omega) (fun h9 => by omega) (fun h9 => by omega) (fun j hj h9 => by omega) h) (fun H34 L34 S34 P34 => ?_) (hs := fun _ => Or.inl (by decide +kernel))
                        have rb34 := rb30.cells S30.1 ga0 g31 (by decide) (by decide) P34.2.2.1
                        have bg34 : (fI D H34 11 a0 12).toInt = (((nx T (nx T (nx T (nx T (nx T (nx T (nx T (nx T (nx T b))))))))) : Nat) : Int) := by rw [Pa.f P34 (ne_role ga0 g31 (by decide))]; exact bg30
                        have mv34 := mv30.asto S30.1 ga0 rfl P34 (vy_no (by omega) (by omega) (by omega) (by omega) (fun h9 hh9 => by omega) (fun j9 hj9 => by omega))
                        refine lv_aload_n hx hb dX12_readHearth_139 rfl (lv_at hl 6 rfl) ?_
                        refine q_gr (T := TX12) C S34.1 ga0 1 kF_X12_13 dX12_readHearth_140 rfl rfl (by decide) rfl (by decide) rfl (fun g35 => ?_)
                        refine lv_iload_n hx hb dX12_readHearth_143 rfl (lv_at hl 5 rfl) ?_
                        refine lv_iconst (v := 2) hx hb dX12_readHearth_144 (by decide) ?_
                        have k_2 : (2 : Int32).toInt = 2 := by decide
                        refine callS_Pi C S34.1 S34.2.1.2.1 (c_X12_hearthAt l D G v1 (2 : Int32) (by omega) (by omega)) kS_X12_53 (trivial) dX12_readHearth_145 hl.1 cd_X12_hearthAt ⟨Nat.le_of_ble_eq_true rfl, Nat.le_of_ble_eq_true rfl, Nat.le_of_ble_eq_true rfl, Nat.le_of_ble_eq_true rfl, Nat.le_of_ble_eq_true rfl⟩ (fun v36 q36 => ?_)
                        refine lv_iload hx hb dX12_readHearth_148 (lv_at hl 2 rfl) ?_
                        have n37 : aN H34 (fR D H34 11 a0 1) = 2052 := len_31 S34.1 g35
                        refine q_iast C S34 g35 (by omega) (by omega) dX12_readHearth_150 rfl (by decide) (by decide +kernel) (fun _ _ h => wk_low _ _ (by omega) (fun h9 => by omega) (fun h9 => by omega) (fun h9 => by omega) (fun j hj h9 => by omega) h) (fun H38 L38 S38 P38 => ?_) (hs := fun _ => Or.inl (by decide +kernel))
                        have rb38 := rb34.cells S34.1 ga0 g35 (by decide) (by decide) P38.2.2.1
                        have bg38 : (fI D H38 11 a0 12).toInt = (((nx T (nx T (nx T (nx T (nx T (nx T (nx T (nx T (nx T b))))))))) : Nat) : Int) := by rw [Pa.f P38 (ne_role ga0 g35 (by decide))]; exact bg34
                        have mv38 := mv34.asto S34.1 ga0 rfl P38 (vy_no (by omega) (by omega) (by omega) (by omega) (fun h9 hh9 => by omega) (fun j9 hj9 => by omega))
                        refine lv_aload_n hx hb dX12_readHearth_151 rfl (lv_at hl 6 rfl) ?_
                        refine q_gr (T := TX12) C S38.1 ga0 1 kF_X12_13 dX12_readHearth_152 rfl rfl (by decide) rfl (by decide) rfl (fun g39 => ?_)
                        refine lv_iload_n hx hb dX12_readHearth_155 rfl (lv_at hl 5 rfl) ?_
                        refine lv_iconst (v := 3) hx hb dX12_readHearth_156 (by decide) ?_
                        have k_3 : (3 : Int32).toInt = 3 := by decide
                        refine callS_Pi C S38.1 S38.2.1.2.1 (c_X12_hearthAt l D G v1 (3 : Int32) (by omega) (by omega)) kS_X12_53 (trivial) dX12_readHearth_157 hl.1 cd_X12_hearthAt ⟨Nat.le_of_ble_eq_true rfl, Nat.le_of_ble_eq_true rfl, Nat.le_of_ble_eq_true rfl, Nat.le_of_ble_eq_true rfl, Nat.le_of_ble_eq_true rfl⟩ (fun v40 q40 => ?_)
                        refine lv_iload hx hb dX12_readHearth_160 (lv_at hl 1 rfl) ?_
                        have n41 : aN H38 (fR D H38 11 a0 1) = 2052 := len_31 S38.1 g39
                        refine q_iast C S38 g39 (by omega) (by omega) dX12_readHearth_162 rfl (by decide) (by decide +kernel) (fun _ _ h => wk_low _ _ (by omega) (fun h9 => by omega) (fun h9 => by omega) (fun h9 => by omega) (fun j hj h9 => by omega) h) (fun H42 L42 S42 P42 => ?_) (hs := fun _ => Or.inl (by decide +kernel))
                        have rb42 := rb38.cells S38.1 ga0 g39 (by decide) (by decide) P42.2.2.1
                        have bg42 : (fI D H42 11 a0 12).toInt = (((nx T (nx T (nx T (nx T (nx T (nx T (nx T (nx T (nx T b))))))))) : Nat) : Int) := by rw [Pa.f P42 (ne_role ga0 g39 (by decide))]; exact bg38
                        have mv42 := mv38.asto S38.1 ga0 rfl P42 (vy_no (by omega) (by omega) (by omega) (by omega) (fun h9 hh9 => by omega) (fun j9 hj9 => by omega))
                        refine lv_aload_n hx hb dX12_readHearth_163 rfl (lv_at hl 6 rfl) ?_
                        refine q_gr (T := TX12) C S42.1 ga0 1 kF_X12_13 dX12_readHearth_164 rfl rfl (by decide) rfl (by decide) rfl (fun g43 => ?_)
                        refine lv_iload_n hx hb dX12_readHearth_167 rfl (lv_at hl 5 rfl) ?_
                        refine lv_iconst (v := 4) hx hb dX12_readHearth_168 (by decide) ?_
                        have k_4 : (4 : Int32).toInt = 4 := by decide
                        refine callS_Pi C S42.1 S42.2.1.2.1 (c_X12_hearthAt l D G v1 (4 : Int32) (by omega) (by omega)) kS_X12_53 (trivial) dX12_readHearth_169 hl.1 cd_X12_hearthAt ⟨Nat.le_of_ble_eq_true rfl, Nat.le_of_ble_eq_true rfl, Nat.le_of_ble_eq_true rfl, Nat.le_of_ble_eq_true rfl, Nat.le_of_ble_eq_true rfl⟩ (fun v44 q44 => ?_)
                        refine lv_iload hx hb dX12_readHearth_172 (lv_at hl 0 rfl) ?_
                        have n45 : aN H42 (fR D H42 11 a0 1) = 2052 := len_31 S42.1 g43
                        refine q_iast C S42 g43 (by omega) (by omega) dX12_readHearth_174 rfl (by decide) (by decide +kernel) (fun _ _ h => wk_low _ _ (by omega) (fun h9 => by omega) (fun h9 => by omega) (fun h9 => by omega) (fun j hj h9 => by omega) h) (fun H46 L46 S46 P46 => ?_) (hs := fun _ => Or.inl (by decide +kernel))
                        have rb46 := rb42.cells S42.1 ga0 g43 (by decide) (by decide) P46.2.2.1
                        have bg46 : (fI D H46 11 a0 12).toInt = (((nx T (nx T (nx T (nx T (nx T (nx T (nx T (nx T (nx T b))))))))) : Nat) : Int) := by rw [Pa.f P46 (ne_role ga0 g43 (by decide))]; exact bg42
                        have mv46 := mv42.asto S42.1 ga0 rfl P46 (vy_no (by omega) (by omega) (by omega) (by omega) (fun h9 hh9 => by omega) (fun j9 hj9 => by omega))
                        refine lv_aload_n hx hb dX12_readHearth_175 rfl (lv_at hl 6 rfl) ?_
                        refine q_gr (T := TX12) C S46.1 ga0 1 kF_X12_13 dX12_readHearth_176 rfl rfl (by decide) rfl (by decide) rfl (fun g47 => ?_)
                        refine lv_iload_n hx hb dX12_readHearth_179 rfl (lv_at hl 5 rfl) ?_
                        refine lv_iconst (v := 5) hx hb dX12_readHearth_180 (by decide) ?_
                        have k_5 : (5 : Int32).toInt = 5 := by decide
                        refine callS_Pi C S46.1 S46.2.1.2.1 (c_X12_hearthAt l D G v1 (5 : Int32) (by omega) (by omega)) kS_X12_53 (trivial) dX12_readHearth_181 hl.1 cd_X12_hearthAt ⟨Nat.le_of_ble_eq_true rfl, Nat.le_of_ble_eq_true rfl, Nat.le_of_ble_eq_true rfl, Nat.le_of_ble_eq_true rfl, Nat.le_of_ble_eq_true rfl⟩ (fun v48 q48 => ?_)
                        refine lv_iconst (v := 0) hx hb dX12_readHearth_184 (by decide) ?_
                        have n49 : aN H46 (fR D H46 11 a0 1) = 2052 := len_31 S46.1 g47
                        refine q_iast C S46 g47 (by omega) (by omega) dX12_readHearth_185 rfl (by decide) (by decide +kernel) (fun _ _ h => wk_low _ _ (by omega) (fun h9 => by omega) (fun h9 => by omega) (fun h9 => by omega) (fun j hj h9 => by omega) h) (fun H50 L50 S50 P50 => ?_) (hs := fun _ => Or.inl (by decide +kernel))
                        have rb50 := rb46.cells S46.1 ga0 g47 (by decide) (by decide) P50.2.2.1
                        have bg50 : (fI D H50 11 a0 12).toInt = (((nx T (nx T (nx T (nx T (nx T (nx T (nx T (nx T (nx T b))))))))) : Nat) : Int) := by rw [Pa.f P50 (ne_role ga0 g47 (by decide))]; exact bg46
                        have mv50 := mv46.asto S46.1 ga0 rfl P50 (vy_no (by omega) (by omega) (by omega) (by omega) (fun h9 hh9 => by omega) (fun j9 hj9 => by omega))
                        refine lv_aload_n hx hb dX12_readHearth_186 rfl (lv_at hl 6 rfl) ?_
                        refine q_gr (T := TX12) C S50.1 ga0 1 kF_X12_13 dX12_readHearth_187 rfl rfl (by decide) rfl (by decide) rfl (fun g51 => ?_)
                        refine lv_iconst (v := 1) hx hb dX12_readHearth_190 (by decide) ?_
                        refine lv_dup2_11 hx hb dX12_readHearth_191 rfl rfl ?_
                        have mc9 : (eI H50 (fR D H50 11 a0 1) 1).toInt = sg 1 := (mv_1 mv50).trans (sup_o _ _ (by omega))
                        have n52 : aN H50 (fR D H50 11 a0 1) = 2052 := len_31 S50.1 g51
                        refine q_iald C S50.1 g51 (by omega) (by omega) dX12_readHearth_192 rfl (by decide) ?_
                        refine lv_topi (fun v53 ev53 => ?_)
                        have wv53 : v53.toInt = (eI H50 (fR D H50 11 a0 1) 1).toInt := by rw [ev53]; rfl
                        refine lv_iconst (v := 1) hx hb dX12_readHearth_193 (by decide) ?_
                        refine lv_iadd hx hb dX12_readHearth_194 ?_
                        refine lv_topi (fun v54 ev54 => ?_)
                        have f55 : v54.toInt = v53.toInt + (1 : Int32).toInt := by rw [ev54]; exact i_add (by omega) (by omega)
                        refine q_iast C S50 g51 (by omega) (by omega) dX12_readHearth_195 rfl (by decide) (by decide +kernel) (fun _ _ h => wk_low _ _ (by omega) (fun h9 => by omega) (fun h9 => by omega) (fun h9 => by omega) (fun j hj h9 => by omega) h) (fun H56 L56 S56 P56 => ?_) (hs := fun _ => Or.inl (by decide +kernel))
                        have rb56 := rb50.cells S50.1 ga0 g51 (by decide) (by decide) P56.2.2.1
                        have bg56 : (fI D H56 11 a0 12).toInt = (((nx T (nx T (nx T (nx T (nx T (nx T (nx T (nx T (nx T b))))))))) : Nat) : Int) := by rw [Pa.f P56 (ne_role ga0 g51 (by decide))]; exact bg50
                        have mv56 := MV.ast mv50 S50.1 ga0 rfl P56 (k := 1) (by decide) (by first | rfl | (show _ = 1; omega))
                        refine lv_iconst (v := 1) hx hb dX12_readHearth_196 (by decide) ?_
                        exact retE_z hQ C S56 hr dX12_readHearth_197 (z01 (by omega) (by omega)) (⟨by omega, RRP.ok (s1 := (fup sg (num T (nx T (nx T (nx T b))) 0 (sg 0 - 1)))) (by simp [heaF, heaO, hea1, hea2, hea3, hc3, hk7, w12, y12, hb17, w19, y19, w22, y22, w25, y25]) (by omega) rb56 (by have z9 := mv56; rw [show v12.toInt = num T (nx T (nx T (nx T b))) 0 (sg 0 - 1) by omega, show v54.toInt = sg 1 + 1 by omega] at z9; exact z9) (PV.heaF9 pv0)⟩)
                      · have b26 : ¬ (0 : Int32).toInt ≤ v25.toInt := fun z9 => c26 (i_le.mpr z9)
                        exact absurd b26 (by omega)
                    · clear q25
                      refine lv_istore (lv' := [(6, .int v25), (5, .int v22), (4, .int v19), (3, .int v12), (2, .int v5), (1, .int v1), (0, .ref a0)]) hx hb dX12_readHearth_108 hl (by decide) rfl (fun ls hl => ?_)
                      refine lv_iload hx hb dX12_readHearth_110 (lv_at hl 0 rfl) ?_
                      refine lv_if_ge (tgt := 117) hx hb dX12_readHearth_112 (by decide) (fun c57 => ?_) (fun c57 => ?_)
                      · have b57 : (0 : Int32).toInt ≤ v25.toInt := i_le.mp c57
                        exact absurd b57 (by omega)
                      · have b57 : ¬ (0 : Int32).toInt ≤ v25.toInt := fun z9 => c57 (i_le.mpr z9)
                        refine lv_iconst (v := 0) hx hb dX12_readHearth_115 (by decide) ?_
                        exact retE_z hQ C S25 hr dX12_readHearth_116 (z01 (by omega) (by omega)) (⟨by omega, RRP.no (s1 := sg) (by simp [heaF, heaO, hea1, hea2, hea3, hc3, hk7, w12, y12, hb17, w19, y19, w22, y22, w25, y25]) (by omega) wr25⟩)
                    · clear q25
                      refine lv_istore (lv' := [(6, .int v25), (5, .int v22), (4, .int v19), (3, .int v12), (2, .int v5), (1, .int v1), (0, .ref a0)]) hx hb dX12_readHearth_108 hl (by decide) rfl (fun ls hl => ?_)
                      refine lv_iload hx hb dX12_readHearth_110 (lv_at hl 0 rfl) ?_
                      refine lv_if_ge (tgt := 117) hx hb dX12_readHearth_112 (by decide) (fun c58 => ?_) (fun c58 => ?_)
                      · have b58 : (0 : Int32).toInt ≤ v25.toInt := i_le.mp c58
                        exact absurd b58 (by omega)
                      · have b58 : ¬ (0 : Int32).toInt ≤ v25.toInt := fun z9 => c58 (i_le.mpr z9)
                        refine lv_iconst (v := 0) hx hb dX12_readHearth_115 (by decide) ?_
                        exact retE_z hQ C S25 hr dX12_readHearth_116 (z01 (by omega) (by omega)) (⟨by omega, RRP.no (s1 := sg) (by simp [heaF, heaO, hea1, hea2, hea3, hc3, hk7, w12, y12, hb17, w19, y19, w22, y22, w25]) (by omega) wr25⟩)
                  · have b23 : ¬ (0 : Int32).toInt ≤ v22.toInt := fun z9 => c23 (i_le.mpr z9)
                    exact absurd b23 (by omega)
                · clear q22
                  refine lv_istore (lv' := [(5, .int v22), (4, .int v19), (3, .int v12), (2, .int v5), (1, .int v1), (0, .ref a0)]) hx hb dX12_readHearth_88 hl (by decide) rfl (fun ls hl => ?_)
                  refine lv_iload hx hb dX12_readHearth_90 (lv_at hl 0 rfl) ?_
                  refine lv_if_ge (tgt := 99) hx hb dX12_readHearth_92 (by decide) (fun c59 => ?_) (fun c59 => ?_)
                  · have b59 : (0 : Int32).toInt ≤ v22.toInt := i_le.mp c59
                    exact absurd b59 (by omega)
                  · have b59 : ¬ (0 : Int32).toInt ≤ v22.toInt := fun z9 => c59 (i_le.mpr z9)
                    refine lv_iconst (v := -1) hx hb dX12_readHearth_95 (by decide) ?_
                    refine lv_goto (tgt := 108) hx hb dX12_readHearth_96 (by decide) ?_
                    refine lv_istore (lv' := [(6, .int (-1 : Int32)), (5, .int v22), (4, .int v19), (3, .int v12), (2, .int v5), (1, .int v1), (0, .ref a0)]) hx hb dX12_readHearth_108 hl (by decide) rfl (fun ls hl => ?_)
                    refine lv_iload hx hb dX12_readHearth_110 (lv_at hl 0 rfl) ?_
                    have k_m1 : (-1 : Int32).toInt = -1 := by decide
                    refine lv_if_ge (tgt := 117) hx hb dX12_readHearth_112 (by decide) (fun c60 => ?_) (fun c60 => ?_)
                    · have b60 : (0 : Int32).toInt ≤ (-1 : Int32).toInt := i_le.mp c60
                      exact absurd b60 (by omega)
                    · have b60 : ¬ (0 : Int32).toInt ≤ (-1 : Int32).toInt := fun z9 => c60 (i_le.mpr z9)
                      refine lv_iconst (v := 0) hx hb dX12_readHearth_115 (by decide) ?_
                      exact retE_z hQ C S22 hr dX12_readHearth_116 (z01 (by omega) (by omega)) (⟨by omega, RRP.no (s1 := sg) (by simp [heaF, heaO, hea1, hea2, hea3, hc3, hk7, w12, y12, hb17, w19, y19, w22, y22]) (by omega) wr22⟩)
                · clear q22
                  refine lv_istore (lv' := [(5, .int v22), (4, .int v19), (3, .int v12), (2, .int v5), (1, .int v1), (0, .ref a0)]) hx hb dX12_readHearth_88 hl (by decide) rfl (fun ls hl => ?_)
                  refine lv_iload hx hb dX12_readHearth_90 (lv_at hl 0 rfl) ?_
                  refine lv_if_ge (tgt := 99) hx hb dX12_readHearth_92 (by decide) (fun c61 => ?_) (fun c61 => ?_)
                  · have b61 : (0 : Int32).toInt ≤ v22.toInt := i_le.mp c61
                    exact absurd b61 (by omega)
                  · have b61 : ¬ (0 : Int32).toInt ≤ v22.toInt := fun z9 => c61 (i_le.mpr z9)
                    refine lv_iconst (v := -1) hx hb dX12_readHearth_95 (by decide) ?_
                    refine lv_goto (tgt := 108) hx hb dX12_readHearth_96 (by decide) ?_
                    refine lv_istore (lv' := [(6, .int (-1 : Int32)), (5, .int v22), (4, .int v19), (3, .int v12), (2, .int v5), (1, .int v1), (0, .ref a0)]) hx hb dX12_readHearth_108 hl (by decide) rfl (fun ls hl => ?_)
                    refine lv_iload hx hb dX12_readHearth_110 (lv_at hl 0 rfl) ?_
                    have k_m1 : (-1 : Int32).toInt = -1 := by decide
                    refine lv_if_ge (tgt := 117) hx hb dX12_readHearth_112 (by decide) (fun c62 => ?_) (fun c62 => ?_)
                    · have b62 : (0 : Int32).toInt ≤ (-1 : Int32).toInt := i_le.mp c62
                      exact absurd b62 (by omega)
                    · have b62 : ¬ (0 : Int32).toInt ≤ (-1 : Int32).toInt := fun z9 => c62 (i_le.mpr z9)
                      refine lv_iconst (v := 0) hx hb dX12_readHearth_115 (by decide) ?_
                      exact retE_z hQ C S22 hr dX12_readHearth_116 (z01 (by omega) (by omega)) (⟨by omega, RRP.no (s1 := sg) (by simp [heaF, heaO, hea1, hea2, hea3, hc3, hk7, w12, y12, hb17, w19, y19, w22]) (by omega) wr22⟩)
              · have b20 : ¬ (0 : Int32).toInt ≤ v19.toInt := fun z9 => c20 (i_le.mpr z9)
                exact absurd b20 (by omega)
            · clear q19
              refine lv_istore (lv' := [(4, .int v19), (3, .int v12), (2, .int v5), (1, .int v1), (0, .ref a0)]) hx hb dX12_readHearth_68 hl (by decide) rfl (fun ls hl => ?_)
              refine lv_iload hx hb dX12_readHearth_70 (lv_at hl 0 rfl) ?_
              refine lv_if_ge (tgt := 79) hx hb dX12_readHearth_72 (by decide) (fun c63 => ?_) (fun c63 => ?_)
              · have b63 : (0 : Int32).toInt ≤ v19.toInt := i_le.mp c63
                exact absurd b63 (by omega)
              · have b63 : ¬ (0 : Int32).toInt ≤ v19.toInt := fun z9 => c63 (i_le.mpr z9)
                refine lv_iconst (v := -1) hx hb dX12_readHearth_75 (by decide) ?_
                refine lv_goto (tgt := 88) hx hb dX12_readHearth_76 (by decide) ?_
                refine lv_istore (lv' := [(5, .int (-1 : Int32)), (4, .int v19), (3, .int v12), (2, .int v5), (1, .int v1), (0, .ref a0)]) hx hb dX12_readHearth_88 hl (by decide) rfl (fun ls hl => ?_)
                refine lv_iload hx hb dX12_readHearth_90 (lv_at hl 0 rfl) ?_
                have k_m1 : (-1 : Int32).toInt = -1 := by decide
                refine lv_if_ge (tgt := 99) hx hb dX12_readHearth_92 (by decide) (fun c64 => ?_) (fun c64 => ?_)
                · have b64 : (0 : Int32).toInt ≤ (-1 : Int32).toInt := i_le.mp c64
                  exact absurd b64 (by omega)
                · have b64 : ¬ (0 : Int32).toInt ≤ (-1 : Int32).toInt := fun z9 => c64 (i_le.mpr z9)
                  refine lv_iconst (v := -1) hx hb dX12_readHearth_95 (by decide) ?_
                  refine lv_goto (tgt := 108) hx hb dX12_readHearth_96 (by decide) ?_
                  refine lv_istore (lv' := [(6, .int (-1 : Int32)), (5, .int (-1 : Int32)), (4, .int v19), (3, .int v12), (2, .int v5), (1, .int v1), (0, .ref a0)]) hx hb dX12_readHearth_108 hl (by decide) rfl (fun ls hl => ?_)
                  refine lv_iload hx hb dX12_readHearth_110 (lv_at hl 0 rfl) ?_
                  refine lv_if_ge (tgt := 117) hx hb dX12_readHearth_112 (by decide) (fun c65 => ?_) (fun c65 => ?_)
                  · have b65 : (0 : Int32).toInt ≤ (-1 : Int32).toInt := i_le.mp c65
                    exact absurd b65 (by omega)
                  · have b65 : ¬ (0 : Int32).toInt ≤ (-1 : Int32).toInt := fun z9 => c65 (i_le.mpr z9)
                    refine lv_iconst (v := 0) hx hb dX12_readHearth_115 (by decide) ?_
                    exact retE_z hQ C S19 hr dX12_readHearth_116 (z01 (by omega) (by omega)) (⟨by omega, RRP.no (s1 := sg) (by simp [heaF, heaO, hea1, hea2, hea3, hc3, hk7, w12, y12, hb17, w19, y19]) (by omega) wr19⟩)
            · clear q19
              refine lv_istore (lv' := [(4, .int v19), (3, .int v12), (2, .int v5), (1, .int v1), (0, .ref a0)]) hx hb dX12_readHearth_68 hl (by decide) rfl (fun ls hl => ?_)
              refine lv_iload hx hb dX12_readHearth_70 (lv_at hl 0 rfl) ?_
              refine lv_if_ge (tgt := 79) hx hb dX12_readHearth_72 (by decide) (fun c66 => ?_) (fun c66 => ?_)
              · have b66 : (0 : Int32).toInt ≤ v19.toInt := i_le.mp c66
                exact absurd b66 (by omega)
              · have b66 : ¬ (0 : Int32).toInt ≤ v19.toInt := fun z9 => c66 (i_le.mpr z9)
                refine lv_iconst (v := -1) hx hb dX12_readHearth_75 (by decide) ?_
                refine lv_goto (tgt := 88) hx hb dX12_readHearth_76 (by decide) ?_
                refine lv_istore (lv' := [(5, .int (-1 : Int32)), (4, .int v19), (3, .int v12), (2, .int v5), (1, .int v1), (0, .ref a0)]) hx hb dX12_readHearth_88 hl (by decide) rfl (fun ls hl => ?_)
                refine lv_iload hx hb dX12_readHearth_90 (lv_at hl 0 rfl) ?_
                have k_m1 : (-1 : Int32).toInt = -1 := by decide
                refine lv_if_ge (tgt := 99) hx hb dX12_readHearth_92 (by decide) (fun c67 => ?_) (fun c67 => ?_)
                · have b67 : (0 : Int32).toInt ≤ (-1 : Int32).toInt := i_le.mp c67
                  exact absurd b67 (by omega)
                · have b67 : ¬ (0 : Int32).toInt ≤ (-1 : Int32).toInt := fun z9 => c67 (i_le.mpr z9)
                  refine lv_iconst (v := -1) hx hb dX12_readHearth_95 (by decide) ?_
                  refine lv_goto (tgt := 108) hx hb dX12_readHearth_96 (by decide) ?_
                  refine lv_istore (lv' := [(6, .int (-1 : Int32)), (5, .int (-1 : Int32)), (4, .int v19), (3, .int v12), (2, .int v5), (1, .int v1), (0, .ref a0)]) hx hb dX12_readHearth_108 hl (by decide) rfl (fun ls hl => ?_)
                  refine lv_iload hx hb dX12_readHearth_110 (lv_at hl 0 rfl) ?_
                  refine lv_if_ge (tgt := 117) hx hb dX12_readHearth_112 (by decide) (fun c68 => ?_) (fun c68 => ?_)
                  · have b68 : (0 : Int32).toInt ≤ (-1 : Int32).toInt := i_le.mp c68
                    exact absurd b68 (by omega)
                  · have b68 : ¬ (0 : Int32).toInt ≤ (-1 : Int32).toInt := fun z9 => c68 (i_le.mpr z9)
                    refine lv_iconst (v := 0) hx hb dX12_readHearth_115 (by decide) ?_
                    exact retE_z hQ C S19 hr dX12_readHearth_116 (z01 (by omega) (by omega)) (⟨by omega, RRP.no (s1 := sg) (by simp [heaF, heaO, hea1, hea2, hea3, hc3, hk7, w12, y12, hb17, w19]) (by omega) wr19⟩)
          · have b16 : v15.toInt = (6 : Int32).toInt := i_eq.mp c16
            have hb69 : 6 ≤ ones (bto sg (num T (nx T (nx T (nx T b))) 0 (sg 0 - 1)) (sg 1).toNat) := by rw [← z12]; omega
            refine lv_iconst (v := 0) hx hb dX12_readHearth_57 (by decide) ?_
            exact retE_z hQ C S12 hr dX12_readHearth_58 (z01 (by omega) (by omega)) (⟨by omega, RRP.no (s1 := sg) (by simp [heaF, heaO, hea1, hea2, hea3, hc3, hk7, w12, y12, hb69]) (by omega) bg12⟩)
      · clear q12
        refine lv_istore_n (lv' := [(3, .int v12), (2, .int v5), (1, .int v1), (0, .ref a0)]) hx hb dX12_readHearth_39 rfl hl (by decide) rfl (fun ls hl => ?_)
        refine lv_iload_n hx hb dX12_readHearth_40 rfl (lv_at hl 0 rfl) ?_
        refine lv_if_lt (tgt := 57) hx hb dX12_readHearth_41 (by decide) (fun c70 => ?_) (fun c70 => ?_)
        · have b70 : v12.toInt < (0 : Int32).toInt := i_lt.mp c70
          refine lv_iconst (v := 0) hx hb dX12_readHearth_57 (by decide) ?_
          exact retE_z hQ C S12 hr dX12_readHearth_58 (z01 (by omega) (by omega)) (⟨by omega, RRP.no (s1 := sg) (by simp [heaF, heaO, hea1, hea2, hea3, hc3, hk7, w12, y12]) (by omega) wr12⟩)
        · have b70 : ¬ v12.toInt < (0 : Int32).toInt := fun z9 => c70 (i_lt.mpr z9)
          exact absurd b70 (by omega)
      · clear q12
        refine lv_istore_n (lv' := [(3, .int v12), (2, .int v5), (1, .int v1), (0, .ref a0)]) hx hb dX12_readHearth_39 rfl hl (by decide) rfl (fun ls hl => ?_)
        refine lv_iload_n hx hb dX12_readHearth_40 rfl (lv_at hl 0 rfl) ?_
        refine lv_if_lt (tgt := 57) hx hb dX12_readHearth_41 (by decide) (fun c71 => ?_) (fun c71 => ?_)
        · have b71 : v12.toInt < (0 : Int32).toInt := i_lt.mp c71
          refine lv_iconst (v := 0) hx hb dX12_readHearth_57 (by decide) ?_
          exact retE_z hQ C S12 hr dX12_readHearth_58 (z01 (by omega) (by omega)) (⟨by omega, RRP.no (s1 := sg) (by simp [heaF, heaO, hea1, hea2, hea3, hc3, hk7, w12]) (by omega) wr12⟩)
        · have b71 : ¬ v12.toInt < (0 : Int32).toInt := fun z9 => c71 (i_lt.mpr z9)
          exact absurd b71 (by omega)
    · have b6 : ¬ (0 : Int32).toInt ≤ v5.toInt := fun z9 => c6 (i_le.mpr z9)
      have hk72 : kin T (nx T b) = -1 := by omega
      refine lv_iconst (v := -1) hx hb dX12_readHearth_22 (by decide) ?_
      refine lv_goto (tgt := 39) hx hb dX12_readHearth_23 (by decide) ?_
      refine lv_istore_n (lv' := [(3, .int (-1 : Int32)), (2, .int v5), (1, .int v1), (0, .ref a0)]) hx hb dX12_readHearth_39 rfl hl (by decide) rfl (fun ls hl => ?_)
      refine lv_iload_n hx hb dX12_readHearth_40 rfl (lv_at hl 0 rfl) ?_
      have k_m1 : (-1 : Int32).toInt = -1 := by decide
      refine lv_if_lt (tgt := 57) hx hb dX12_readHearth_41 (by decide) (fun c73 => ?_) (fun c73 => ?_)
      · have b73 : (-1 : Int32).toInt < (0 : Int32).toInt := i_lt.mp c73
        refine lv_iconst (v := 0) hx hb dX12_readHearth_57 (by decide) ?_
        exact retE_z hQ C S5 hr dX12_readHearth_58 (z01 (by omega) (by omega)) (⟨by omega, RRP.no (s1 := sg) (by simp [heaF, heaO, hea1, hea2, hea3, hc3, hk72]) (by omega) fq5.2.2.2.1⟩)
      · have b73 : ¬ (-1 : Int32).toInt < (0 : Int32).toInt := fun z9 => c73 (i_lt.mpr z9)
        exact absurd b73 (by omega)
  · have b2 : v1.toInt = (12 : Int32).toInt := i_eq.mp c2
    have hc74 : sg 1 = 12 := by omega
    refine lv_iconst (v := 0) hx hb dX12_readHearth_11 (by decide) ?_
    have k_0 : (0 : Int32).toInt = 0 := by decide
    exact retE_z hQ C S hr dX12_readHearth_12 (z01 (by omega) (by omega)) (⟨by omega, RRP.no (s1 := sg) (by simp [heaF, heaO, hea1, hea2, hea3, hc74]) (by omega) ts0.2.2.1⟩)
