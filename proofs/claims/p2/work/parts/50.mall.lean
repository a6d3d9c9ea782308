set_option maxRecDepth 100000 in
set_option maxHeartbeats 4000000 in
theorem c_X12_readLawLine (l : Launch) (D : DD) (G : Nat → Nat) (a0 : Nat) (x1 : Int32) (ga0 : G a0 = 30) (ix1 : 0 ≤ x1.toInt ∧ x1.toInt ≤ 11) : CE l D G yX12_readLawLine cX12_readLawLine 3 (some .boolean) 28 [.ref a0, .int x1] (fun H => (fI D H 11 a0 16).toInt ≤ (fI D H 11 a0 12).toInt ∧ (fI D H 11 a0 12).toInt ≤ (fI D H 11 a0 10).toInt) [(30, 10), (30, 12), (30, 16), (31, 0), (30, 13)] (xI (fun H r H1 => (0 ≤ r.toInt ∧ r.toInt ≤ 1) ∧ (r.toInt = 1 → (fI D H1 11 a0 16).toInt ≤ (fI D H1 11 a0 10).toInt) ∧ (r.toInt = 1 → Dl D H a0 x1.toInt.toNat → Dl D H1 a0 (x1.toInt.toNat + 1)))) := by
  refine enter (by decide) (Nat.le_of_ble_eq_true rfl) ?_
  intro p e s m args below meth c ls Q hA hQ C hr hO hpre hl
  have hx := C.1
  have hb := C.2.1
  have S : Sd D G [(30, 10), (30, 12), (30, 16), (31, 0), (30, 13)] s.heap s.heap [] := Sd.start hO
  have hl : lv_has ls 3 [(0, .ref a0), (1, .int x1)] := hl
  have rs0 : 0 ≤ (fI D s.heap 11 a0 16).toInt ∧ (fI D s.heap 11 a0 16).toInt ≤ 400 := hO.rng ga0 rfl (by decide) rfl
  have rp0 : 0 ≤ (fI D s.heap 11 a0 10).toInt ∧ (fI D s.heap 11 a0 10).toInt ≤ 400 := hO.rng ga0 rfl (by decide) rfl
  have tk0 : Lr D s.heap s.heap a0 x1.toInt.toNat := Lr.refl
  refine lv_sipush (v := 1204) hx hb dX12_readLawLine_0 (by decide) ?_
  refine lv_iconst (v := 4) hx hb dX12_readLawLine_3 (by decide) ?_
  refine lv_iload_n hx hb dX12_readLawLine_4 rfl (lv_at hl 1 rfl) ?_
  have k_4 : (4 : Int32).toInt = 4 := by decide
  refine lv_imul hx hb dX12_readLawLine_5 ?_
  refine lv_topi (fun v1 ev1 => ?_)
  have f2 : v1.toInt = (4) * x1.toInt := by rw [ev1]; exact i_cmul k_4 (by omega) (by omega)
  have k_1204 : (1204 : Int32).toInt = 1204 := by decide
  refine lv_iadd hx hb dX12_readLawLine_6 ?_
  refine lv_topi (fun v3 ev3 => ?_)
  have f4 : v3.toInt = (1204 : Int32).toInt + v1.toInt := by rw [ev3]; exact i_add (by omega) (by omega)
  refine lv_istore_n (lv' := [(2, .int v3), (0, .ref a0), (1, .int x1)]) hx hb dX12_readLawLine_7 rfl hl (by decide) rfl (fun ls hl => ?_)
  refine lv_aload_n hx hb dX12_readLawLine_8 rfl (lv_at hl 1 rfl) ?_
  refine q_gr (T := TX12) C S.1 ga0 1 kF_X12_13 dX12_readLawLine_9 rfl rfl (by decide) rfl (by decide) rfl (fun g5 => ?_)
  refine lv_iload_n hx hb dX12_readLawLine_12 rfl (lv_at hl 0 rfl) ?_
  refine lv_aload_n hx hb dX12_readLawLine_13 rfl (lv_at hl 1 rfl) ?_
  refine q_lds C ks_X12_221 dX12_readLawLine_14 (fun a6 ha6 => ?_)
  refine callV_Pi C S.1 S.2.1.2.1 (c_X12_isWord_w l D G a0 a6 3 ga0 ha6) kV_X12_105 ga0 (trivial) dX12_readLawLine_16 hl.1 rfl rfl (by decide) cd_X12_isWord ⟨Nat.le_of_ble_eq_true rfl, Nat.le_of_ble_eq_true rfl, Nat.le_of_ble_eq_true rfl, Nat.le_of_ble_eq_true rfl, Nat.le_of_ble_eq_true rfl⟩ (fun v7 q7 => ?_)
  have k_0 : (0 : Int32).toInt = 0 := by decide
  refine lv_if_eq (tgt := 26) hx hb dX12_readLawLine_19 (by decide) (fun c8 => ?_) (fun c8 => ?_)
  · have b8 : v7.toInt = (0 : Int32).toInt := i_eq.mp c8
    refine lv_aload_n hx hb dX12_readLawLine_26 rfl (lv_at hl 1 rfl) ?_
    refine q_lds C ks_X12_223 dX12_readLawLine_27 (fun a9 ha9 => ?_)
    refine callV_Pi C S.1 S.2.1.2.1 (c_X12_isWord_w l D G a0 a9 4 ga0 ha9) kV_X12_105 ga0 (trivial) dX12_readLawLine_29 hl.1 rfl rfl (by decide) cd_X12_isWord ⟨Nat.le_of_ble_eq_true rfl, Nat.le_of_ble_eq_true rfl, Nat.le_of_ble_eq_true rfl, Nat.le_of_ble_eq_true rfl, Nat.le_of_ble_eq_true rfl⟩ (fun v10 q10 => ?_)
    refine lv_if_eq (tgt := 39) hx hb dX12_readLawLine_32 (by decide) (fun c11 => ?_) (fun c11 => ?_)
    · have b11 : v10.toInt = (0 : Int32).toInt := i_eq.mp c11
      refine lv_aload_n hx hb dX12_readLawLine_39 rfl (lv_at hl 1 rfl) ?_
      refine q_lds C ks_X12_225 dX12_readLawLine_40 (fun a12 ha12 => ?_)
      refine callV_Pi C S.1 S.2.1.2.1 (c_X12_isWord_w l D G a0 a12 4 ga0 ha12) kV_X12_105 ga0 (trivial) dX12_readLawLine_42 hl.1 rfl rfl (by decide) cd_X12_isWord ⟨Nat.le_of_ble_eq_true rfl, Nat.le_of_ble_eq_true rfl, Nat.le_of_ble_eq_true rfl, Nat.le_of_ble_eq_true rfl, Nat.le_of_ble_eq_true rfl⟩ (fun v13 q13 => ?_)
      refine lv_if_eq (tgt := 52) hx hb dX12_readLawLine_45 (by decide) (fun c14 => ?_) (fun c14 => ?_)
      · have b14 : v13.toInt = (0 : Int32).toInt := i_eq.mp c14
        refine lv_iconst (v := -1) hx hb dX12_readLawLine_52 (by decide) ?_
        have n15 : aN s.heap (fR D s.heap 11 a0 1) = 2052 := len_31 S.1 g5
        have k_m1 : (-1 : Int32).toInt = -1 := by decide
        refine q_iast C S g5 (by omega) (by omega) dX12_readLawLine_53 rfl (by decide) (by decide +kernel) (fun _ _ h => wk_high _ _ (by omega) h) (fun H16 L16 S16 P16 => ?_)
        have y16_10 : (fI D H16 11 a0 10).toInt = (fI D s.heap 11 a0 10).toInt := congrArg Int32.toInt (Pa.f P16 (ne_role ga0 g5 (by decide)))
        have y16_12 : (fI D H16 11 a0 12).toInt = (fI D s.heap 11 a0 12).toInt := congrArg Int32.toInt (Pa.f P16 (ne_role ga0 g5 (by decide)))
        have y16_13 : (fI D H16 11 a0 13).toInt = (fI D s.heap 11 a0 13).toInt := congrArg Int32.toInt (Pa.f P16 (ne_role ga0 g5 (by decide)))
        have y16_16 : (fI D H16 11 a0 16).toInt = (fI D s.heap 11 a0 16).toInt := congrArg Int32.toInt (Pa.f P16 (ne_role ga0 g5 (by decide)))
        have rs16 : 0 ≤ (fI D s.heap 11 a0 16).toInt ∧ (fI D s.heap 11 a0 16).toInt ≤ 400 := S.1.rng ga0 rfl (by decide) rfl
        have tk16 : Lr D s.heap H16 a0 x1.toInt.toNat := tk0.trans (Lr.ast S.1 ga0 P16 rfl ⟨by omega, by omega⟩ (by omega))
        have ew : eI H16 (fR D H16 11 a0 1) v3.toInt.toNat = _ := eS S.1 ga0 P16 rfl rfl (by omega)
        refine lv_aload_n hx hb dX12_readLawLine_54 rfl (lv_at hl 1 rfl) ?_
        refine q_gr (T := TX12) C S16.1 ga0 1 kF_X12_13 dX12_readLawLine_55 rfl rfl (by decide) rfl (by decide) rfl (fun g17 => ?_)
        refine lv_iload_n hx hb dX12_readLawLine_58 rfl (lv_at hl 0 rfl) ?_
        have n18 : aN H16 (fR D H16 11 a0 1) = 2052 := len_31 S16.1 g17
        refine q_iald C S16.1 g17 (by omega) (by omega) dX12_readLawLine_59 rfl (by decide) ?_
        refine lv_topi (fun v19 ev19 => ?_)
        have ev59 := ev19
        have ez : v19.toInt = _ := congrArg Int32.toInt (ev59.trans ew)
        have kzm1 : ((-1) : Int32).toInt = -1 := by decide
        have kz0 : ((0) : Int32).toInt = 0 := by decide
        have kz1 : ((1) : Int32).toInt = 1 := by decide
        have kz2 : ((2) : Int32).toInt = 2 := by decide
        refine lv_if_ge (tgt := 65) hx hb dX12_readLawLine_60 (by decide) (fun c20 => ?_) (fun c20 => ?_)
        · have b20 : (0 : Int32).toInt ≤ v19.toInt := i_le.mp c20
          refine lv_aload_n hx hb dX12_readLawLine_65 rfl (lv_at hl 1 rfl) ?_
          refine q_gr (T := TX12) C S16.1 ga0 1 kF_X12_13 dX12_readLawLine_66 rfl rfl (by decide) rfl (by decide) rfl (fun g21 => ?_)
          refine lv_iload_n hx hb dX12_readLawLine_69 rfl (lv_at hl 0 rfl) ?_
          refine lv_iconst (v := 1) hx hb dX12_readLawLine_70 (by decide) ?_
          have k_1 : (1 : Int32).toInt = 1 := by decide
          refine lv_iadd hx hb dX12_readLawLine_71 ?_
          refine lv_topi (fun v22 ev22 => ?_)
          have f23 : v22.toInt = v3.toInt + (1 : Int32).toInt := by rw [ev22]; exact i_add (by omega) (by omega)
          refine lv_aload_n hx hb dX12_readLawLine_72 rfl (lv_at hl 1 rfl) ?_
          refine q_gr (T := TX12) C S16.1 ga0 1 kF_X12_13 dX12_readLawLine_73 rfl rfl (by decide) rfl (by decide) rfl (fun g24 => ?_)
          refine lv_iload_n hx hb dX12_readLawLine_76 rfl (lv_at hl 0 rfl) ?_
          refine q_iald C S16.1 g24 (by omega) (by omega) dX12_readLawLine_77 rfl (by decide) ?_
          refine lv_topi (fun v25 ev25 => ?_)
          refine lv_iconst (v := 1) hx hb dX12_readLawLine_78 (by decide) ?_
          refine lv_icmp_ne (tgt := 86) hx hb dX12_readLawLine_79 (by decide) (fun c26 => ?_) (fun c26 => ?_)
          · have b26 : ¬ v25.toInt = (1 : Int32).toInt := fun z9 => c26 (i_eq.mpr z9)
            refine lv_aload_n hx hb dX12_readLawLine_86 rfl (lv_at hl 1 rfl) ?_
            refine lv_iconst (v := 0) hx hb dX12_readLawLine_87 (by decide) ?_
            refine lv_bipush (v := 99) hx hb dX12_readLawLine_88 (by decide) ?_
            have k_99 : (99 : Int32).toInt = 99 := by decide
            refine callV_Ei C S16 (c_X12_number_w l D G a0 (0 : Int32) (99 : Int32) ga0) kV_X12_109 ga0 (trivial) (by decide +kernel) dX12_readLawLine_90 hl.1 rfl rfl (by decide) cd_X12_number ⟨Nat.le_of_ble_eq_true rfl, Nat.le_of_ble_eq_true rfl, Nat.le_of_ble_eq_true rfl, Nat.le_of_ble_eq_true rfl, Nat.le_of_ble_eq_true rfl⟩ (fun v27 H27 L27 S27 K27 q27 => ?_)
            have y27_13 : (fI D H27 11 a0 13).toInt = (fI D H16 11 a0 13).toInt := congrArg Int32.toInt (K27.fI ga0 rfl (by decide) (by decide +kernel))
            have y27_16 : (fI D H27 11 a0 16).toInt = (fI D H16 11 a0 16).toInt := congrArg Int32.toInt (K27.fI ga0 rfl (by decide) (by decide +kernel))
            have lq27 : Lq D H16 H27 a0 := Lq.keep S16.1 ga0 K27 (by decide +kernel) (by decide +kernel) (by decide +kernel)
            have tk27 : Lr D s.heap H27 a0 x1.toInt.toNat := tk16.trans (Lr.of lq27)
            have n28 : aN H27 (fR D H16 11 a0 1) = 2052 := len_31 S27.1 g21
            refine q_iast C S27 g21 (by omega) (by omega) dX12_readLawLine_93 rfl (by decide) (by decide +kernel) (fun _ _ h => wk_high _ _ (by omega) h) (fun H29 L29 S29 P29 => ?_)
            have y29_10 : (fI D H29 11 a0 10).toInt = (fI D H27 11 a0 10).toInt := congrArg Int32.toInt (Pa.f P29 (ne_role ga0 g21 (by decide)))
            have y29_12 : (fI D H29 11 a0 12).toInt = (fI D H27 11 a0 12).toInt := congrArg Int32.toInt (Pa.f P29 (ne_role ga0 g21 (by decide)))
            have y29_13 : (fI D H29 11 a0 13).toInt = (fI D H27 11 a0 13).toInt := congrArg Int32.toInt (Pa.f P29 (ne_role ga0 g21 (by decide)))
            have y29_16 : (fI D H29 11 a0 16).toInt = (fI D H27 11 a0 16).toInt := congrArg Int32.toInt (Pa.f P29 (ne_role ga0 g21 (by decide)))
            have rs29 : 0 ≤ (fI D H27 11 a0 16).toInt ∧ (fI D H27 11 a0 16).toInt ≤ 400 := S27.1.rng ga0 rfl (by decide) rfl
            have tk29 : Lr D s.heap H29 a0 x1.toInt.toNat := tk27.trans (Lr.ast S27.1 ga0 P29 ((S16.2.1.fR ga0 rfl (by decide) (by decide +kernel)).trans (S27.2.1.fR ga0 rfl (by decide) (by decide +kernel)).symm) ⟨by omega, by omega⟩ (by omega))
            refine lv_aload_n hx hb dX12_readLawLine_94 rfl (lv_at hl 1 rfl) ?_
            refine q_gr (T := TX12) C S29.1 ga0 1 kF_X12_13 dX12_readLawLine_95 rfl rfl (by decide) rfl (by decide) rfl (fun g30 => ?_)
            refine lv_iload_n hx hb dX12_readLawLine_98 rfl (lv_at hl 0 rfl) ?_
            refine lv_iconst (v := 1) hx hb dX12_readLawLine_99 (by decide) ?_
            refine lv_iadd hx hb dX12_readLawLine_100 ?_
            refine lv_topi (fun v31 ev31 => ?_)
            have f32 : v31.toInt = v3.toInt + (1 : Int32).toInt := by rw [ev31]; exact i_add (by omega) (by omega)
            have n33 : aN H29 (fR D H29 11 a0 1) = 2052 := len_31 S29.1 g30
            refine q_iald C S29.1 g30 (by omega) (by omega) dX12_readLawLine_101 rfl (by decide) ?_
            refine lv_topi (fun v34 ev34 => ?_)
            refine lv_if_ge (tgt := 107) hx hb dX12_readLawLine_102 (by decide) (fun c35 => ?_) (fun c35 => ?_)
            · have b35 : (0 : Int32).toInt ≤ v34.toInt := i_le.mp c35
              refine lv_aload_n hx hb dX12_readLawLine_107 rfl (lv_at hl 1 rfl) ?_
              refine q_gr (T := TX12) C S29.1 ga0 1 kF_X12_13 dX12_readLawLine_108 rfl rfl (by decide) rfl (by decide) rfl (fun g36 => ?_)
              refine lv_iload_n hx hb dX12_readLawLine_111 rfl (lv_at hl 0 rfl) ?_
              refine lv_iconst (v := 2) hx hb dX12_readLawLine_112 (by decide) ?_
              have k_2 : (2 : Int32).toInt = 2 := by decide
              refine lv_iadd hx hb dX12_readLawLine_113 ?_
              refine lv_topi (fun v37 ev37 => ?_)
              have f38 : v37.toInt = v3.toInt + (2 : Int32).toInt := by rw [ev37]; exact i_add (by omega) (by omega)
              refine lv_aload_n hx hb dX12_readLawLine_114 rfl (lv_at hl 1 rfl) ?_
              refine q_gi (T := TX12) C S29.1 ga0 16 kF_X12_182 dX12_readLawLine_115 rfl rfl (by decide) rfl (by decide) rfl ?_
              have r39 : 0 ≤ (fI D H29 11 a0 16).toInt ∧ (fI D H29 11 a0 16).toInt ≤ 400 := S29.1.rng ga0 rfl (by decide) rfl
              refine q_iast C S29 g36 (by omega) (by omega) dX12_readLawLine_118 rfl (by decide) (by decide +kernel) (fun _ _ h => wk_high _ _ (by omega) h) (fun H40 L40 S40 P40 => ?_)
              have y40_10 : (fI D H40 11 a0 10).toInt = (fI D H29 11 a0 10).toInt := congrArg Int32.toInt (Pa.f P40 (ne_role ga0 g36 (by decide)))
              have y40_12 : (fI D H40 11 a0 12).toInt = (fI D H29 11 a0 12).toInt := congrArg Int32.toInt (Pa.f P40 (ne_role ga0 g36 (by decide)))
              have y40_13 : (fI D H40 11 a0 13).toInt = (fI D H29 11 a0 13).toInt := congrArg Int32.toInt (Pa.f P40 (ne_role ga0 g36 (by decide)))
              have y40_16 : (fI D H40 11 a0 16).toInt = (fI D H29 11 a0 16).toInt := congrArg Int32.toInt (Pa.f P40 (ne_role ga0 g36 (by decide)))
              have rs40 : 0 ≤ (fI D H29 11 a0 16).toInt ∧ (fI D H29 11 a0 16).toInt ≤ 400 := S29.1.rng ga0 rfl (by decide) rfl
              have tk40 : Lr D s.heap H40 a0 x1.toInt.toNat := tk29.trans (Lr.ast S29.1 ga0 P40 rfl ⟨by omega, by omega⟩ (by omega))
              have zb40 : (eI H40 (fR D H40 11 a0 1) (1206 + 4 * x1.toInt.toNat)).toInt = (fI D H29 11 a0 16).toInt := congrArg Int32.toInt (eS S29.1 ga0 P40 rfl (by omega) (by omega))
              refine lv_aload_n hx hb dX12_readLawLine_119 rfl (lv_at hl 1 rfl) ?_
              refine lv_iconst (v := 0) hx hb dX12_readLawLine_120 (by decide) ?_
              refine q_put (T := TX12) C S40 ga0 13 kF_X12_197 dX12_readLawLine_121 rfl rfl (by decide) (by decide) rfl rfl rfl rfl rfl (vok_i rfl (by omega) (by omega)) (by decide +kernel) (fun H41 L41 S41 P41 => ?_)
              have y41_10 : (fI D H41 11 a0 10).toInt = (fI D H40 11 a0 10).toInt := congrArg Int32.toInt (Pt.o P41 (by decide) (by decide))
              have y41_12 : (fI D H41 11 a0 12).toInt = (fI D H40 11 a0 12).toInt := congrArg Int32.toInt (Pt.o P41 (by decide) (by decide))
              have y41_13 : (fI D H41 11 a0 13).toInt = (0 : Int32).toInt := congrArg Int32.toInt (Pt.i P41)
              have y41_16 : (fI D H41 11 a0 16).toInt = (fI D H40 11 a0 16).toInt := congrArg Int32.toInt (Pt.o P41 (by decide) (by decide))
              have lq41 : Lq D H40 H41 a0 := Lq.put S40.1 ga0 P41 (by decide) (by decide)
              have tk41 : Lr D s.heap H41 a0 x1.toInt.toNat := tk40.trans (Lr.of lq41)
              refine lv_aload_n hx hb dX12_readLawLine_124 rfl (lv_at hl 1 rfl) ?_
              refine q_lds C ks_X12_227 dX12_readLawLine_125 (fun a42 ha42 => ?_)
              refine callV_Ei C S41 (c_X12_passes_w l D G a0 a42 2 ga0 ha42) kV_X12_120 ga0 (trivial) (by decide +kernel) dX12_readLawLine_127 hl.1 rfl rfl (by decide) cd_X12_passes ⟨Nat.le_of_ble_eq_true rfl, Nat.le_of_ble_eq_true rfl, Nat.le_of_ble_eq_true rfl, Nat.le_of_ble_eq_true rfl, Nat.le_of_ble_eq_true rfl⟩ (fun v43 H43 L43 S43 K43 q43 => ?_)
              have y43_13 : (fI D H43 11 a0 13).toInt = (fI D H41 11 a0 13).toInt := congrArg Int32.toInt (K43.fI ga0 rfl (by decide) (by decide +kernel))
              have y43_16 : (fI D H43 11 a0 16).toInt = (fI D H41 11 a0 16).toInt := congrArg Int32.toInt (K43.fI ga0 rfl (by decide) (by decide +kernel))
              have lq43 : Lq D H41 H43 a0 := Lq.keep S41.1 ga0 K43 (by decide +kernel) (by decide +kernel) (by decide +kernel)
              have tk43 : Lr D s.heap H43 a0 x1.toInt.toNat := tk41.trans (Lr.of lq43)
              rcases q43 with q43 | q43
              · skip
                refine lv_if_eq (tgt := 142) hx hb dX12_readLawLine_130 (by decide) (fun c44 => ?_) (fun c44 => ?_)
                · have b44 : v43.toInt = (0 : Int32).toInt := i_eq.mp c44
                  exact absurd b44 (by omega)
                · have b44 : ¬ v43.toInt = (0 : Int32).toInt := fun z9 => c44 (i_eq.mpr z9)
                  refine lv_aload_n hx hb dX12_readLawLine_133 rfl (lv_at hl 1 rfl) ?_
                  have rs9 : 0 ≤ (fI D H43 11 a0 16).toInt ∧ (fI D H43 11 a0 16).toInt ≤ 400 := S43.1.rng ga0 rfl (by decide) rfl
                  have rp9 : 0 ≤ (fI D H43 11 a0 10).toInt ∧ (fI D H43 11 a0 10).toInt ≤ 400 := S43.1.rng ga0 rfl (by decide) rfl
                  refine callV_Ei C S43 (c_X12_readCond_d0 l D G a0 ga0) kV_X12_200 ga0 (⟨by omega, by omega⟩) (by decide +kernel) dX12_readLawLine_134 hl.1 rfl rfl (by decide) cd_X12_readCond ⟨Nat.le_of_ble_eq_true rfl, Nat.le_of_ble_eq_true rfl, Nat.le_of_ble_eq_true rfl, Nat.le_of_ble_eq_true rfl, Nat.le_of_ble_eq_true rfl⟩ (fun v45 H45 L45 S45 K45 q45 => ?_)
                  obtain ⟨q45, sa45, sx45, tq45⟩ := q45
                  have lq45 : Lq D H43 H45 a0 := tq45
                  have tk45 : Lr D s.heap H45 a0 x1.toInt.toNat := tk43.trans (Lr.of lq45)
                  refine lv_if_ne (tgt := 142) hx hb dX12_readLawLine_137 (by decide) (fun c46 => ?_) (fun c46 => ?_)
                  · have b46 : ¬ v45.toInt = (0 : Int32).toInt := fun z9 => c46 (i_eq.mpr z9)
                    have rs9 : 0 ≤ (fI D H45 11 a0 16).toInt ∧ (fI D H45 11 a0 16).toInt ≤ 400 := S45.1.rng ga0 rfl (by decide) rfl
                    have rp9 : 0 ≤ (fI D H45 11 a0 10).toInt ∧ (fI D H45 11 a0 10).toInt ≤ 400 := S45.1.rng ga0 rfl (by decide) rfl
                    refine lv_aload_n hx hb dX12_readLawLine_142 rfl (lv_at hl 1 rfl) ?_
                    refine q_gr (T := TX12) C S45.1 ga0 1 kF_X12_13 dX12_readLawLine_143 rfl rfl (by decide) rfl (by decide) rfl (fun g47 => ?_)
                    refine lv_iload_n hx hb dX12_readLawLine_146 rfl (lv_at hl 0 rfl) ?_
                    refine lv_iconst (v := 3) hx hb dX12_readLawLine_147 (by decide) ?_
                    have k_3 : (3 : Int32).toInt = 3 := by decide
                    refine lv_iadd hx hb dX12_readLawLine_148 ?_
                    refine lv_topi (fun v48 ev48 => ?_)
                    have f49 : v48.toInt = v3.toInt + (3 : Int32).toInt := by rw [ev48]; exact i_add (by omega) (by omega)
                    refine lv_aload_n hx hb dX12_readLawLine_149 rfl (lv_at hl 1 rfl) ?_
                    refine q_gi (T := TX12) C S45.1 ga0 16 kF_X12_182 dX12_readLawLine_150 rfl rfl (by decide) rfl (by decide) rfl ?_
                    have r50 : 0 ≤ (fI D H45 11 a0 16).toInt ∧ (fI D H45 11 a0 16).toInt ≤ 400 := S45.1.rng ga0 rfl (by decide) rfl
                    have n51 : aN H45 (fR D H45 11 a0 1) = 2052 := len_31 S45.1 g47
                    refine q_iast C S45 g47 (by omega) (by omega) dX12_readLawLine_153 rfl (by decide) (by decide +kernel) (fun _ _ h => wk_high _ _ (by omega) h) (fun H52 L52 S52 P52 => ?_)
                    have y52_10 : (fI D H52 11 a0 10).toInt = (fI D H45 11 a0 10).toInt := congrArg Int32.toInt (Pa.f P52 (ne_role ga0 g47 (by decide)))
                    have y52_12 : (fI D H52 11 a0 12).toInt = (fI D H45 11 a0 12).toInt := congrArg Int32.toInt (Pa.f P52 (ne_role ga0 g47 (by decide)))
                    have y52_13 : (fI D H52 11 a0 13).toInt = (fI D H45 11 a0 13).toInt := congrArg Int32.toInt (Pa.f P52 (ne_role ga0 g47 (by decide)))
                    have y52_16 : (fI D H52 11 a0 16).toInt = (fI D H45 11 a0 16).toInt := congrArg Int32.toInt (Pa.f P52 (ne_role ga0 g47 (by decide)))
                    have rs52 : 0 ≤ (fI D H45 11 a0 16).toInt ∧ (fI D H45 11 a0 16).toInt ≤ 400 := S45.1.rng ga0 rfl (by decide) rfl
                    have tk52 : Lr D s.heap H52 a0 x1.toInt.toNat := tk45.trans (Lr.ast S45.1 ga0 P52 rfl ⟨by omega, by omega⟩ (by omega))
                    refine lv_iconst (v := 1) hx hb dX12_readLawLine_154 (by decide) ?_
                    exact retE_z hQ C S52 hr dX12_readLawLine_155 (z01 (by omega) (by omega)) (⟨by omega, fun _ => by omega, fun _ h9 => Dl.line (b := (fI D H29 11 a0 16).toInt.toNat) (e := (fI D H45 11 a0 16).toInt.toNat) h9 tk52 (by omega) rs0.1 (by show (eI H52 (fR D H52 11 a0 1) _).toInt = _; rw [eA S45.1 ga0 P52 (by omega) (by omega), show eI H45 (fR D H45 11 a0 1) (1206 + 4 * x1.toInt.toNat) = _ from ((lq41.trans lq43).trans lq45).2 _ (by omega)]; rw [zb40]; omega) (by show (eI H52 (fR D H52 11 a0 1) _).toInt = _; rw [eS S45.1 ga0 P52 rfl (by omega) (by omega)]; omega) (by omega) (by show _ ≤ (fI D H52 11 a0 16).toInt; omega) (by have e9 : Ex (Cs D H45 a0) (fI D H29 11 a0 16).toInt.toNat (fI D H45 11 a0 16).toInt.toNat := (sx45 (by omega)).at (by omega) (by omega); exact e9.sk (fun k9 h9 => csA S45.1 ga0 P52 rfl (by omega) (by omega)))⟩)
                  · have b46 : v45.toInt = (0 : Int32).toInt := i_eq.mp c46
                    refine lv_iconst (v := 0) hx hb dX12_readLawLine_140 (by decide) ?_
                    exact retE_z hQ C S45 hr dX12_readLawLine_141 (z01 (by omega) (by omega)) (⟨by omega, fun h9 => absurd h9 (by decide), fun h9 => absurd h9 (by decide)⟩)
              · skip
                refine lv_if_eq (tgt := 142) hx hb dX12_readLawLine_130 (by decide) (fun c53 => ?_) (fun c53 => ?_)
                · have b53 : v43.toInt = (0 : Int32).toInt := i_eq.mp c53
                  have rs9 : 0 ≤ (fI D H43 11 a0 16).toInt ∧ (fI D H43 11 a0 16).toInt ≤ 400 := S43.1.rng ga0 rfl (by decide) rfl
                  have rp9 : 0 ≤ (fI D H43 11 a0 10).toInt ∧ (fI D H43 11 a0 10).toInt ≤ 400 := S43.1.rng ga0 rfl (by decide) rfl
                  refine lv_aload_n hx hb dX12_readLawLine_142 rfl (lv_at hl 1 rfl) ?_
                  refine q_gr (T := TX12) C S43.1 ga0 1 kF_X12_13 dX12_readLawLine_143 rfl rfl (by decide) rfl (by decide) rfl (fun g54 => ?_)
                  refine lv_iload_n hx hb dX12_readLawLine_146 rfl (lv_at hl 0 rfl) ?_
                  refine lv_iconst (v := 3) hx hb dX12_readLawLine_147 (by decide) ?_
                  have k_3 : (3 : Int32).toInt = 3 := by decide
                  refine lv_iadd hx hb dX12_readLawLine_148 ?_
                  refine lv_topi (fun v55 ev55 => ?_)
                  have f56 : v55.toInt = v3.toInt + (3 : Int32).toInt := by rw [ev55]; exact i_add (by omega) (by omega)
                  refine lv_aload_n hx hb dX12_readLawLine_149 rfl (lv_at hl 1 rfl) ?_
                  refine q_gi (T := TX12) C S43.1 ga0 16 kF_X12_182 dX12_readLawLine_150 rfl rfl (by decide) rfl (by decide) rfl ?_
                  have r57 : 0 ≤ (fI D H43 11 a0 16).toInt ∧ (fI D H43 11 a0 16).toInt ≤ 400 := S43.1.rng ga0 rfl (by decide) rfl
                  have n58 : aN H43 (fR D H43 11 a0 1) = 2052 := len_31 S43.1 g54
                  refine q_iast C S43 g54 (by omega) (by omega) dX12_readLawLine_153 rfl (by decide) (by decide +kernel) (fun _ _ h => wk_high _ _ (by omega) h) (fun H59 L59 S59 P59 => ?_)
                  have y59_10 : (fI D H59 11 a0 10).toInt = (fI D H43 11 a0 10).toInt := congrArg Int32.toInt (Pa.f P59 (ne_role ga0 g54 (by decide)))
                  have y59_12 : (fI D H59 11 a0 12).toInt = (fI D H43 11 a0 12).toInt := congrArg Int32.toInt (Pa.f P59 (ne_role ga0 g54 (by decide)))
                  have y59_13 : (fI D H59 11 a0 13).toInt = (fI D H43 11 a0 13).toInt := congrArg Int32.toInt (Pa.f P59 (ne_role ga0 g54 (by decide)))
                  have y59_16 : (fI D H59 11 a0 16).toInt = (fI D H43 11 a0 16).toInt := congrArg Int32.toInt (Pa.f P59 (ne_role ga0 g54 (by decide)))
                  have rs59 : 0 ≤ (fI D H43 11 a0 16).toInt ∧ (fI D H43 11 a0 16).toInt ≤ 400 := S43.1.rng ga0 rfl (by decide) rfl
                  have tk59 : Lr D s.heap H59 a0 x1.toInt.toNat := tk43.trans (Lr.ast S43.1 ga0 P59 rfl ⟨by omega, by omega⟩ (by omega))
                  refine lv_iconst (v := 1) hx hb dX12_readLawLine_154 (by decide) ?_
                  exact retE_z hQ C S59 hr dX12_readLawLine_155 (z01 (by omega) (by omega)) (⟨by omega, fun _ => by omega, fun _ h9 => Dl.line (b := (fI D H29 11 a0 16).toInt.toNat) (e := (fI D H43 11 a0 16).toInt.toNat) h9 tk59 (by omega) rs0.1 (by show (eI H59 (fR D H59 11 a0 1) _).toInt = _; rw [eA S43.1 ga0 P59 (by omega) (by omega), show eI H43 (fR D H43 11 a0 1) (1206 + 4 * x1.toInt.toNat) = _ from (lq41.trans lq43).2 _ (by omega)]; rw [zb40]; omega) (by show (eI H59 (fR D H59 11 a0 1) _).toInt = _; rw [eS S43.1 ga0 P59 rfl (by omega) (by omega)]; omega) (by omega) (by show _ ≤ (fI D H59 11 a0 16).toInt; omega) (by rw [show (fI D H43 11 a0 16).toInt.toNat - (fI D H29 11 a0 16).toInt.toNat = 0 by omega]; exact True.intro)⟩)
                · have b53 : ¬ v43.toInt = (0 : Int32).toInt := fun z9 => c53 (i_eq.mpr z9)
                  exact absurd b53 (by omega)
            · have b35 : ¬ (0 : Int32).toInt ≤ v34.toInt := fun z9 => c35 (i_le.mpr z9)
              refine lv_iconst (v := 0) hx hb dX12_readLawLine_105 (by decide) ?_
              exact retE_z hQ C S29 hr dX12_readLawLine_106 (z01 (by omega) (by omega)) (⟨by omega, fun h9 => absurd h9 (by decide), fun h9 => absurd h9 (by decide)⟩)
          · have b26 : v25.toInt = (1 : Int32).toInt := i_eq.mp c26
            refine lv_iconst (v := 1) hx hb dX12_readLawLine_82 (by decide) ?_
            refine lv_goto (tgt := 93) hx hb dX12_readLawLine_83 (by decide) ?_
            refine q_iast C S16 g21 (by omega) (by omega) dX12_readLawLine_93 rfl (by decide) (by decide +kernel) (fun _ _ h => wk_high _ _ (by omega) h) (fun H60 L60 S60 P60 => ?_)
            have y60_10 : (fI D H60 11 a0 10).toInt = (fI D H16 11 a0 10).toInt := congrArg Int32.toInt (Pa.f P60 (ne_role ga0 g21 (by decide)))
            have y60_12 : (fI D H60 11 a0 12).toInt = (fI D H16 11 a0 12).toInt := congrArg Int32.toInt (Pa.f P60 (ne_role ga0 g21 (by decide)))
            have y60_13 : (fI D H60 11 a0 13).toInt = (fI D H16 11 a0 13).toInt := congrArg Int32.toInt (Pa.f P60 (ne_role ga0 g21 (by decide)))
            have y60_16 : (fI D H60 11 a0 16).toInt = (fI D H16 11 a0 16).toInt := congrArg Int32.toInt (Pa.f P60 (ne_role ga0 g21 (by decide)))
            have rs60 : 0 ≤ (fI D H16 11 a0 16).toInt ∧ (fI D H16 11 a0 16).toInt ≤ 400 := S16.1.rng ga0 rfl (by decide) rfl
            have tk60 : Lr D s.heap H60 a0 x1.toInt.toNat := tk16.trans (Lr.ast S16.1 ga0 P60 rfl ⟨by omega, by omega⟩ (by omega))
            refine lv_aload_n hx hb dX12_readLawLine_94 rfl (lv_at hl 1 rfl) ?_
            refine q_gr (T := TX12) C S60.1 ga0 1 kF_X12_13 dX12_readLawLine_95 rfl rfl (by decide) rfl (by decide) rfl (fun g61 => ?_)
            refine lv_iload_n hx hb dX12_readLawLine_98 rfl (lv_at hl 0 rfl) ?_
            refine lv_iconst (v := 1) hx hb dX12_readLawLine_99 (by decide) ?_
            refine lv_iadd hx hb dX12_readLawLine_100 ?_
            refine lv_topi (fun v62 ev62 => ?_)
            have f63 : v62.toInt = v3.toInt + (1 : Int32).toInt := by rw [ev62]; exact i_add (by omega) (by omega)
            have n64 : aN H60 (fR D H60 11 a0 1) = 2052 := len_31 S60.1 g61
            refine q_iald C S60.1 g61 (by omega) (by omega) dX12_readLawLine_101 rfl (by decide) ?_
            refine lv_topi (fun v65 ev65 => ?_)
            refine lv_if_ge (tgt := 107) hx hb dX12_readLawLine_102 (by decide) (fun c66 => ?_) (fun c66 => ?_)
            · have b66 : (0 : Int32).toInt ≤ v65.toInt := i_le.mp c66
              refine lv_aload_n hx hb dX12_readLawLine_107 rfl (lv_at hl 1 rfl) ?_
              refine q_gr (T := TX12) C S60.1 ga0 1 kF_X12_13 dX12_readLawLine_108 rfl rfl (by decide) rfl (by decide) rfl (fun g67 => ?_)
              refine lv_iload_n hx hb dX12_readLawLine_111 rfl (lv_at hl 0 rfl) ?_
              refine lv_iconst (v := 2) hx hb dX12_readLawLine_112 (by decide) ?_
              have k_2 : (2 : Int32).toInt = 2 := by decide
              refine lv_iadd hx hb dX12_readLawLine_113 ?_
              refine lv_topi (fun v68 ev68 => ?_)
              have f69 : v68.toInt = v3.toInt + (2 : Int32).toInt := by rw [ev68]; exact i_add (by omega) (by omega)
              refine lv_aload_n hx hb dX12_readLawLine_114 rfl (lv_at hl 1 rfl) ?_
              refine q_gi (T := TX12) C S60.1 ga0 16 kF_X12_182 dX12_readLawLine_115 rfl rfl (by decide) rfl (by decide) rfl ?_
              have r70 : 0 ≤ (fI D H60 11 a0 16).toInt ∧ (fI D H60 11 a0 16).toInt ≤ 400 := S60.1.rng ga0 rfl (by decide) rfl
              refine q_iast C S60 g67 (by omega) (by omega) dX12_readLawLine_118 rfl (by decide) (by decide +kernel) (fun _ _ h => wk_high _ _ (by omega) h) (fun H71 L71 S71 P71 => ?_)
              have y71_10 : (fI D H71 11 a0 10).toInt = (fI D H60 11 a0 10).toInt := congrArg Int32.toInt (Pa.f P71 (ne_role ga0 g67 (by decide)))
              have y71_12 : (fI D H71 11 a0 12).toInt = (fI D H60 11 a0 12).toInt := congrArg Int32.toInt (Pa.f P71 (ne_role ga0 g67 (by decide)))
              have y71_13 : (fI D H71 11 a0 13).toInt = (fI D H60 11 a0 13).toInt := congrArg Int32.toInt (Pa.f P71 (ne_role ga0 g67 (by decide)))
              have y71_16 : (fI D H71 11 a0 16).toInt = (fI D H60 11 a0 16).toInt := congrArg Int32.toInt (Pa.f P71 (ne_role ga0 g67 (by decide)))
              have rs71 : 0 ≤ (fI D H60 11 a0 16).toInt ∧ (fI D H60 11 a0 16).toInt ≤ 400 := S60.1.rng ga0 rfl (by decide) rfl
              have tk71 : Lr D s.heap H71 a0 x1.toInt.toNat := tk60.trans (Lr.ast S60.1 ga0 P71 rfl ⟨by omega, by omega⟩ (by omega))
              have zb71 : (eI H71 (fR D H71 11 a0 1) (1206 + 4 * x1.toInt.toNat)).toInt = (fI D H60 11 a0 16).toInt := congrArg Int32.toInt (eS S60.1 ga0 P71 rfl (by omega) (by omega))
              refine lv_aload_n hx hb dX12_readLawLine_119 rfl (lv_at hl 1 rfl) ?_
              refine lv_iconst (v := 0) hx hb dX12_readLawLine_120 (by decide) ?_
              refine q_put (T := TX12) C S71 ga0 13 kF_X12_197 dX12_readLawLine_121 rfl rfl (by decide) (by decide) rfl rfl rfl rfl rfl (vok_i rfl (by omega) (by omega)) (by decide +kernel) (fun H72 L72 S72 P72 => ?_)
              have y72_10 : (fI D H72 11 a0 10).toInt = (fI D H71 11 a0 10).toInt := congrArg Int32.toInt (Pt.o P72 (by decide) (by decide))
              have y72_12 : (fI D H72 11 a0 12).toInt = (fI D H71 11 a0 12).toInt := congrArg Int32.toInt (Pt.o P72 (by decide) (by decide))
              have y72_13 : (fI D H72 11 a0 13).toInt = (0 : Int32).toInt := congrArg Int32.toInt (Pt.i P72)
              have y72_16 : (fI D H72 11 a0 16).toInt = (fI D H71 11 a0 16).toInt := congrArg Int32.toInt (Pt.o P72 (by decide) (by decide))
              have lq72 : Lq D H71 H72 a0 := Lq.put S71.1 ga0 P72 (by decide) (by decide)
              have tk72 : Lr D s.heap H72 a0 x1.toInt.toNat := tk71.trans (Lr.of lq72)
              refine lv_aload_n hx hb dX12_readLawLine_124 rfl (lv_at hl 1 rfl) ?_
              refine q_lds C ks_X12_227 dX12_readLawLine_125 (fun a73 ha73 => ?_)
              refine callV_Ei C S72 (c_X12_passes_w l D G a0 a73 2 ga0 ha73) kV_X12_120 ga0 (trivial) (by decide +kernel) dX12_readLawLine_127 hl.1 rfl rfl (by decide) cd_X12_passes ⟨Nat.le_of_ble_eq_true rfl, Nat.le_of_ble_eq_true rfl, Nat.le_of_ble_eq_true rfl, Nat.le_of_ble_eq_true rfl, Nat.le_of_ble_eq_true rfl⟩ (fun v74 H74 L74 S74 K74 q74 => ?_)
              have y74_13 : (fI D H74 11 a0 13).toInt = (fI D H72 11 a0 13).toInt := congrArg Int32.toInt (K74.fI ga0 rfl (by decide) (by decide +kernel))
              have y74_16 : (fI D H74 11 a0 16).toInt = (fI D H72 11 a0 16).toInt := congrArg Int32.toInt (K74.fI ga0 rfl (by decide) (by decide +kernel))
              have lq74 : Lq D H72 H74 a0 := Lq.keep S72.1 ga0 K74 (by decide +kernel) (by decide +kernel) (by decide +kernel)
              have tk74 : Lr D s.heap H74 a0 x1.toInt.toNat := tk72.trans (Lr.of lq74)
              rcases q74 with q74 | q74
              · skip
                refine lv_if_eq (tgt := 142) hx hb dX12_readLawLine_130 (by decide) (fun c75 => ?_) (fun c75 => ?_)
                · have b75 : v74.toInt = (0 : Int32).toInt := i_eq.mp c75
                  exact absurd b75 (by omega)
                · have b75 : ¬ v74.toInt = (0 : Int32).toInt := fun z9 => c75 (i_eq.mpr z9)
                  refine lv_aload_n hx hb dX12_readLawLine_133 rfl (lv_at hl 1 rfl) ?_
                  have rs9 : 0 ≤ (fI D H74 11 a0 16).toInt ∧ (fI D H74 11 a0 16).toInt ≤ 400 := S74.1.rng ga0 rfl (by decide) rfl
                  have rp9 : 0 ≤ (fI D H74 11 a0 10).toInt ∧ (fI D H74 11 a0 10).toInt ≤ 400 := S74.1.rng ga0 rfl (by decide) rfl
                  refine callV_Ei C S74 (c_X12_readCond_d0 l D G a0 ga0) kV_X12_200 ga0 (⟨by omega, by omega⟩) (by decide +kernel) dX12_readLawLine_134 hl.1 rfl rfl (by decide) cd_X12_readCond ⟨Nat.le_of_ble_eq_true rfl, Nat.le_of_ble_eq_true rfl, Nat.le_of_ble_eq_true rfl, Nat.le_of_ble_eq_true rfl, Nat.le_of_ble_eq_true rfl⟩ (fun v76 H76 L76 S76 K76 q76 => ?_)
                  obtain ⟨q76, sa76, sx76, tq76⟩ := q76
                  have lq76 : Lq D H74 H76 a0 := tq76
                  have tk76 : Lr D s.heap H76 a0 x1.toInt.toNat := tk74.trans (Lr.of lq76)
                  refine lv_if_ne (tgt := 142) hx hb dX12_readLawLine_137 (by decide) (fun c77 => ?_) (fun c77 => ?_)
                  · have b77 : ¬ v76.toInt = (0 : Int32).toInt := fun z9 => c77 (i_eq.mpr z9)
                    have rs9 : 0 ≤ (fI D H76 11 a0 16).toInt ∧ (fI D H76 11 a0 16).toInt ≤ 400 := S76.1.rng ga0 rfl (by decide) rfl
                    have rp9 : 0 ≤ (fI D H76 11 a0 10).toInt ∧ (fI D H76 11 a0 10).toInt ≤ 400 := S76.1.rng ga0 rfl (by decide) rfl
                    refine lv_aload_n hx hb dX12_readLawLine_142 rfl (lv_at hl 1 rfl) ?_
                    refine q_gr (T := TX12) C S76.1 ga0 1 kF_X12_13 dX12_readLawLine_143 rfl rfl (by decide) rfl (by decide) rfl (fun g78 => ?_)
                    refine lv_iload_n hx hb dX12_readLawLine_146 rfl (lv_at hl 0 rfl) ?_
                    refine lv_iconst (v := 3) hx hb dX12_readLawLine_147 (by decide) ?_
                    have k_3 : (3 : Int32).toInt = 3 := by decide
                    refine lv_iadd hx hb dX12_readLawLine_148 ?_
                    refine lv_topi (fun v79 ev79 => ?_)
                    have f80 : v79.toInt = v3.toInt + (3 : Int32).toInt := by rw [ev79]; exact i_add (by omega) (by omega)
                    refine lv_aload_n hx hb dX12_readLawLine_149 rfl (lv_at hl 1 rfl) ?_
                    refine q_gi (T := TX12) C S76.1 ga0 16 kF_X12_182 dX12_readLawLine_150 rfl rfl (by decide) rfl (by decide) rfl ?_
                    have r81 : 0 ≤ (fI D H76 11 a0 16).toInt ∧ (fI D H76 11 a0 16).toInt ≤ 400 := S76.1.rng ga0 rfl (by decide) rfl
                    have n82 : aN H76 (fR D H76 11 a0 1) = 2052 := len_31 S76.1 g78
                    refine q_iast C S76 g78 (by omega) (by omega) dX12_readLawLine_153 rfl (by decide) (by decide +kernel) (fun _ _ h => wk_high _ _ (by omega) h) (fun H83 L83 S83 P83 => ?_)
                    have y83_10 : (fI D H83 11 a0 10).toInt = (fI D H76 11 a0 10).toInt := congrArg Int32.toInt (Pa.f P83 (ne_role ga0 g78 (by decide)))
                    have y83_12 : (fI D H83 11 a0 12).toInt = (fI D H76 11 a0 12).toInt := congrArg Int32.toInt (Pa.f P83 (ne_role ga0 g78 (by decide)))
                    have y83_13 : (fI D H83 11 a0 13).toInt = (fI D H76 11 a0 13).toInt := congrArg Int32.toInt (Pa.f P83 (ne_role ga0 g78 (by decide)))
                    have y83_16 : (fI D H83 11 a0 16).toInt = (fI D H76 11 a0 16).toInt := congrArg Int32.toInt (Pa.f P83 (ne_role ga0 g78 (by decide)))
                    have rs83 : 0 ≤ (fI D H76 11 a0 16).toInt ∧ (fI D H76 11 a0 16).toInt ≤ 400 := S76.1.rng ga0 rfl (by decide) rfl
                    have tk83 : Lr D s.heap H83 a0 x1.toInt.toNat := tk76.trans (Lr.ast S76.1 ga0 P83 rfl ⟨by omega, by omega⟩ (by omega))
                    refine lv_iconst (v := 1) hx hb dX12_readLawLine_154 (by decide) ?_
                    exact retE_z hQ C S83 hr dX12_readLawLine_155 (z01 (by omega) (by omega)) (⟨by omega, fun _ => by omega, fun _ h9 => Dl.line (b := (fI D H60 11 a0 16).toInt.toNat) (e := (fI D H76 11 a0 16).toInt.toNat) h9 tk83 (by omega) rs0.1 (by show (eI H83 (fR D H83 11 a0 1) _).toInt = _; rw [eA S76.1 ga0 P83 (by omega) (by omega), show eI H76 (fR D H76 11 a0 1) (1206 + 4 * x1.toInt.toNat) = _ from ((lq72.trans lq74).trans lq76).2 _ (by omega)]; rw [zb71]; omega) (by show (eI H83 (fR D H83 11 a0 1) _).toInt = _; rw [eS S76.1 ga0 P83 rfl (by omega) (by omega)]; omega) (by omega) (by show _ ≤ (fI D H83 11 a0 16).toInt; omega) (by have e9 : Ex (Cs D H76 a0) (fI D H60 11 a0 16).toInt.toNat (fI D H76 11 a0 16).toInt.toNat := (sx76 (by omega)).at (by omega) (by omega); exact e9.sk (fun k9 h9 => csA S76.1 ga0 P83 rfl (by omega) (by omega)))⟩)
                  · have b77 : v76.toInt = (0 : Int32).toInt := i_eq.mp c77
                    refine lv_iconst (v := 0) hx hb dX12_readLawLine_140 (by decide) ?_
                    exact retE_z hQ C S76 hr dX12_readLawLine_141 (z01 (by omega) (by omega)) (⟨by omega, fun h9 => absurd h9 (by decide), fun h9 => absurd h9 (by decide)⟩)
              · skip
                refine lv_if_eq (tgt := 142) hx hb dX12_readLawLine_130 (by decide) (fun c84 => ?_) (fun c84 => ?_)
                · have b84 : v74.toInt = (0 : Int32).toInt := i_eq.mp c84
                  have rs9 : 0 ≤ (fI D H74 11 a0 16).toInt ∧ (fI D H74 11 a0 16).toInt ≤ 400 := S74.1.rng ga0 rfl (by decide) rfl
                  have rp9 : 0 ≤ (fI D H74 11 a0 10).toInt ∧ (fI D H74 11 a0 10).toInt ≤ 400 := S74.1.rng ga0 rfl (by decide) rfl
                  refine lv_aload_n hx hb dX12_readLawLine_142 rfl (lv_at hl 1 rfl) ?_
                  refine q_gr (T := TX12) C S74.1 ga0 1 kF_X12_13 dX12_readLawLine_143 rfl rfl (by decide) rfl (by decide) rfl (fun g85 => ?_)
                  refine lv_iload_n hx hb dX12_readLawLine_146 rfl (lv_at hl 0 rfl) ?_
                  refine lv_iconst (v := 3) hx hb dX12_readLawLine_147 (by decide) ?_
                  have k_3 : (3 : Int32).toInt = 3 := by decide
                  refine lv_iadd hx hb dX12_readLawLine_148 ?_
                  refine lv_topi (fun v86 ev86 => ?_)
                  have f87 : v86.toInt = v3.toInt + (3 : Int32).toInt := by rw [ev86]; exact i_add (by omega) (by omega)
                  refine lv_aload_n hx hb dX12_readLawLine_149 rfl (lv_at hl 1 rfl) ?_
                  refine q_gi (T := TX12) C S74.1 ga0 16 kF_X12_182 dX12_readLawLine_150 rfl rfl (by decide) rfl (by decide) rfl ?_
                  have r88 : 0 ≤ (fI D H74 11 a0 16).toInt ∧ (fI D H74 11 a0 16).toInt ≤ 400 := S74.1.rng ga0 rfl (by decide) rfl
                  have n89 : aN H74 (fR D H74 11 a0 1) = 2052 := len_31 S74.1 g85
                  refine q_iast C S74 g85 (by omega) (by omega) dX12_readLawLine_153 rfl (by decide) (by decide +kernel) (fun _ _ h => wk_high _ _ (by omega) h) (fun H90 L90 S90 P90 => ?_)
                  have y90_10 : (fI D H90 11 a0 10).toInt = (fI D H74 11 a0 10).toInt := congrArg Int32.toInt (Pa.f P90 (ne_role ga0 g85 (by decide)))
                  have y90_12 : (fI D H90 11 a0 12).toInt = (fI D H74 11 a0 12).toInt := congrArg Int32.toInt (Pa.f P90 (ne_role ga0 g85 (by decide)))
                  have y90_13 : (fI D H90 11 a0 13).toInt = (fI D H74 11 a0 13).toInt := congrArg Int32.toInt (Pa.f P90 (ne_role ga0 g85 (by decide)))
                  have y90_16 : (fI D H90 11 a0 16).toInt = (fI D H74 11 a0 16).toInt := congrArg Int32.toInt (Pa.f P90 (ne_role ga0 g85 (by decide)))
                  have rs90 : 0 ≤ (fI D H74 11 a0 16).toInt ∧ (fI D H74 11 a0 16).toInt ≤ 400 := S74.1.rng ga0 rfl (by decide) rfl
                  have tk90 : Lr D s.heap H90 a0 x1.toInt.toNat := tk74.trans (Lr.ast S74.1 ga0 P90 rfl ⟨by omega, by omega⟩ (by omega))
                  refine lv_iconst (v := 1) hx hb dX12_readLawLine_154 (by decide) ?_
                  exact retE_z hQ C S90 hr dX12_readLawLine_155 (z01 (by omega) (by omega)) (⟨by omega, fun _ => by omega, fun _ h9 => Dl.line (b := (fI D H60 11 a0 16).toInt.toNat) (e := (fI D H74 11 a0 16).toInt.toNat) h9 tk90 (by omega) rs0.1 (by show (eI H90 (fR D H90 11 a0 1) _).toInt = _; rw [eA S74.1 ga0 P90 (by omega) (by omega), show eI H74 (fR D H74 11 a0 1) (1206 + 4 * x1.toInt.toNat) = _ from (lq72.trans lq74).2 _ (by omega)]; rw [zb71]; omega) (by show (eI H90 (fR D H90 11 a0 1) _).toInt = _; rw [eS S74.1 ga0 P90 rfl (by omega) (by omega)]; omega) (by omega) (by show _ ≤ (fI D H90 11 a0 16).toInt; omega) (by rw [show (fI D H74 11 a0 16).toInt.toNat - (fI D H60 11 a0 16).toInt.toNat = 0 by omega]; exact True.intro)⟩)
                · have b84 : ¬ v74.toInt = (0 : Int32).toInt := fun z9 => c84 (i_eq.mpr z9)
                  exact absurd b84 (by omega)
            · have b66 : ¬ (0 : Int32).toInt ≤ v65.toInt := fun z9 => c66 (i_le.mpr z9)
              refine lv_iconst (v := 0) hx hb dX12_readLawLine_105 (by decide) ?_
              exact retE_z hQ C S60 hr dX12_readLawLine_106 (z01 (by omega) (by omega)) (⟨by omega, fun h9 => absurd h9 (by decide), fun h9 => absurd h9 (by decide)⟩)
        · have b20 : ¬ (0 : Int32).toInt ≤ v19.toInt := fun z9 => c20 (i_le.mpr z9)
          refine lv_iconst (v := 0) hx hb dX12_readLawLine_63 (by decide) ?_
          exact retE_z hQ C S16 hr dX12_readLawLine_64 (z01 (by omega) (by omega)) (⟨by omega, fun h9 => absurd h9 (by decide), fun h9 => absurd h9 (by decide)⟩)
      · have b14 : ¬ v13.toInt = (0 : Int32).toInt := fun z9 => c14 (i_eq.mpr z9)
        refine lv_iconst (v := 2) hx hb dX12_readLawLine_48 (by decide) ?_
        refine lv_goto (tgt := 53) hx hb dX12_readLawLine_49 (by decide) ?_
        have n91 : aN s.heap (fR D s.heap 11 a0 1) = 2052 := len_31 S.1 g5
        have k_2 : (2 : Int32).toInt = 2 := by decide
        refine q_iast C S g5 (by omega) (by omega) dX12_readLawLine_53 rfl (by decide) (by decide +kernel) (fun _ _ h => wk_high _ _ (by omega) h) (fun H92 L92 S92 P92 => ?_)
        have y92_10 : (fI D H92 11 a0 10).toInt = (fI D s.heap 11 a0 10).toInt := congrArg Int32.toInt (Pa.f P92 (ne_role ga0 g5 (by decide)))
        have y92_12 : (fI D H92 11 a0 12).toInt = (fI D s.heap 11 a0 12).toInt := congrArg Int32.toInt (Pa.f P92 (ne_role ga0 g5 (by decide)))
        have y92_13 : (fI D H92 11 a0 13).toInt = (fI D s.heap 11 a0 13).toInt := congrArg Int32.toInt (Pa.f P92 (ne_role ga0 g5 (by decide)))
        have y92_16 : (fI D H92 11 a0 16).toInt = (fI D s.heap 11 a0 16).toInt := congrArg Int32.toInt (Pa.f P92 (ne_role ga0 g5 (by decide)))
        have rs92 : 0 ≤ (fI D s.heap 11 a0 16).toInt ∧ (fI D s.heap 11 a0 16).toInt ≤ 400 := S.1.rng ga0 rfl (by decide) rfl
        have tk92 : Lr D s.heap H92 a0 x1.toInt.toNat := tk0.trans (Lr.ast S.1 ga0 P92 rfl ⟨by omega, by omega⟩ (by omega))
        have ew : eI H92 (fR D H92 11 a0 1) v3.toInt.toNat = _ := eS S.1 ga0 P92 rfl rfl (by omega)
        refine lv_aload_n hx hb dX12_readLawLine_54 rfl (lv_at hl 1 rfl) ?_
        refine q_gr (T := TX12) C S92.1 ga0 1 kF_X12_13 dX12_readLawLine_55 rfl rfl (by decide) rfl (by decide) rfl (fun g93 => ?_)
        refine lv_iload_n hx hb dX12_readLawLine_58 rfl (lv_at hl 0 rfl) ?_
        have n94 : aN H92 (fR D H92 11 a0 1) = 2052 := len_31 S92.1 g93
        refine q_iald C S92.1 g93 (by omega) (by omega) dX12_readLawLine_59 rfl (by decide) ?_
        refine lv_topi (fun v95 ev95 => ?_)
        have ev59 := ev95
        have ez : v95.toInt = _ := congrArg Int32.toInt (ev59.trans ew)
        have kzm1 : ((-1) : Int32).toInt = -1 := by decide
        have kz0 : ((0) : Int32).toInt = 0 := by decide
        have kz1 : ((1) : Int32).toInt = 1 := by decide
        have kz2 : ((2) : Int32).toInt = 2 := by decide
        refine lv_if_ge (tgt := 65) hx hb dX12_readLawLine_60 (by decide) (fun c96 => ?_) (fun c96 => ?_)
        · have b96 : (0 : Int32).toInt ≤ v95.toInt := i_le.mp c96
          refine lv_aload_n hx hb dX12_readLawLine_65 rfl (lv_at hl 1 rfl) ?_
          refine q_gr (T := TX12) C S92.1 ga0 1 kF_X12_13 dX12_readLawLine_66 rfl rfl (by decide) rfl (by decide) rfl (fun g97 => ?_)
          refine lv_iload_n hx hb dX12_readLawLine_69 rfl (lv_at hl 0 rfl) ?_
          refine lv_iconst (v := 1) hx hb dX12_readLawLine_70 (by decide) ?_
          have k_1 : (1 : Int32).toInt = 1 := by decide
          refine lv_iadd hx hb dX12_readLawLine_71 ?_
          refine lv_topi (fun v98 ev98 => ?_)
          have f99 : v98.toInt = v3.toInt + (1 : Int32).toInt := by rw [ev98]; exact i_add (by omega) (by omega)
          refine lv_aload_n hx hb dX12_readLawLine_72 rfl (lv_at hl 1 rfl) ?_
          refine q_gr (T := TX12) C S92.1 ga0 1 kF_X12_13 dX12_readLawLine_73 rfl rfl (by decide) rfl (by decide) rfl (fun g100 => ?_)
          refine lv_iload_n hx hb dX12_readLawLine_76 rfl (lv_at hl 0 rfl) ?_
          refine q_iald C S92.1 g100 (by omega) (by omega) dX12_readLawLine_77 rfl (by decide) ?_
          refine lv_topi (fun v101 ev101 => ?_)
          refine lv_iconst (v := 1) hx hb dX12_readLawLine_78 (by decide) ?_
          refine lv_icmp_ne (tgt := 86) hx hb dX12_readLawLine_79 (by decide) (fun c102 => ?_) (fun c102 => ?_)
          · have b102 : ¬ v101.toInt = (1 : Int32).toInt := fun z9 => c102 (i_eq.mpr z9)
            refine lv_aload_n hx hb dX12_readLawLine_86 rfl (lv_at hl 1 rfl) ?_
            refine lv_iconst (v := 0) hx hb dX12_readLawLine_87 (by decide) ?_
            refine lv_bipush (v := 99) hx hb dX12_readLawLine_88 (by decide) ?_
            have k_99 : (99 : Int32).toInt = 99 := by decide
            refine callV_Ei C S92 (c_X12_number_w l D G a0 (0 : Int32) (99 : Int32) ga0) kV_X12_109 ga0 (trivial) (by decide +kernel) dX12_readLawLine_90 hl.1 rfl rfl (by decide) cd_X12_number ⟨Nat.le_of_ble_eq_true rfl, Nat.le_of_ble_eq_true rfl, Nat.le_of_ble_eq_true rfl, Nat.le_of_ble_eq_true rfl, Nat.le_of_ble_eq_true rfl⟩ (fun v103 H103 L103 S103 K103 q103 => ?_)
            have y103_13 : (fI D H103 11 a0 13).toInt = (fI D H92 11 a0 13).toInt := congrArg Int32.toInt (K103.fI ga0 rfl (by decide) (by decide +kernel))
            have y103_16 : (fI D H103 11 a0 16).toInt = (fI D H92 11 a0 16).toInt := congrArg Int32.toInt (K103.fI ga0 rfl (by decide) (by decide +kernel))
            have lq103 : Lq D H92 H103 a0 := Lq.keep S92.1 ga0 K103 (by decide +kernel) (by decide +kernel) (by decide +kernel)
            have tk103 : Lr D s.heap H103 a0 x1.toInt.toNat := tk92.trans (Lr.of lq103)
            have n104 : aN H103 (fR D H92 11 a0 1) = 2052 := len_31 S103.1 g97
            refine q_iast C S103 g97 (by omega) (by omega) dX12_readLawLine_93 rfl (by decide) (by decide +kernel) (fun _ _ h => wk_high _ _ (by omega) h) (fun H105 L105 S105 P105 => ?_)
            have y105_10 : (fI D H105 11 a0 10).toInt = (fI D H103 11 a0 10).toInt := congrArg Int32.toInt (Pa.f P105 (ne_role ga0 g97 (by decide)))
            have y105_12 : (fI D H105 11 a0 12).toInt = (fI D H103 11 a0 12).toInt := congrArg Int32.toInt (Pa.f P105 (ne_role ga0 g97 (by decide)))
            have y105_13 : (fI D H105 11 a0 13).toInt = (fI D H103 11 a0 13).toInt := congrArg Int32.toInt (Pa.f P105 (ne_role ga0 g97 (by decide)))
            have y105_16 : (fI D H105 11 a0 16).toInt = (fI D H103 11 a0 16).toInt := congrArg Int32.toInt (Pa.f P105 (ne_role ga0 g97 (by decide)))
            have rs105 : 0 ≤ (fI D H103 11 a0 16).toInt ∧ (fI D H103 11 a0 16).toInt ≤ 400 := S103.1.rng ga0 rfl (by decide) rfl
            have tk105 : Lr D s.heap H105 a0 x1.toInt.toNat := tk103.trans (Lr.ast S103.1 ga0 P105 ((S92.2.1.fR ga0 rfl (by decide) (by decide +kernel)).trans (S103.2.1.fR ga0 rfl (by decide) (by decide +kernel)).symm) ⟨by omega, by omega⟩ (by omega))
            refine lv_aload_n hx hb dX12_readLawLine_94 rfl (lv_at hl 1 rfl) ?_
            refine q_gr (T := TX12) C S105.1 ga0 1 kF_X12_13 dX12_readLawLine_95 rfl rfl (by decide) rfl (by decide) rfl (fun g106 => ?_)
            refine lv_iload_n hx hb dX12_readLawLine_98 rfl (lv_at hl 0 rfl) ?_
            refine lv_iconst (v := 1) hx hb dX12_readLawLine_99 (by decide) ?_
            refine lv_iadd hx hb dX12_readLawLine_100 ?_
            refine lv_topi (fun v107 ev107 => ?_)
            have f108 : v107.toInt = v3.toInt + (1 : Int32).toInt := by rw [ev107]; exact i_add (by omega) (by omega)
            have n109 : aN H105 (fR D H105 11 a0 1) = 2052 := len_31 S105.1 g106
            refine q_iald C S105.1 g106 (by omega) (by omega) dX12_readLawLine_101 rfl (by decide) ?_
            refine lv_topi (fun v110 ev110 => ?_)
            refine lv_if_ge (tgt := 107) hx hb dX12_readLawLine_102 (by decide) (fun c111 => ?_) (fun c111 => ?_)
            · have b111 : (0 : Int32).toInt ≤ v110.toInt := i_le.mp c111
              refine lv_aload_n hx hb dX12_readLawLine_107 rfl (lv_at hl 1 rfl) ?_
              refine q_gr (T := TX12) C S105.1 ga0 1 kF_X12_13 dX12_readLawLine_108 rfl rfl (by decide) rfl (by decide) rfl (fun g112 => ?_)
              refine lv_iload_n hx hb dX12_readLawLine_111 rfl (lv_at hl 0 rfl) ?_
              refine lv_iconst (v := 2) hx hb dX12_readLawLine_112 (by decide) ?_
              refine lv_iadd hx hb dX12_readLawLine_113 ?_
              refine lv_topi (fun v113 ev113 => ?_)
              have f114 : v113.toInt = v3.toInt + (2 : Int32).toInt := by rw [ev113]; exact i_add (by omega) (by omega)
              refine lv_aload_n hx hb dX12_readLawLine_114 rfl (lv_at hl 1 rfl) ?_
              refine q_gi (T := TX12) C S105.1 ga0 16 kF_X12_182 dX12_readLawLine_115 rfl rfl (by decide) rfl (by decide) rfl ?_
              have r115 : 0 ≤ (fI D H105 11 a0 16).toInt ∧ (fI D H105 11 a0 16).toInt ≤ 400 := S105.1.rng ga0 rfl (by decide) rfl
              refine q_iast C S105 g112 (by omega) (by omega) dX12_readLawLine_118 rfl (by decide) (by decide +kernel) (fun _ _ h => wk_high _ _ (by omega) h) (fun H116 L116 S116 P116 => ?_)
              have y116_10 : (fI D H116 11 a0 10).toInt = (fI D H105 11 a0 10).toInt := congrArg Int32.toInt (Pa.f P116 (ne_role ga0 g112 (by decide)))
              have y116_12 : (fI D H116 11 a0 12).toInt = (fI D H105 11 a0 12).toInt := congrArg Int32.toInt (Pa.f P116 (ne_role ga0 g112 (by decide)))
              have y116_13 : (fI D H116 11 a0 13).toInt = (fI D H105 11 a0 13).toInt := congrArg Int32.toInt (Pa.f P116 (ne_role ga0 g112 (by decide)))
              have y116_16 : (fI D H116 11 a0 16).toInt = (fI D H105 11 a0 16).toInt := congrArg Int32.toInt (Pa.f P116 (ne_role ga0 g112 (by decide)))
              have rs116 : 0 ≤ (fI D H105 11 a0 16).toInt ∧ (fI D H105 11 a0 16).toInt ≤ 400 := S105.1.rng ga0 rfl (by decide) rfl
              have tk116 : Lr D s.heap H116 a0 x1.toInt.toNat := tk105.trans (Lr.ast S105.1 ga0 P116 rfl ⟨by omega, by omega⟩ (by omega))
              have zb116 : (eI H116 (fR D H116 11 a0 1) (1206 + 4 * x1.toInt.toNat)).toInt = (fI D H105 11 a0 16).toInt := congrArg Int32.toInt (eS S105.1 ga0 P116 rfl (by omega) (by omega))
              refine lv_aload_n hx hb dX12_readLawLine_119 rfl (lv_at hl 1 rfl) ?_
              refine lv_iconst (v := 0) hx hb dX12_readLawLine_120 (by decide) ?_
              refine q_put (T := TX12) C S116 ga0 13 kF_X12_197 dX12_readLawLine_121 rfl rfl (by decide) (by decide) rfl rfl rfl rfl rfl (vok_i rfl (by omega) (by omega)) (by decide +kernel) (fun H117 L117 S117 P117 => ?_)
              have y117_10 : (fI D H117 11 a0 10).toInt = (fI D H116 11 a0 10).toInt := congrArg Int32.toInt (Pt.o P117 (by decide) (by decide))
              have y117_12 : (fI D H117 11 a0 12).toInt = (fI D H116 11 a0 12).toInt := congrArg Int32.toInt (Pt.o P117 (by decide) (by decide))
              have y117_13 : (fI D H117 11 a0 13).toInt = (0 : Int32).toInt := congrArg Int32.toInt (Pt.i P117)
              have y117_16 : (fI D H117 11 a0 16).toInt = (fI D H116 11 a0 16).toInt := congrArg Int32.toInt (Pt.o P117 (by decide) (by decide))
              have lq117 : Lq D H116 H117 a0 := Lq.put S116.1 ga0 P117 (by decide) (by decide)
              have tk117 : Lr D s.heap H117 a0 x1.toInt.toNat := tk116.trans (Lr.of lq117)
              refine lv_aload_n hx hb dX12_readLawLine_124 rfl (lv_at hl 1 rfl) ?_
              refine q_lds C ks_X12_227 dX12_readLawLine_125 (fun a118 ha118 => ?_)
              refine callV_Ei C S117 (c_X12_passes_w l D G a0 a118 2 ga0 ha118) kV_X12_120 ga0 (trivial) (by decide +kernel) dX12_readLawLine_127 hl.1 rfl rfl (by decide) cd_X12_passes ⟨Nat.le_of_ble_eq_true rfl, Nat.le_of_ble_eq_true rfl, Nat.le_of_ble_eq_true rfl, Nat.le_of_ble_eq_true rfl, Nat.le_of_ble_eq_true rfl⟩ (fun v119 H119 L119 S119 K119 q119 => ?_)
              have y119_13 : (fI D H119 11 a0 13).toInt = (fI D H117 11 a0 13).toInt := congrArg Int32.toInt (K119.fI ga0 rfl (by decide) (by decide +kernel))
              have y119_16 : (fI D H119 11 a0 16).toInt = (fI D H117 11 a0 16).toInt := congrArg Int32.toInt (K119.fI ga0 rfl (by decide) (by decide +kernel))
              have lq119 : Lq D H117 H119 a0 := Lq.keep S117.1 ga0 K119 (by decide +kernel) (by decide +kernel) (by decide +kernel)
              have tk119 : Lr D s.heap H119 a0 x1.toInt.toNat := tk117.trans (Lr.of lq119)
              rcases q119 with q119 | q119
              · skip
                refine lv_if_eq (tgt := 142) hx hb dX12_readLawLine_130 (by decide) (fun c120 => ?_) (fun c120 => ?_)
                · have b120 : v119.toInt = (0 : Int32).toInt := i_eq.mp c120
                  exact absurd b120 (by omega)
                · have b120 : ¬ v119.toInt = (0 : Int32).toInt := fun z9 => c120 (i_eq.mpr z9)
                  refine lv_aload_n hx hb dX12_readLawLine_133 rfl (lv_at hl 1 rfl) ?_
                  have rs9 : 0 ≤ (fI D H119 11 a0 16).toInt ∧ (fI D H119 11 a0 16).toInt ≤ 400 := S119.1.rng ga0 rfl (by decide) rfl
                  have rp9 : 0 ≤ (fI D H119 11 a0 10).toInt ∧ (fI D H119 11 a0 10).toInt ≤ 400 := S119.1.rng ga0 rfl (by decide) rfl
                  refine callV_Ei C S119 (c_X12_readCond_d0 l D G a0 ga0) kV_X12_200 ga0 (⟨by omega, by omega⟩) (by decide +kernel) dX12_readLawLine_134 hl.1 rfl rfl (by decide) cd_X12_readCond ⟨Nat.le_of_ble_eq_true rfl, Nat.le_of_ble_eq_true rfl, Nat.le_of_ble_eq_true rfl, Nat.le_of_ble_eq_true rfl, Nat.le_of_ble_eq_true rfl⟩ (fun v121 H121 L121 S121 K121 q121 => ?_)
                  obtain ⟨q121, sa121, sx121, tq121⟩ := q121
                  have lq121 : Lq D H119 H121 a0 := tq121
                  have tk121 : Lr D s.heap H121 a0 x1.toInt.toNat := tk119.trans (Lr.of lq121)
                  refine lv_if_ne (tgt := 142) hx hb dX12_readLawLine_137 (by decide) (fun c122 => ?_) (fun c122 => ?_)
                  · have b122 : ¬ v121.toInt = (0 : Int32).toInt := fun z9 => c122 (i_eq.mpr z9)
                    have rs9 : 0 ≤ (fI D H121 11 a0 16).toInt ∧ (fI D H121 11 a0 16).toInt ≤ 400 := S121.1.rng ga0 rfl (by decide) rfl
                    have rp9 : 0 ≤ (fI D H121 11 a0 10).toInt ∧ (fI D H121 11 a0 10).toInt ≤ 400 := S121.1.rng ga0 rfl (by decide) rfl
                    refine lv_aload_n hx hb dX12_readLawLine_142 rfl (lv_at hl 1 rfl) ?_
                    refine q_gr (T := TX12) C S121.1 ga0 1 kF_X12_13 dX12_readLawLine_143 rfl rfl (by decide) rfl (by decide) rfl (fun g123 => ?_)
                    refine lv_iload_n hx hb dX12_readLawLine_146 rfl (lv_at hl 0 rfl) ?_
                    refine lv_iconst (v := 3) hx hb dX12_readLawLine_147 (by decide) ?_
                    have k_3 : (3 : Int32).toInt = 3 := by decide
                    refine lv_iadd hx hb dX12_readLawLine_148 ?_
                    refine lv_topi (fun v124 ev124 => ?_)
                    have f125 : v124.toInt = v3.toInt + (3 : Int32).toInt := by rw [ev124]; exact i_add (by omega) (by omega)
                    refine lv_aload_n hx hb dX12_readLawLine_149 rfl (lv_at hl 1 rfl) ?_
                    refine q_gi (T := TX12) C S121.1 ga0 16 kF_X12_182 dX12_readLawLine_150 rfl rfl (by decide) rfl (by decide) rfl ?_
                    have r126 : 0 ≤ (fI D H121 11 a0 16).toInt ∧ (fI D H121 11 a0 16).toInt ≤ 400 := S121.1.rng ga0 rfl (by decide) rfl
                    have n127 : aN H121 (fR D H121 11 a0 1) = 2052 := len_31 S121.1 g123
                    refine q_iast C S121 g123 (by omega) (by omega) dX12_readLawLine_153 rfl (by decide) (by decide +kernel) (fun _ _ h => wk_high _ _ (by omega) h) (fun H128 L128 S128 P128 => ?_)
                    have y128_10 : (fI D H128 11 a0 10).toInt = (fI D H121 11 a0 10).toInt := congrArg Int32.toInt (Pa.f P128 (ne_role ga0 g123 (by decide)))
                    have y128_12 : (fI D H128 11 a0 12).toInt = (fI D H121 11 a0 12).toInt := congrArg Int32.toInt (Pa.f P128 (ne_role ga0 g123 (by decide)))
                    have y128_13 : (fI D H128 11 a0 13).toInt = (fI D H121 11 a0 13).toInt := congrArg Int32.toInt (Pa.f P128 (ne_role ga0 g123 (by decide)))
                    have y128_16 : (fI D H128 11 a0 16).toInt = (fI D H121 11 a0 16).toInt := congrArg Int32.toInt (Pa.f P128 (ne_role ga0 g123 (by decide)))
                    have rs128 : 0 ≤ (fI D H121 11 a0 16).toInt ∧ (fI D H121 11 a0 16).toInt ≤ 400 := S121.1.rng ga0 rfl (by decide) rfl
                    have tk128 : Lr D s.heap H128 a0 x1.toInt.toNat := tk121.trans (Lr.ast S121.1 ga0 P128 rfl ⟨by omega, by omega⟩ (by omega))
                    refine lv_iconst (v := 1) hx hb dX12_readLawLine_154 (by decide) ?_
                    exact retE_z hQ C S128 hr dX12_readLawLine_155 (z01 (by omega) (by omega)) (⟨by omega, fun _ => by omega, fun _ h9 => Dl.line (b := (fI D H105 11 a0 16).toInt.toNat) (e := (fI D H121 11 a0 16).toInt.toNat) h9 tk128 (by omega) rs0.1 (by show (eI H128 (fR D H128 11 a0 1) _).toInt = _; rw [eA S121.1 ga0 P128 (by omega) (by omega), show eI H121 (fR D H121 11 a0 1) (1206 + 4 * x1.toInt.toNat) = _ from ((lq117.trans lq119).trans lq121).2 _ (by omega)]; rw [zb116]; omega) (by show (eI H128 (fR D H128 11 a0 1) _).toInt = _; rw [eS S121.1 ga0 P128 rfl (by omega) (by omega)]; omega) (by omega) (by show _ ≤ (fI D H128 11 a0 16).toInt; omega) (by have e9 : Ex (Cs D H121 a0) (fI D H105 11 a0 16).toInt.toNat (fI D H121 11 a0 16).toInt.toNat := (sx121 (by omega)).at (by omega) (by omega); exact e9.sk (fun k9 h9 => csA S121.1 ga0 P128 rfl (by omega) (by omega)))⟩)
                  · have b122 : v121.toInt = (0 : Int32).toInt := i_eq.mp c122
                    refine lv_iconst (v := 0) hx hb dX12_readLawLine_140 (by decide) ?_
                    exact retE_z hQ C S121 hr dX12_readLawLine_141 (z01 (by omega) (by omega)) (⟨by omega, fun h9 => absurd h9 (by decide), fun h9 => absurd h9 (by decide)⟩)
              · skip
                refine lv_if_eq (tgt := 142) hx hb dX12_readLawLine_130 (by decide) (fun c129 => ?_) (fun c129 => ?_)
                · have b129 : v119.toInt = (0 : Int32).toInt := i_eq.mp c129
                  have rs9 : 0 ≤ (fI D H119 11 a0 16).toInt ∧ (fI D H119 11 a0 16).toInt ≤ 400 := S119.1.rng ga0 rfl (by decide) rfl
                  have rp9 : 0 ≤ (fI D H119 11 a0 10).toInt ∧ (fI D H119 11 a0 10).toInt ≤ 400 := S119.1.rng ga0 rfl (by decide) rfl
                  refine lv_aload_n hx hb dX12_readLawLine_142 rfl (lv_at hl 1 rfl) ?_
                  refine q_gr (T := TX12) C S119.1 ga0 1 kF_X12_13 dX12_readLawLine_143 rfl rfl (by decide) rfl (by decide) rfl (fun g130 => ?_)
                  refine lv_iload_n hx hb dX12_readLawLine_146 rfl (lv_at hl 0 rfl) ?_
                  refine lv_iconst (v := 3) hx hb dX12_readLawLine_147 (by decide) ?_
                  have k_3 : (3 : Int32).toInt = 3 := by decide
                  refine lv_iadd hx hb dX12_readLawLine_148 ?_
                  refine lv_topi (fun v131 ev131 => ?_)
                  have f132 : v131.toInt = v3.toInt + (3 : Int32).toInt := by rw [ev131]; exact i_add (by omega) (by omega)
                  refine lv_aload_n hx hb dX12_readLawLine_149 rfl (lv_at hl 1 rfl) ?_
                  refine q_gi (T := TX12) C S119.1 ga0 16 kF_X12_182 dX12_readLawLine_150 rfl rfl (by decide) rfl (by decide) rfl ?_
                  have r133 : 0 ≤ (fI D H119 11 a0 16).toInt ∧ (fI D H119 11 a0 16).toInt ≤ 400 := S119.1.rng ga0 rfl (by decide) rfl
                  have n134 : aN H119 (fR D H119 11 a0 1) = 2052 := len_31 S119.1 g130
                  refine q_iast C S119 g130 (by omega) (by omega) dX12_readLawLine_153 rfl (by decide) (by decide +kernel) (fun _ _ h => wk_high _ _ (by omega) h) (fun H135 L135 S135 P135 => ?_)
                  have y135_10 : (fI D H135 11 a0 10).toInt = (fI D H119 11 a0 10).toInt := congrArg Int32.toInt (Pa.f P135 (ne_role ga0 g130 (by decide)))
                  have y135_12 : (fI D H135 11 a0 12).toInt = (fI D H119 11 a0 12).toInt := congrArg Int32.toInt (Pa.f P135 (ne_role ga0 g130 (by decide)))
                  have y135_13 : (fI D H135 11 a0 13).toInt = (fI D H119 11 a0 13).toInt := congrArg Int32.toInt (Pa.f P135 (ne_role ga0 g130 (by decide)))
                  have y135_16 : (fI D H135 11 a0 16).toInt = (fI D H119 11 a0 16).toInt := congrArg Int32.toInt (Pa.f P135 (ne_role ga0 g130 (by decide)))
                  have rs135 : 0 ≤ (fI D H119 11 a0 16).toInt ∧ (fI D H119 11 a0 16).toInt ≤ 400 := S119.1.rng ga0 rfl (by decide) rfl
                  have tk135 : Lr D s.heap H135 a0 x1.toInt.toNat := tk119.trans (Lr.ast S119.1 ga0 P135 rfl ⟨by omega, by omega⟩ (by omega))
                  refine lv_iconst (v := 1) hx hb dX12_readLawLine_154 (by decide) ?_
                  exact retE_z hQ C S135 hr dX12_readLawLine_155 (z01 (by omega) (by omega)) (⟨by omega, fun _ => by omega, fun _ h9 => Dl.line (b := (fI D H105 11 a0 16).toInt.toNat) (e := (fI D H119 11 a0 16).toInt.toNat) h9 tk135 (by omega) rs0.1 (by show (eI H135 (fR D H135 11 a0 1) _).toInt = _; rw [eA S119.1 ga0 P135 (by omega) (by omega), show eI H119 (fR D H119 11 a0 1) (1206 + 4 * x1.toInt.toNat) = _ from (lq117.trans lq119).2 _ (by omega)]; rw [zb116]; omega) (by show (eI H135 (fR D H135 11 a0 1) _).toInt = _; rw [eS S119.1 ga0 P135 rfl (by omega) (by omega)]; omega) (by omega) (by show _ ≤ (fI D H135 11 a0 16).toInt; omega) (by rw [show (fI D H119 11 a0 16).toInt.toNat - (fI D H105 11 a0 16).toInt.toNat = 0 by omega]; exact True.intro)⟩)
                · have b129 : ¬ v119.toInt = (0 : Int32).toInt := fun z9 => c129 (i_eq.mpr z9)
                  exact absurd b129 (by omega)
            · have b111 : ¬ (0 : Int32).toInt ≤ v110.toInt := fun z9 => c111 (i_le.mpr z9)
              refine lv_iconst (v := 0) hx hb dX12_readLawLine_105 (by decide) ?_
              exact retE_z hQ C S105 hr dX12_readLawLine_106 (z01 (by omega) (by omega)) (⟨by omega, fun h9 => absurd h9 (by decide), fun h9 => absurd h9 (by decide)⟩)
          · have b102 : v101.toInt = (1 : Int32).toInt := i_eq.mp c102
            refine lv_iconst (v := 1) hx hb dX12_readLawLine_82 (by decide) ?_
            refine lv_goto (tgt := 93) hx hb dX12_readLawLine_83 (by decide) ?_
            refine q_iast C S92 g97 (by omega) (by omega) dX12_readLawLine_93 rfl (by decide) (by decide +kernel) (fun _ _ h => wk_high _ _ (by omega) h) (fun H136 L136 S136 P136 => ?_)
            have y136_10 : (fI D H136 11 a0 10).toInt = (fI D H92 11 a0 10).toInt := congrArg Int32.toInt (Pa.f P136 (ne_role ga0 g97 (by decide)))
            have y136_12 : (fI D H136 11 a0 12).toInt = (fI D H92 11 a0 12).toInt := congrArg Int32.toInt (Pa.f P136 (ne_role ga0 g97 (by decide)))
            have y136_13 : (fI D H136 11 a0 13).toInt = (fI D H92 11 a0 13).toInt := congrArg Int32.toInt (Pa.f P136 (ne_role ga0 g97 (by decide)))
            have y136_16 : (fI D H136 11 a0 16).toInt = (fI D H92 11 a0 16).toInt := congrArg Int32.toInt (Pa.f P136 (ne_role ga0 g97 (by decide)))
            have rs136 : 0 ≤ (fI D H92 11 a0 16).toInt ∧ (fI D H92 11 a0 16).toInt ≤ 400 := S92.1.rng ga0 rfl (by decide) rfl
            have tk136 : Lr D s.heap H136 a0 x1.toInt.toNat := tk92.trans (Lr.ast S92.1 ga0 P136 rfl ⟨by omega, by omega⟩ (by omega))
            refine lv_aload_n hx hb dX12_readLawLine_94 rfl (lv_at hl 1 rfl) ?_
            refine q_gr (T := TX12) C S136.1 ga0 1 kF_X12_13 dX12_readLawLine_95 rfl rfl (by decide) rfl (by decide) rfl (fun g137 => ?_)
            refine lv_iload_n hx hb dX12_readLawLine_98 rfl (lv_at hl 0 rfl) ?_
            refine lv_iconst (v := 1) hx hb dX12_readLawLine_99 (by decide) ?_
            refine lv_iadd hx hb dX12_readLawLine_100 ?_
            refine lv_topi (fun v138 ev138 => ?_)
            have f139 : v138.toInt = v3.toInt + (1 : Int32).toInt := by rw [ev138]; exact i_add (by omega) (by omega)
            have n140 : aN H136 (fR D H136 11 a0 1) = 2052 := len_31 S136.1 g137
            refine q_iald C S136.1 g137 (by omega) (by omega) dX12_readLawLine_101 rfl (by decide) ?_
            refine lv_topi (fun v141 ev141 => ?_)
            refine lv_if_ge (tgt := 107) hx hb dX12_readLawLine_102 (by decide) (fun c142 => ?_) (fun c142 => ?_)
            · have b142 : (0 : Int32).toInt ≤ v141.toInt := i_le.mp c142
              refine lv_aload_n hx hb dX12_readLawLine_107 rfl (lv_at hl 1 rfl) ?_
              refine q_gr (T := TX12) C S136.1 ga0 1 kF_X12_13 dX12_readLawLine_108 rfl rfl (by decide) rfl (by decide) rfl (fun g143 => ?_)
              refine lv_iload_n hx hb dX12_readLawLine_111 rfl (lv_at hl 0 rfl) ?_
              refine lv_iconst (v := 2) hx hb dX12_readLawLine_112 (by decide) ?_
              refine lv_iadd hx hb dX12_readLawLine_113 ?_
              refine lv_topi (fun v144 ev144 => ?_)
              have f145 : v144.toInt = v3.toInt + (2 : Int32).toInt := by rw [ev144]; exact i_add (by omega) (by omega)
              refine lv_aload_n hx hb dX12_readLawLine_114 rfl (lv_at hl 1 rfl) ?_
              refine q_gi (T := TX12) C S136.1 ga0 16 kF_X12_182 dX12_readLawLine_115 rfl rfl (by decide) rfl (by decide) rfl ?_
              have r146 : 0 ≤ (fI D H136 11 a0 16).toInt ∧ (fI D H136 11 a0 16).toInt ≤ 400 := S136.1.rng ga0 rfl (by decide) rfl
              refine q_iast C S136 g143 (by omega) (by omega) dX12_readLawLine_118 rfl (by decide) (by decide +kernel) (fun _ _ h => wk_high _ _ (by omega) h) (fun H147 L147 S147 P147 => ?_)
              have y147_10 : (fI D H147 11 a0 10).toInt = (fI D H136 11 a0 10).toInt := congrArg Int32.toInt (Pa.f P147 (ne_role ga0 g143 (by decide)))
              have y147_12 : (fI D H147 11 a0 12).toInt = (fI D H136 11 a0 12).toInt := congrArg Int32.toInt (Pa.f P147 (ne_role ga0 g143 (by decide)))
              have y147_13 : (fI D H147 11 a0 13).toInt = (fI D H136 11 a0 13).toInt := congrArg Int32.toInt (Pa.f P147 (ne_role ga0 g143 (by decide)))
              have y147_16 : (fI D H147 11 a0 16).toInt = (fI D H136 11 a0 16).toInt := congrArg Int32.toInt (Pa.f P147 (ne_role ga0 g143 (by decide)))
              have rs147 : 0 ≤ (fI D H136 11 a0 16).toInt ∧ (fI D H136 11 a0 16).toInt ≤ 400 := S136.1.rng ga0 rfl (by decide) rfl
              have tk147 : Lr D s.heap H147 a0 x1.toInt.toNat := tk136.trans (Lr.ast S136.1 ga0 P147 rfl ⟨by omega, by omega⟩ (by omega))
              have zb147 : (eI H147 (fR D H147 11 a0 1) (1206 + 4 * x1.toInt.toNat)).toInt = (fI D H136 11 a0 16).toInt := congrArg Int32.toInt (eS S136.1 ga0 P147 rfl (by omega) (by omega))
              refine lv_aload_n hx hb dX12_readLawLine_119 rfl (lv_at hl 1 rfl) ?_
              refine lv_iconst (v := 0) hx hb dX12_readLawLine_120 (by decide) ?_
              refine q_put (T := TX12) C S147 ga0 13 kF_X12_197 dX12_readLawLine_121 rfl rfl (by decide) (by decide) rfl rfl rfl rfl rfl (vok_i rfl (by omega) (by omega)) (by decide +kernel) (fun H148 L148 S148 P148 => ?_)
              have y148_10 : (fI D H148 11 a0 10).toInt = (fI D H147 11 a0 10).toInt := congrArg Int32.toInt (Pt.o P148 (by decide) (by decide))
              have y148_12 : (fI D H148 11 a0 12).toInt = (fI D H147 11 a0 12).toInt := congrArg Int32.toInt (Pt.o P148 (by decide) (by decide))
              have y148_13 : (fI D H148 11 a0 13).toInt = (0 : Int32).toInt := congrArg Int32.toInt (Pt.i P148)
              have y148_16 : (fI D H148 11 a0 16).toInt = (fI D H147 11 a0 16).toInt := congrArg Int32.toInt (Pt.o P148 (by decide) (by decide))
              have lq148 : Lq D H147 H148 a0 := Lq.put S147.1 ga0 P148 (by decide) (by decide)
              have tk148 : Lr D s.heap H148 a0 x1.toInt.toNat := tk147.trans (Lr.of lq148)
              refine lv_aload_n hx hb dX12_readLawLine_124 rfl (lv_at hl 1 rfl) ?_
              refine q_lds C ks_X12_227 dX12_readLawLine_125 (fun a149 ha149 => ?_)
              refine callV_Ei C S148 (c_X12_passes_w l D G a0 a149 2 ga0 ha149) kV_X12_120 ga0 (trivial) (by decide +kernel) dX12_readLawLine_127 hl.1 rfl rfl (by decide) cd_X12_passes ⟨Nat.le_of_ble_eq_true rfl, Nat.le_of_ble_eq_true rfl, Nat.le_of_ble_eq_true rfl, Nat.le_of_ble_eq_true rfl, Nat.le_of_ble_eq_true rfl⟩ (fun v150 H150 L150 S150 K150 q150 => ?_)
              have y150_13 : (fI D H150 11 a0 13).toInt = (fI D H148 11 a0 13).toInt := congrArg Int32.toInt (K150.fI ga0 rfl (by decide) (by decide +kernel))
              have y150_16 : (fI D H150 11 a0 16).toInt = (fI D H148 11 a0 16).toInt := congrArg Int32.toInt (K150.fI ga0 rfl (by decide) (by decide +kernel))
              have lq150 : Lq D H148 H150 a0 := Lq.keep S148.1 ga0 K150 (by decide +kernel) (by decide +kernel) (by decide +kernel)
              have tk150 : Lr D s.heap H150 a0 x1.toInt.toNat := tk148.trans (Lr.of lq150)
              rcases q150 with q150 | q150
              · skip
                refine lv_if_eq (tgt := 142) hx hb dX12_readLawLine_130 (by decide) (fun c151 => ?_) (fun c151 => ?_)
                · have b151 : v150.toInt = (0 : Int32).toInt := i_eq.mp c151
                  exact absurd b151 (by omega)
                · have b151 : ¬ v150.toInt = (0 : Int32).toInt := fun z9 => c151 (i_eq.mpr z9)
                  refine lv_aload_n hx hb dX12_readLawLine_133 rfl (lv_at hl 1 rfl) ?_
                  have rs9 : 0 ≤ (fI D H150 11 a0 16).toInt ∧ (fI D H150 11 a0 16).toInt ≤ 400 := S150.1.rng ga0 rfl (by decide) rfl
                  have rp9 : 0 ≤ (fI D H150 11 a0 10).toInt ∧ (fI D H150 11 a0 10).toInt ≤ 400 := S150.1.rng ga0 rfl (by decide) rfl
                  refine callV_Ei C S150 (c_X12_readCond_d0 l D G a0 ga0) kV_X12_200 ga0 (⟨by omega, by omega⟩) (by decide +kernel) dX12_readLawLine_134 hl.1 rfl rfl (by decide) cd_X12_readCond ⟨Nat.le_of_ble_eq_true rfl, Nat.le_of_ble_eq_true rfl, Nat.le_of_ble_eq_true rfl, Nat.le_of_ble_eq_true rfl, Nat.le_of_ble_eq_true rfl⟩ (fun v152 H152 L152 S152 K152 q152 => ?_)
                  obtain ⟨q152, sa152, sx152, tq152⟩ := q152
                  have lq152 : Lq D H150 H152 a0 := tq152
                  have tk152 : Lr D s.heap H152 a0 x1.toInt.toNat := tk150.trans (Lr.of lq152)
                  refine lv_if_ne (tgt := 142) hx hb dX12_readLawLine_137 (by decide) (fun c153 => ?_) (fun c153 => ?_)
                  · have b153 : ¬ v152.toInt = (0 : Int32).toInt := fun z9 => c153 (i_eq.mpr z9)
                    have rs9 : 0 ≤ (fI D H152 11 a0 16).toInt ∧ (fI D H152 11 a0 16).toInt ≤ 400 := S152.1.rng ga0 rfl (by decide) rfl
                    have rp9 : 0 ≤ (fI D H152 11 a0 10).toInt ∧ (fI D H152 11 a0 10).toInt ≤ 400 := S152.1.rng ga0 rfl (by decide) rfl
                    refine lv_aload_n hx hb dX12_readLawLine_142 rfl (lv_at hl 1 rfl) ?_
                    refine q_gr (T := TX12) C S152.1 ga0 1 kF_X12_13 dX12_readLawLine_143 rfl rfl (by decide) rfl (by decide) rfl (fun g154 => ?_)
                    refine lv_iload_n hx hb dX12_readLawLine_146 rfl (lv_at hl 0 rfl) ?_
                    refine lv_iconst (v := 3) hx hb dX12_readLawLine_147 (by decide) ?_
                    have k_3 : (3 : Int32).toInt = 3 := by decide
                    refine lv_iadd hx hb dX12_readLawLine_148 ?_
                    refine lv_topi (fun v155 ev155 => ?_)
                    have f156 : v155.toInt = v3.toInt + (3 : Int32).toInt := by rw [ev155]; exact i_add (by omega) (by omega)
                    refine lv_aload_n hx hb dX12_readLawLine_149 rfl (lv_at hl 1 rfl) ?_
                    refine q_gi (T := TX12) C S152.1 ga0 16 kF_X12_182 dX12_readLawLine_150 rfl rfl (by decide) rfl (by decide) rfl ?_
                    have r157 : 0 ≤ (fI D H152 11 a0 16).toInt ∧ (fI D H152 11 a0 16).toInt ≤ 400 := S152.1.rng ga0 rfl (by decide) rfl
                    have n158 : aN H152 (fR D H152 11 a0 1) = 2052 := len_31 S152.1 g154
                    refine q_iast C S152 g154 (by omega) (by omega) dX12_readLawLine_153 rfl (by decide) (by decide +kernel) (fun _ _ h => wk_high _ _ (by omega) h) (fun H159 L159 S159 P159 => ?_)
                    have y159_10 : (fI D H159 11 a0 10).toInt = (fI D H152 11 a0 10).toInt := congrArg Int32.toInt (Pa.f P159 (ne_role ga0 g154 (by decide)))
                    have y159_12 : (fI D H159 11 a0 12).toInt = (fI D H152 11 a0 12).toInt := congrArg Int32.toInt (Pa.f P159 (ne_role ga0 g154 (by decide)))
                    have y159_13 : (fI D H159 11 a0 13).toInt = (fI D H152 11 a0 13).toInt := congrArg Int32.toInt (Pa.f P159 (ne_role ga0 g154 (by decide)))
                    have y159_16 : (fI D H159 11 a0 16).toInt = (fI D H152 11 a0 16).toInt := congrArg Int32.toInt (Pa.f P159 (ne_role ga0 g154 (by decide)))
                    have rs159 : 0 ≤ (fI D H152 11 a0 16).toInt ∧ (fI D H152 11 a0 16).toInt ≤ 400 := S152.1.rng ga0 rfl (by decide) rfl
                    have tk159 : Lr D s.heap H159 a0 x1.toInt.toNat := tk152.trans (Lr.ast S152.1 ga0 P159 rfl ⟨by omega, by omega⟩ (by omega))
                    refine lv_iconst (v := 1) hx hb dX12_readLawLine_154 (by decide) ?_
                    exact retE_z hQ C S159 hr dX12_readLawLine_155 (z01 (by omega) (by omega)) (⟨by omega, fun _ => by omega, fun _ h9 => Dl.line (b := (fI D H136 11 a0 16).toInt.toNat) (e := (fI D H152 11 a0 16).toInt.toNat) h9 tk159 (by omega) rs0.1 (by show (eI H159 (fR D H159 11 a0 1) _).toInt = _; rw [eA S152.1 ga0 P159 (by omega) (by omega), show eI H152 (fR D H152 11 a0 1) (1206 + 4 * x1.toInt.toNat) = _ from ((lq148.trans lq150).trans lq152).2 _ (by omega)]; rw [zb147]; omega) (by show (eI H159 (fR D H159 11 a0 1) _).toInt = _; rw [eS S152.1 ga0 P159 rfl (by omega) (by omega)]; omega) (by omega) (by show _ ≤ (fI D H159 11 a0 16).toInt; omega) (by have e9 : Ex (Cs D H152 a0) (fI D H136 11 a0 16).toInt.toNat (fI D H152 11 a0 16).toInt.toNat := (sx152 (by omega)).at (by omega) (by omega); exact e9.sk (fun k9 h9 => csA S152.1 ga0 P159 rfl (by omega) (by omega)))⟩)
                  · have b153 : v152.toInt = (0 : Int32).toInt := i_eq.mp c153
                    refine lv_iconst (v := 0) hx hb dX12_readLawLine_140 (by decide) ?_
                    exact retE_z hQ C S152 hr dX12_readLawLine_141 (z01 (by omega) (by omega)) (⟨by omega, fun h9 => absurd h9 (by decide), fun h9 => absurd h9 (by decide)⟩)
              · skip
                refine lv_if_eq (tgt := 142) hx hb dX12_readLawLine_130 (by decide) (fun c160 => ?_) (fun c160 => ?_)
                · have b160 : v150.toInt = (0 : Int32).toInt := i_eq.mp c160
                  have rs9 : 0 ≤ (fI D H150 11 a0 16).toInt ∧ (fI D H150 11 a0 16).toInt ≤ 400 := S150.1.rng ga0 rfl (by decide) rfl
                  have rp9 : 0 ≤ (fI D H150 11 a0 10).toInt ∧ (fI D H150 11 a0 10).toInt ≤ 400 := S150.1.rng ga0 rfl (by decide) rfl
                  refine lv_aload_n hx hb dX12_readLawLine_142 rfl (lv_at hl 1 rfl) ?_
                  refine q_gr (T := TX12) C S150.1 ga0 1 kF_X12_13 dX12_readLawLine_143 rfl rfl (by decide) rfl (by decide) rfl (fun g161 => ?_)
                  refine lv_iload_n hx hb dX12_readLawLine_146 rfl (lv_at hl 0 rfl) ?_
                  refine lv_iconst (v := 3) hx hb dX12_readLawLine_147 (by decide) ?_
                  have k_3 : (3 : Int32).toInt = 3 := by decide
                  refine lv_iadd hx hb dX12_readLawLine_148 ?_
                  refine lv_topi (fun v162 ev162 => ?_)
                  have f163 : v162.toInt = v3.toInt + (3 : Int32).toInt := by rw [ev162]; exact i_add (by omega) (by omega)
                  refine lv_aload_n hx hb dX12_readLawLine_149 rfl (lv_at hl 1 rfl) ?_
                  refine q_gi (T := TX12) C S150.1 ga0 16 kF_X12_182 dX12_readLawLine_150 rfl rfl (by decide) rfl (by decide) rfl ?_
                  have r164 : 0 ≤ (fI D H150 11 a0 16).toInt ∧ (fI D H150 11 a0 16).toInt ≤ 400 := S150.1.rng ga0 rfl (by decide) rfl
                  have n165 : aN H150 (fR D H150 11 a0 1) = 2052 := len_31 S150.1 g161
                  refine q_iast C S150 g161 (by omega) (by omega) dX12_readLawLine_153 rfl (by decide) (by decide +kernel) (fun _ _ h => wk_high _ _ (by omega) h) (fun H166 L166 S166 P166 => ?_)
                  have y166_10 : (fI D H166 11 a0 10).toInt = (fI D H150 11 a0 10).toInt := congrArg Int32.toInt (Pa.f P166 (ne_role ga0 g161 (by decide)))
                  have y166_12 : (fI D H166 11 a0 12).toInt = (fI D H150 11 a0 12).toInt := congrArg Int32.toInt (Pa.f P166 (ne_role ga0 g161 (by decide)))
                  have y166_13 : (fI D H166 11 a0 13).toInt = (fI D H150 11 a0 13).toInt := congrArg Int32.toInt (Pa.f P166 (ne_role ga0 g161 (by decide)))
                  have y166_16 : (fI D H166 11 a0 16).toInt = (fI D H150 11 a0 16).toInt := congrArg Int32.toInt (Pa.f P166 (ne_role ga0 g161 (by decide)))
                  have rs166 : 0 ≤ (fI D H150 11 a0 16).toInt ∧ (fI D H150 11 a0 16).toInt ≤ 400 := S150.1.rng ga0 rfl (by decide) rfl
                  have tk166 : Lr D s.heap H166 a0 x1.toInt.toNat := tk150.trans (Lr.ast S150.1 ga0 P166 rfl ⟨by omega, by omega⟩ (by omega))
                  refine lv_iconst (v := 1) hx hb dX12_readLawLine_154 (by decide) ?_
                  exact retE_z hQ C S166 hr dX12_readLawLine_155 (z01 (by omega) (by omega)) (⟨by omega, fun _ => by omega, fun _ h9 => Dl.line (b := (fI D H136 11 a0 16).toInt.toNat) (e := (fI D H150 11 a0 16).toInt.toNat) h9 tk166 (by omega) rs0.1 (by show (eI H166 (fR D H166 11 a0 1) _).toInt = _; rw [eA S150.1 ga0 P166 (by omega) (by omega), show eI H150 (fR D H150 11 a0 1) (1206 + 4 * x1.toInt.toNat) = _ from (lq148.trans lq150).2 _ (by omega)]; rw [zb147]; omega) (by show (eI H166 (fR D H166 11 a0 1) _).toInt = _; rw [eS S150.1 ga0 P166 rfl (by omega) (by omega)]; omega) (by omega) (by show _ ≤ (fI D H166 11 a0 16).toInt; omega) (by rw [show (fI D H150 11 a0 16).toInt.toNat - (fI D H136 11 a0 16).toInt.toNat = 0 by omega]; exact True.intro)⟩)
                · have b160 : ¬ v150.toInt = (0 : Int32).toInt := fun z9 => c160 (i_eq.mpr z9)
                  exact absurd b160 (by omega)
            · have b142 : ¬ (0 : Int32).toInt ≤ v141.toInt := fun z9 => c142 (i_le.mpr z9)
              refine lv_iconst (v := 0) hx hb dX12_readLawLine_105 (by decide) ?_
              exact retE_z hQ C S136 hr dX12_readLawLine_106 (z01 (by omega) (by omega)) (⟨by omega, fun h9 => absurd h9 (by decide), fun h9 => absurd h9 (by decide)⟩)
        · have b96 : ¬ (0 : Int32).toInt ≤ v95.toInt := fun z9 => c96 (i_le.mpr z9)
          refine lv_iconst (v := 0) hx hb dX12_readLawLine_63 (by decide) ?_
          exact retE_z hQ C S92 hr dX12_readLawLine_64 (z01 (by omega) (by omega)) (⟨by omega, fun h9 => absurd h9 (by decide), fun h9 => absurd h9 (by decide)⟩)
    · have b11 : ¬ v10.toInt = (0 : Int32).toInt := fun z9 => c11 (i_eq.mpr z9)
      refine lv_iconst (v := 1) hx hb dX12_readLawLine_35 (by decide) ?_
      refine lv_goto (tgt := 53) hx hb dX12_readLawLine_36 (by decide) ?_
      have n167 : aN s.heap (fR D s.heap 11 a0 1) = 2052 := len_31 S.1 g5
      have k_1 : (1 : Int32).toInt = 1 := by decide
      refine q_iast C S g5 (by omega) (by omega) dX12_readLawLine_53 rfl (by decide) (by decide +kernel) (fun _ _ h => wk_high _ _ (by omega) h) (fun H168 L168 S168 P168 => ?_)
      have y168_10 : (fI D H168 11 a0 10).toInt = (fI D s.heap 11 a0 10).toInt := congrArg Int32.toInt (Pa.f P168 (ne_role ga0 g5 (by decide)))
      have y168_12 : (fI D H168 11 a0 12).toInt = (fI D s.heap 11 a0 12).toInt := congrArg Int32.toInt (Pa.f P168 (ne_role ga0 g5 (by decide)))
      have y168_13 : (fI D H168 11 a0 13).toInt = (fI D s.heap 11 a0 13).toInt := congrArg Int32.toInt (Pa.f P168 (ne_role ga0 g5 (by decide)))
      have y168_16 : (fI D H168 11 a0 16).toInt = (fI D s.heap 11 a0 16).toInt := congrArg Int32.toInt (Pa.f P168 (ne_role ga0 g5 (by decide)))
      have rs168 : 0 ≤ (fI D s.heap 11 a0 16).toInt ∧ (fI D s.heap 11 a0 16).toInt ≤ 400 := S.1.rng ga0 rfl (by decide) rfl
      have tk168 : Lr D s.heap H168 a0 x1.toInt.toNat := tk0.trans (Lr.ast S.1 ga0 P168 rfl ⟨by omega, by omega⟩ (by omega))
      have ew : eI H168 (fR D H168 11 a0 1) v3.toInt.toNat = _ := eS S.1 ga0 P168 rfl rfl (by omega)
      refine lv_aload_n hx hb dX12_readLawLine_54 rfl (lv_at hl 1 rfl) ?_
      refine q_gr (T := TX12) C S168.1 ga0 1 kF_X12_13 dX12_readLawLine_55 rfl rfl (by decide) rfl (by decide) rfl (fun g169 => ?_)
      refine lv_iload_n hx hb dX12_readLawLine_58 rfl (lv_at hl 0 rfl) ?_
      have n170 : aN H168 (fR D H168 11 a0 1) = 2052 := len_31 S168.1 g169
      refine q_iald C S168.1 g169 (by omega) (by omega) dX12_readLawLine_59 rfl (by decide) ?_
      refine lv_topi (fun v171 ev171 => ?_)
      have ev59 := ev171
      have ez : v171.toInt = _ := congrArg Int32.toInt (ev59.trans ew)
      have kzm1 : ((-1) : Int32).toInt = -1 := by decide
      have kz0 : ((0) : Int32).toInt = 0 := by decide
      have kz1 : ((1) : Int32).toInt = 1 := by decide
      have kz2 : ((2) : Int32).toInt = 2 := by decide
      refine lv_if_ge (tgt := 65) hx hb dX12_readLawLine_60 (by decide) (fun c172 => ?_) (fun c172 => ?_)
      · have b172 : (0 : Int32).toInt ≤ v171.toInt := i_le.mp c172
        refine lv_aload_n hx hb dX12_readLawLine_65 rfl (lv_at hl 1 rfl) ?_
        refine q_gr (T := TX12) C S168.1 ga0 1 kF_X12_13 dX12_readLawLine_66 rfl rfl (by decide) rfl (by decide) rfl (fun g173 => ?_)
        refine lv_iload_n hx hb dX12_readLawLine_69 rfl (lv_at hl 0 rfl) ?_
        refine lv_iconst (v := 1) hx hb dX12_readLawLine_70 (by decide) ?_
        refine lv_iadd hx hb dX12_readLawLine_71 ?_
        refine lv_topi (fun v174 ev174 => ?_)
        have f175 : v174.toInt = v3.toInt + (1 : Int32).toInt := by rw [ev174]; exact i_add (by omega) (by omega)
        refine lv_aload_n hx hb dX12_readLawLine_72 rfl (lv_at hl 1 rfl) ?_
        refine q_gr (T := TX12) C S168.1 ga0 1 kF_X12_13 dX12_readLawLine_73 rfl rfl (by decide) rfl (by decide) rfl (fun g176 => ?_)
        refine lv_iload_n hx hb dX12_readLawLine_76 rfl (lv_at hl 0 rfl) ?_
        refine q_iald C S168.1 g176 (by omega) (by omega) dX12_readLawLine_77 rfl (by decide) ?_
        refine lv_topi (fun v177 ev177 => ?_)
        refine lv_iconst (v := 1) hx hb dX12_readLawLine_78 (by decide) ?_
        refine lv_icmp_ne (tgt := 86) hx hb dX12_readLawLine_79 (by decide) (fun c178 => ?_) (fun c178 => ?_)
        · have b178 : ¬ v177.toInt = (1 : Int32).toInt := fun z9 => c178 (i_eq.mpr z9)
          refine lv_aload_n hx hb dX12_readLawLine_86 rfl (lv_at hl 1 rfl) ?_
          refine lv_iconst (v := 0) hx hb dX12_readLawLine_87 (by decide) ?_
          refine lv_bipush (v := 99) hx hb dX12_readLawLine_88 (by decide) ?_
          have k_99 : (99 : Int32).toInt = 99 := by decide
          refine callV_Ei C S168 (c_X12_number_w l D G a0 (0 : Int32) (99 : Int32) ga0) kV_X12_109 ga0 (trivial) (by decide +kernel) dX12_readLawLine_90 hl.1 rfl rfl (by decide) cd_X12_number ⟨Nat.le_of_ble_eq_true rfl, Nat.le_of_ble_eq_true rfl, Nat.le_of_ble_eq_true rfl, Nat.le_of_ble_eq_true rfl, Nat.le_of_ble_eq_true rfl⟩ (fun v179 H179 L179 S179 K179 q179 => ?_)
          have y179_13 : (fI D H179 11 a0 13).toInt = (fI D H168 11 a0 13).toInt := congrArg Int32.toInt (K179.fI ga0 rfl (by decide) (by decide +kernel))
          have y179_16 : (fI D H179 11 a0 16).toInt = (fI D H168 11 a0 16).toInt := congrArg Int32.toInt (K179.fI ga0 rfl (by decide) (by decide +kernel))
          have lq179 : Lq D H168 H179 a0 := Lq.keep S168.1 ga0 K179 (by decide +kernel) (by decide +kernel) (by decide +kernel)
          have tk179 : Lr D s.heap H179 a0 x1.toInt.toNat := tk168.trans (Lr.of lq179)
          have n180 : aN H179 (fR D H168 11 a0 1) = 2052 := len_31 S179.1 g173
          refine q_iast C S179 g173 (by omega) (by omega) dX12_readLawLine_93 rfl (by decide) (by decide +kernel) (fun _ _ h => wk_high _ _ (by omega) h) (fun H181 L181 S181 P181 => ?_)
          have y181_10 : (fI D H181 11 a0 10).toInt = (fI D H179 11 a0 10).toInt := congrArg Int32.toInt (Pa.f P181 (ne_role ga0 g173 (by decide)))
          have y181_12 : (fI D H181 11 a0 12).toInt = (fI D H179 11 a0 12).toInt := congrArg Int32.toInt (Pa.f P181 (ne_role ga0 g173 (by decide)))
          have y181_13 : (fI D H181 11 a0 13).toInt = (fI D H179 11 a0 13).toInt := congrArg Int32.toInt (Pa.f P181 (ne_role ga0 g173 (by decide)))
          have y181_16 : (fI D H181 11 a0 16).toInt = (fI D H179 11 a0 16).toInt := congrArg Int32.toInt (Pa.f P181 (ne_role ga0 g173 (by decide)))
          have rs181 : 0 ≤ (fI D H179 11 a0 16).toInt ∧ (fI D H179 11 a0 16).toInt ≤ 400 := S179.1.rng ga0 rfl (by decide) rfl
          have tk181 : Lr D s.heap H181 a0 x1.toInt.toNat := tk179.trans (Lr.ast S179.1 ga0 P181 ((S168.2.1.fR ga0 rfl (by decide) (by decide +kernel)).trans (S179.2.1.fR ga0 rfl (by decide) (by decide +kernel)).symm) ⟨by omega, by omega⟩ (by omega))
          refine lv_aload_n hx hb dX12_readLawLine_94 rfl (lv_at hl 1 rfl) ?_
          refine q_gr (T := TX12) C S181.1 ga0 1 kF_X12_13 dX12_readLawLine_95 rfl rfl (by decide) rfl (by decide) rfl (fun g182 => ?_)
          refine lv_iload_n hx hb dX12_readLawLine_98 rfl (lv_at hl 0 rfl) ?_
          refine lv_iconst (v := 1) hx hb dX12_readLawLine_99 (by decide) ?_
          refine lv_iadd hx hb dX12_readLawLine_100 ?_
          refine lv_topi (fun v183 ev183 => ?_)
          have f184 : v183.toInt = v3.toInt + (1 : Int32).toInt := by rw [ev183]; exact i_add (by omega) (by omega)
          have n185 : aN H181 (fR D H181 11 a0 1) = 2052 := len_31 S181.1 g182
          refine q_iald C S181.1 g182 (by omega) (by omega) dX12_readLawLine_101 rfl (by decide) ?_
          refine lv_topi (fun v186 ev186 => ?_)
          refine lv_if_ge (tgt := 107) hx hb dX12_readLawLine_102 (by decide) (fun c187 => ?_) (fun c187 => ?_)
          · have b187 : (0 : Int32).toInt ≤ v186.toInt := i_le.mp c187
            refine lv_aload_n hx hb dX12_readLawLine_107 rfl (lv_at hl 1 rfl) ?_
            refine q_gr (T := TX12) C S181.1 ga0 1 kF_X12_13 dX12_readLawLine_108 rfl rfl (by decide) rfl (by decide) rfl (fun g188 => ?_)
            refine lv_iload_n hx hb dX12_readLawLine_111 rfl (lv_at hl 0 rfl) ?_
            refine lv_iconst (v := 2) hx hb dX12_readLawLine_112 (by decide) ?_
            have k_2 : (2 : Int32).toInt = 2 := by decide
            refine lv_iadd hx hb dX12_readLawLine_113 ?_
            refine lv_topi (fun v189 ev189 => ?_)
            have f190 : v189.toInt = v3.toInt + (2 : Int32).toInt := by rw [ev189]; exact i_add (by omega) (by omega)
            refine lv_aload_n hx hb dX12_readLawLine_114 rfl (lv_at hl 1 rfl) ?_
            refine q_gi (T := TX12) C S181.1 ga0 16 kF_X12_182 dX12_readLawLine_115 rfl rfl (by decide) rfl (by decide) rfl ?_
            have r191 : 0 ≤ (fI D H181 11 a0 16).toInt ∧ (fI D H181 11 a0 16).toInt ≤ 400 := S181.1.rng ga0 rfl (by decide) rfl
            refine q_iast C S181 g188 (by omega) (by omega) dX12_readLawLine_118 rfl (by decide) (by decide +kernel) (fun _ _ h => wk_high _ _ (by omega) h) (fun H192 L192 S192 P192 => ?_)
            have y192_10 : (fI D H192 11 a0 10).toInt = (fI D H181 11 a0 10).toInt := congrArg Int32.toInt (Pa.f P192 (ne_role ga0 g188 (by decide)))
            have y192_12 : (fI D H192 11 a0 12).toInt = (fI D H181 11 a0 12).toInt := congrArg Int32.toInt (Pa.f P192 (ne_role ga0 g188 (by decide)))
            have y192_13 : (fI D H192 11 a0 13).toInt = (fI D H181 11 a0 13).toInt := congrArg Int32.toInt (Pa.f P192 (ne_role ga0 g188 (by decide)))
            have y192_16 : (fI D H192 11 a0 16).toInt = (fI D H181 11 a0 16).toInt := congrArg Int32.toInt (Pa.f P192 (ne_role ga0 g188 (by decide)))
            have rs192 : 0 ≤ (fI D H181 11 a0 16).toInt ∧ (fI D H181 11 a0 16).toInt ≤ 400 := S181.1.rng ga0 rfl (by decide) rfl
            have tk192 : Lr D s.heap H192 a0 x1.toInt.toNat := tk181.trans (Lr.ast S181.1 ga0 P192 rfl ⟨by omega, by omega⟩ (by omega))
            have zb192 : (eI H192 (fR D H192 11 a0 1) (1206 + 4 * x1.toInt.toNat)).toInt = (fI D H181 11 a0 16).toInt := congrArg Int32.toInt (eS S181.1 ga0 P192 rfl (by omega) (by omega))
            refine lv_aload_n hx hb dX12_readLawLine_119 rfl (lv_at hl 1 rfl) ?_
            refine lv_iconst (v := 0) hx hb dX12_readLawLine_120 (by decide) ?_
            refine q_put (T := TX12) C S192 ga0 13 kF_X12_197 dX12_readLawLine_121 rfl rfl (by decide) (by decide) rfl rfl rfl rfl rfl (vok_i rfl (by omega) (by omega)) (by decide +kernel) (fun H193 L193 S193 P193 => ?_)
            have y193_10 : (fI D H193 11 a0 10).toInt = (fI D H192 11 a0 10).toInt := congrArg Int32.toInt (Pt.o P193 (by decide) (by decide))
            have y193_12 : (fI D H193 11 a0 12).toInt = (fI D H192 11 a0 12).toInt := congrArg Int32.toInt (Pt.o P193 (by decide) (by decide))
            have y193_13 : (fI D H193 11 a0 13).toInt = (0 : Int32).toInt := congrArg Int32.toInt (Pt.i P193)
            have y193_16 : (fI D H193 11 a0 16).toInt = (fI D H192 11 a0 16).toInt := congrArg Int32.toInt (Pt.o P193 (by decide) (by decide))
            have lq193 : Lq D H192 H193 a0 := Lq.put S192.1 ga0 P193 (by decide) (by decide)
            have tk193 : Lr D s.heap H193 a0 x1.toInt.toNat := tk192.trans (Lr.of lq193)
            refine lv_aload_n hx hb dX12_readLawLine_124 rfl (lv_at hl 1 rfl) ?_
            refine q_lds C ks_X12_227 dX12_readLawLine_125 (fun a194 ha194 => ?_)
            refine callV_Ei C S193 (c_X12_passes_w l D G a0 a194 2 ga0 ha194) kV_X12_120 ga0 (trivial) (by decide +kernel) dX12_readLawLine_127 hl.1 rfl rfl (by decide) cd_X12_passes ⟨Nat.le_of_ble_eq_true rfl, Nat.le_of_ble_eq_true rfl, Nat.le_of_ble_eq_true rfl, Nat.le_of_ble_eq_true rfl, Nat.le_of_ble_eq_true rfl⟩ (fun v195 H195 L195 S195 K195 q195 => ?_)
            have y195_13 : (fI D H195 11 a0 13).toInt = (fI D H193 11 a0 13).toInt := congrArg Int32.toInt (K195.fI ga0 rfl (by decide) (by decide +kernel))
            have y195_16 : (fI D H195 11 a0 16).toInt = (fI D H193 11 a0 16).toInt := congrArg Int32.toInt (K195.fI ga0 rfl (by decide) (by decide +kernel))
            have lq195 : Lq D H193 H195 a0 := Lq.keep S193.1 ga0 K195 (by decide +kernel) (by decide +kernel) (by decide +kernel)
            have tk195 : Lr D s.heap H195 a0 x1.toInt.toNat := tk193.trans (Lr.of lq195)
            rcases q195 with q195 | q195
            · skip
              refine lv_if_eq (tgt := 142) hx hb dX12_readLawLine_130 (by decide) (fun c196 => ?_) (fun c196 => ?_)
              · have b196 : v195.toInt = (0 : Int32).toInt := i_eq.mp c196
                exact absurd b196 (by omega)
              · have b196 : ¬ v195.toInt = (0 : Int32).toInt := fun z9 => c196 (i_eq.mpr z9)
                refine lv_aload_n hx hb dX12_readLawLine_133 rfl (lv_at hl 1 rfl) ?_
                have rs9 : 0 ≤ (fI D H195 11 a0 16).toInt ∧ (fI D H195 11 a0 16).toInt ≤ 400 := S195.1.rng ga0 rfl (by decide) rfl
                have rp9 : 0 ≤ (fI D H195 11 a0 10).toInt ∧ (fI D H195 11 a0 10).toInt ≤ 400 := S195.1.rng ga0 rfl (by decide) rfl
                refine callV_Ei C S195 (c_X12_readCond_d0 l D G a0 ga0) kV_X12_200 ga0 (⟨by omega, by omega⟩) (by decide +kernel) dX12_readLawLine_134 hl.1 rfl rfl (by decide) cd_X12_readCond ⟨Nat.le_of_ble_eq_true rfl, Nat.le_of_ble_eq_true rfl, Nat.le_of_ble_eq_true rfl, Nat.le_of_ble_eq_true rfl, Nat.le_of_ble_eq_true rfl⟩ (fun v197 H197 L197 S197 K197 q197 => ?_)
                obtain ⟨q197, sa197, sx197, tq197⟩ := q197
                have lq197 : Lq D H195 H197 a0 := tq197
                have tk197 : Lr D s.heap H197 a0 x1.toInt.toNat := tk195.trans (Lr.of lq197)
                refine lv_if_ne (tgt := 142) hx hb dX12_readLawLine_137 (by decide) (fun c198 => ?_) (fun c198 => ?_)
                · have b198 : ¬ v197.toInt = (0 : Int32).toInt := fun z9 => c198 (i_eq.mpr z9)
                  have rs9 : 0 ≤ (fI D H197 11 a0 16).toInt ∧ (fI D H197 11 a0 16).toInt ≤ 400 := S197.1.rng ga0 rfl (by decide) rfl
                  have rp9 : 0 ≤ (fI D H197 11 a0 10).toInt ∧ (fI D H197 11 a0 10).toInt ≤ 400 := S197.1.rng ga0 rfl (by decide) rfl
                  refine lv_aload_n hx hb dX12_readLawLine_142 rfl (lv_at hl 1 rfl) ?_
                  refine q_gr (T := TX12) C S197.1 ga0 1 kF_X12_13 dX12_readLawLine_143 rfl rfl (by decide) rfl (by decide) rfl (fun g199 => ?_)
                  refine lv_iload_n hx hb dX12_readLawLine_146 rfl (lv_at hl 0 rfl) ?_
                  refine lv_iconst (v := 3) hx hb dX12_readLawLine_147 (by decide) ?_
                  have k_3 : (3 : Int32).toInt = 3 := by decide
                  refine lv_iadd hx hb dX12_readLawLine_148 ?_
                  refine lv_topi (fun v200 ev200 => ?_)
                  have f201 : v200.toInt = v3.toInt + (3 : Int32).toInt := by rw [ev200]; exact i_add (by omega) (by omega)
                  refine lv_aload_n hx hb dX12_readLawLine_149 rfl (lv_at hl 1 rfl) ?_
                  refine q_gi (T := TX12) C S197.1 ga0 16 kF_X12_182 dX12_readLawLine_150 rfl rfl (by decide) rfl (by decide) rfl ?_
                  have r202 : 0 ≤ (fI D H197 11 a0 16).toInt ∧ (fI D H197 11 a0 16).toInt ≤ 400 := S197.1.rng ga0 rfl (by decide) rfl
                  have n203 : aN H197 (fR D H197 11 a0 1) = 2052 := len_31 S197.1 g199
                  refine q_iast C S197 g199 (by omega) (by omega) dX12_readLawLine_153 rfl (by decide) (by decide +kernel) (fun _ _ h => wk_high _ _ (by omega) h) (fun H204 L204 S204 P204 => ?_)
                  have y204_10 : (fI D H204 11 a0 10).toInt = (fI D H197 11 a0 10).toInt := congrArg Int32.toInt (Pa.f P204 (ne_role ga0 g199 (by decide)))
                  have y204_12 : (fI D H204 11 a0 12).toInt = (fI D H197 11 a0 12).toInt := congrArg Int32.toInt (Pa.f P204 (ne_role ga0 g199 (by decide)))
                  have y204_13 : (fI D H204 11 a0 13).toInt = (fI D H197 11 a0 13).toInt := congrArg Int32.toInt (Pa.f P204 (ne_role ga0 g199 (by decide)))
                  have y204_16 : (fI D H204 11 a0 16).toInt = (fI D H197 11 a0 16).toInt := congrArg Int32.toInt (Pa.f P204 (ne_role ga0 g199 (by decide)))
                  have rs204 : 0 ≤ (fI D H197 11 a0 16).toInt ∧ (fI D H197 11 a0 16).toInt ≤ 400 := S197.1.rng ga0 rfl (by decide) rfl
                  have tk204 : Lr D s.heap H204 a0 x1.toInt.toNat := tk197.trans (Lr.ast S197.1 ga0 P204 rfl ⟨by omega, by omega⟩ (by omega))
                  refine lv_iconst (v := 1) hx hb dX12_readLawLine_154 (by decide) ?_
                  exact retE_z hQ C S204 hr dX12_readLawLine_155 (z01 (by omega) (by omega)) (⟨by omega, fun _ => by omega, fun _ h9 => Dl.line (b := (fI D H181 11 a0 16).toInt.toNat) (e := (fI D H197 11 a0 16).toInt.toNat) h9 tk204 (by omega) rs0.1 (by show (eI H204 (fR D H204 11 a0 1) _).toInt = _; rw [eA S197.1 ga0 P204 (by omega) (by omega), show eI H197 (fR D H197 11 a0 1) (1206 + 4 * x1.toInt.toNat) = _ from ((lq193.trans lq195).trans lq197).2 _ (by omega)]; rw [zb192]; omega) (by show (eI H204 (fR D H204 11 a0 1) _).toInt = _; rw [eS S197.1 ga0 P204 rfl (by omega) (by omega)]; omega) (by omega) (by show _ ≤ (fI D H204 11 a0 16).toInt; omega) (by have e9 : Ex (Cs D H197 a0) (fI D H181 11 a0 16).toInt.toNat (fI D H197 11 a0 16).toInt.toNat := (sx197 (by omega)).at (by omega) (by omega); exact e9.sk (fun k9 h9 => csA S197.1 ga0 P204 rfl (by omega) (by omega)))⟩)
                · have b198 : v197.toInt = (0 : Int32).toInt := i_eq.mp c198
                  refine lv_iconst (v := 0) hx hb dX12_readLawLine_140 (by decide) ?_
                  exact retE_z hQ C S197 hr dX12_readLawLine_141 (z01 (by omega) (by omega)) (⟨by omega, fun h9 => absurd h9 (by decide), fun h9 => absurd h9 (by decide)⟩)
            · skip
              refine lv_if_eq (tgt := 142) hx hb dX12_readLawLine_130 (by decide) (fun c205 => ?_) (fun c205 => ?_)
              · have b205 : v195.toInt = (0 : Int32).toInt := i_eq.mp c205
                have rs9 : 0 ≤ (fI D H195 11 a0 16).toInt ∧ (fI D H195 11 a0 16).toInt ≤ 400 := S195.1.rng ga0 rfl (by decide) rfl
                have rp9 : 0 ≤ (fI D H195 11 a0 10).toInt ∧ (fI D H195 11 a0 10).toInt ≤ 400 := S195.1.rng ga0 rfl (by decide) rfl
                refine lv_aload_n hx hb dX12_readLawLine_142 rfl (lv_at hl 1 rfl) ?_
                refine q_gr (T := TX12) C S195.1 ga0 1 kF_X12_13 dX12_readLawLine_143 rfl rfl (by decide) rfl (by decide) rfl (fun g206 => ?_)
                refine lv_iload_n hx hb dX12_readLawLine_146 rfl (lv_at hl 0 rfl) ?_
                refine lv_iconst (v := 3) hx hb dX12_readLawLine_147 (by decide) ?_
                have k_3 : (3 : Int32).toInt = 3 := by decide
                refine lv_iadd hx hb dX12_readLawLine_148 ?_
                refine lv_topi (fun v207 ev207 => ?_)
                have f208 : v207.toInt = v3.toInt + (3 : Int32).toInt := by rw [ev207]; exact i_add (by omega) (by omega)
                refine lv_aload_n hx hb dX12_readLawLine_149 rfl (lv_at hl 1 rfl) ?_
                refine q_gi (T := TX12) C S195.1 ga0 16 kF_X12_182 dX12_readLawLine_150 rfl rfl (by decide) rfl (by decide) rfl ?_
                have r209 : 0 ≤ (fI D H195 11 a0 16).toInt ∧ (fI D H195 11 a0 16).toInt ≤ 400 := S195.1.rng ga0 rfl (by decide) rfl
                have n210 : aN H195 (fR D H195 11 a0 1) = 2052 := len_31 S195.1 g206
                refine q_iast C S195 g206 (by omega) (by omega) dX12_readLawLine_153 rfl (by decide) (by decide +kernel) (fun _ _ h => wk_high _ _ (by omega) h) (fun H211 L211 S211 P211 => ?_)
                have y211_10 : (fI D H211 11 a0 10).toInt = (fI D H195 11 a0 10).toInt := congrArg Int32.toInt (Pa.f P211 (ne_role ga0 g206 (by decide)))
                have y211_12 : (fI D H211 11 a0 12).toInt = (fI D H195 11 a0 12).toInt := congrArg Int32.toInt (Pa.f P211 (ne_role ga0 g206 (by decide)))
                have y211_13 : (fI D H211 11 a0 13).toInt = (fI D H195 11 a0 13).toInt := congrArg Int32.toInt (Pa.f P211 (ne_role ga0 g206 (by decide)))
                have y211_16 : (fI D H211 11 a0 16).toInt = (fI D H195 11 a0 16).toInt := congrArg Int32.toInt (Pa.f P211 (ne_role ga0 g206 (by decide)))
                have rs211 : 0 ≤ (fI D H195 11 a0 16).toInt ∧ (fI D H195 11 a0 16).toInt ≤ 400 := S195.1.rng ga0 rfl (by decide) rfl
                have tk211 : Lr D s.heap H211 a0 x1.toInt.toNat := tk195.trans (Lr.ast S195.1 ga0 P211 rfl ⟨by omega, by omega⟩ (by omega))
                refine lv_iconst (v := 1) hx hb dX12_readLawLine_154 (by decide) ?_
                exact retE_z hQ C S211 hr dX12_readLawLine_155 (z01 (by omega) (by omega)) (⟨by omega, fun _ => by omega, fun _ h9 => Dl.line (b := (fI D H181 11 a0 16).toInt.toNat) (e := (fI D H195 11 a0 16).toInt.toNat) h9 tk211 (by omega) rs0.1 (by show (eI H211 (fR D H211 11 a0 1) _).toInt = _; rw [eA S195.1 ga0 P211 (by omega) (by omega), show eI H195 (fR D H195 11 a0 1) (1206 + 4 * x1.toInt.toNat) = _ from (lq193.trans lq195).2 _ (by omega)]; rw [zb192]; omega) (by show (eI H211 (fR D H211 11 a0 1) _).toInt = _; rw [eS S195.1 ga0 P211 rfl (by omega) (by omega)]; omega) (by omega) (by show _ ≤ (fI D H211 11 a0 16).toInt; omega) (by rw [show (fI D H195 11 a0 16).toInt.toNat - (fI D H181 11 a0 16).toInt.toNat = 0 by omega]; exact True.intro)⟩)
              · have b205 : ¬ v195.toInt = (0 : Int32).toInt := fun z9 => c205 (i_eq.mpr z9)
                exact absurd b205 (by omega)
          · have b187 : ¬ (0 : Int32).toInt ≤ v186.toInt := fun z9 => c187 (i_le.mpr z9)
            refine lv_iconst (v := 0) hx hb dX12_readLawLine_105 (by decide) ?_
            exact retE_z hQ C S181 hr dX12_readLawLine_106 (z01 (by omega) (by omega)) (⟨by omega, fun h9 => absurd h9 (by decide), fun h9 => absurd h9 (by decide)⟩)
        · have b178 : v177.toInt = (1 : Int32).toInt := i_eq.mp c178
          refine lv_iconst (v := 1) hx hb dX12_readLawLine_82 (by decide) ?_
          refine lv_goto (tgt := 93) hx hb dX12_readLawLine_83 (by decide) ?_
          refine q_iast C S168 g173 (by omega) (by omega) dX12_readLawLine_93 rfl (by decide) (by decide +kernel) (fun _ _ h => wk_high _ _ (by omega) h) (fun H212 L212 S212 P212 => ?_)
          have y212_10 : (fI D H212 11 a0 10).toInt = (fI D H168 11 a0 10).toInt := congrArg Int32.toInt (Pa.f P212 (ne_role ga0 g173 (by decide)))
          have y212_12 : (fI D H212 11 a0 12).toInt = (fI D H168 11 a0 12).toInt := congrArg Int32.toInt (Pa.f P212 (ne_role ga0 g173 (by decide)))
          have y212_13 : (fI D H212 11 a0 13).toInt = (fI D H168 11 a0 13).toInt := congrArg Int32.toInt (Pa.f P212 (ne_role ga0 g173 (by decide)))
          have y212_16 : (fI D H212 11 a0 16).toInt = (fI D H168 11 a0 16).toInt := congrArg Int32.toInt (Pa.f P212 (ne_role ga0 g173 (by decide)))
          have rs212 : 0 ≤ (fI D H168 11 a0 16).toInt ∧ (fI D H168 11 a0 16).toInt ≤ 400 := S168.1.rng ga0 rfl (by decide) rfl
          have tk212 : Lr D s.heap H212 a0 x1.toInt.toNat := tk168.trans (Lr.ast S168.1 ga0 P212 rfl ⟨by omega, by omega⟩ (by omega))
          refine lv_aload_n hx hb dX12_readLawLine_94 rfl (lv_at hl 1 rfl) ?_
          refine q_gr (T := TX12) C S212.1 ga0 1 kF_X12_13 dX12_readLawLine_95 rfl rfl (by decide) rfl (by decide) rfl (fun g213 => ?_)
          refine lv_iload_n hx hb dX12_readLawLine_98 rfl (lv_at hl 0 rfl) ?_
          refine lv_iconst (v := 1) hx hb dX12_readLawLine_99 (by decide) ?_
          refine lv_iadd hx hb dX12_readLawLine_100 ?_
          refine lv_topi (fun v214 ev214 => ?_)
          have f215 : v214.toInt = v3.toInt + (1 : Int32).toInt := by rw [ev214]; exact i_add (by omega) (by omega)
          have n216 : aN H212 (fR D H212 11 a0 1) = 2052 := len_31 S212.1 g213
          refine q_iald C S212.1 g213 (by omega) (by omega) dX12_readLawLine_101 rfl (by decide) ?_
          refine lv_topi (fun v217 ev217 => ?_)
          refine lv_if_ge (tgt := 107) hx hb dX12_readLawLine_102 (by decide) (fun c218 => ?_) (fun c218 => ?_)
          · have b218 : (0 : Int32).toInt ≤ v217.toInt := i_le.mp c218
            refine lv_aload_n hx hb dX12_readLawLine_107 rfl (lv_at hl 1 rfl) ?_
            refine q_gr (T := TX12) C S212.1 ga0 1 kF_X12_13 dX12_readLawLine_108 rfl rfl (by decide) rfl (by decide) rfl (fun g219 => ?_)
            refine lv_iload_n hx hb dX12_readLawLine_111 rfl (lv_at hl 0 rfl) ?_
            refine lv_iconst (v := 2) hx hb dX12_readLawLine_112 (by decide) ?_
            have k_2 : (2 : Int32).toInt = 2 := by decide
            refine lv_iadd hx hb dX12_readLawLine_113 ?_
            refine lv_topi (fun v220 ev220 => ?_)
            have f221 : v220.toInt = v3.toInt + (2 : Int32).toInt := by rw [ev220]; exact i_add (by omega) (by omega)
            refine lv_aload_n hx hb dX12_readLawLine_114 rfl (lv_at hl 1 rfl) ?_
            refine q_gi (T := TX12) C S212.1 ga0 16 kF_X12_182 dX12_readLawLine_115 rfl rfl (by decide) rfl (by decide) rfl ?_
            have r222 : 0 ≤ (fI D H212 11 a0 16).toInt ∧ (fI D H212 11 a0 16).toInt ≤ 400 := S212.1.rng ga0 rfl (by decide) rfl
            refine q_iast C S212 g219 (by omega) (by omega) dX12_readLawLine_118 rfl (by decide) (by decide +kernel) (fun _ _ h => wk_high _ _ (by omega) h) (fun H223 L223 S223 P223 => ?_)
            have y223_10 : (fI D H223 11 a0 10).toInt = (fI D H212 11 a0 10).toInt := congrArg Int32.toInt (Pa.f P223 (ne_role ga0 g219 (by decide)))
            have y223_12 : (fI D H223 11 a0 12).toInt = (fI D H212 11 a0 12).toInt := congrArg Int32.toInt (Pa.f P223 (ne_role ga0 g219 (by decide)))
            have y223_13 : (fI D H223 11 a0 13).toInt = (fI D H212 11 a0 13).toInt := congrArg Int32.toInt (Pa.f P223 (ne_role ga0 g219 (by decide)))
            have y223_16 : (fI D H223 11 a0 16).toInt = (fI D H212 11 a0 16).toInt := congrArg Int32.toInt (Pa.f P223 (ne_role ga0 g219 (by decide)))
            have rs223 : 0 ≤ (fI D H212 11 a0 16).toInt ∧ (fI D H212 11 a0 16).toInt ≤ 400 := S212.1.rng ga0 rfl (by decide) rfl
            have tk223 : Lr D s.heap H223 a0 x1.toInt.toNat := tk212.trans (Lr.ast S212.1 ga0 P223 rfl ⟨by omega, by omega⟩ (by omega))
            have zb223 : (eI H223 (fR D H223 11 a0 1) (1206 + 4 * x1.toInt.toNat)).toInt = (fI D H212 11 a0 16).toInt := congrArg Int32.toInt (eS S212.1 ga0 P223 rfl (by omega) (by omega))
            refine lv_aload_n hx hb dX12_readLawLine_119 rfl (lv_at hl 1 rfl) ?_
            refine lv_iconst (v := 0) hx hb dX12_readLawLine_120 (by decide) ?_
            refine q_put (T := TX12) C S223 ga0 13 kF_X12_197 dX12_readLawLine_121 rfl rfl (by decide) (by decide) rfl rfl rfl rfl rfl (vok_i rfl (by omega) (by omega)) (by decide +kernel) (fun H224 L224 S224 P224 => ?_)
            have y224_10 : (fI D H224 11 a0 10).toInt = (fI D H223 11 a0 10).toInt := congrArg Int32.toInt (Pt.o P224 (by decide) (by decide))
            have y224_12 : (fI D H224 11 a0 12).toInt = (fI D H223 11 a0 12).toInt := congrArg Int32.toInt (Pt.o P224 (by decide) (by decide))
            have y224_13 : (fI D H224 11 a0 13).toInt = (0 : Int32).toInt := congrArg Int32.toInt (Pt.i P224)
            have y224_16 : (fI D H224 11 a0 16).toInt = (fI D H223 11 a0 16).toInt := congrArg Int32.toInt (Pt.o P224 (by decide) (by decide))
            have lq224 : Lq D H223 H224 a0 := Lq.put S223.1 ga0 P224 (by decide) (by decide)
            have tk224 : Lr D s.heap H224 a0 x1.toInt.toNat := tk223.trans (Lr.of lq224)
            refine lv_aload_n hx hb dX12_readLawLine_124 rfl (lv_at hl 1 rfl) ?_
            refine q_lds C ks_X12_227 dX12_readLawLine_125 (fun a225 ha225 => ?_)
            refine callV_Ei C S224 (c_X12_passes_w l D G a0 a225 2 ga0 ha225) kV_X12_120 ga0 (trivial) (by decide +kernel) dX12_readLawLine_127 hl.1 rfl rfl (by decide) cd_X12_passes ⟨Nat.le_of_ble_eq_true rfl, Nat.le_of_ble_eq_true rfl, Nat.le_of_ble_eq_true rfl, Nat.le_of_ble_eq_true rfl, Nat.le_of_ble_eq_true rfl⟩ (fun v226 H226 L226 S226 K226 q226 => ?_)
            have y226_13 : (fI D H226 11 a0 13).toInt = (fI D H224 11 a0 13).toInt := congrArg Int32.toInt (K226.fI ga0 rfl (by decide) (by decide +kernel))
            have y226_16 : (fI D H226 11 a0 16).toInt = (fI D H224 11 a0 16).toInt := congrArg Int32.toInt (K226.fI ga0 rfl (by decide) (by decide +kernel))
            have lq226 : Lq D H224 H226 a0 := Lq.keep S224.1 ga0 K226 (by decide +kernel) (by decide +kernel) (by decide +kernel)
            have tk226 : Lr D s.heap H226 a0 x1.toInt.toNat := tk224.trans (Lr.of lq226)
            rcases q226 with q226 | q226
            · skip
              refine lv_if_eq (tgt := 142) hx hb dX12_readLawLine_130 (by decide) (fun c227 => ?_) (fun c227 => ?_)
              · have b227 : v226.toInt = (0 : Int32).toInt := i_eq.mp c227
                exact absurd b227 (by omega)
              · have b227 : ¬ v226.toInt = (0 : Int32).toInt := fun z9 => c227 (i_eq.mpr z9)
                refine lv_aload_n hx hb dX12_readLawLine_133 rfl (lv_at hl 1 rfl) ?_
                have rs9 : 0 ≤ (fI D H226 11 a0 16).toInt ∧ (fI D H226 11 a0 16).toInt ≤ 400 := S226.1.rng ga0 rfl (by decide) rfl
                have rp9 : 0 ≤ (fI D H226 11 a0 10).toInt ∧ (fI D H226 11 a0 10).toInt ≤ 400 := S226.1.rng ga0 rfl (by decide) rfl
                refine callV_Ei C S226 (c_X12_readCond_d0 l D G a0 ga0) kV_X12_200 ga0 (⟨by omega, by omega⟩) (by decide +kernel) dX12_readLawLine_134 hl.1 rfl rfl (by decide) cd_X12_readCond ⟨Nat.le_of_ble_eq_true rfl, Nat.le_of_ble_eq_true rfl, Nat.le_of_ble_eq_true rfl, Nat.le_of_ble_eq_true rfl, Nat.le_of_ble_eq_true rfl⟩ (fun v228 H228 L228 S228 K228 q228 => ?_)
                obtain ⟨q228, sa228, sx228, tq228⟩ := q228
                have lq228 : Lq D H226 H228 a0 := tq228
                have tk228 : Lr D s.heap H228 a0 x1.toInt.toNat := tk226.trans (Lr.of lq228)
                refine lv_if_ne (tgt := 142) hx hb dX12_readLawLine_137 (by decide) (fun c229 => ?_) (fun c229 => ?_)
                · have b229 : ¬ v228.toInt = (0 : Int32).toInt := fun z9 => c229 (i_eq.mpr z9)
                  have rs9 : 0 ≤ (fI D H228 11 a0 16).toInt ∧ (fI D H228 11 a0 16).toInt ≤ 400 := S228.1.rng ga0 rfl (by decide) rfl
                  have rp9 : 0 ≤ (fI D H228 11 a0 10).toInt ∧ (fI D H228 11 a0 10).toInt ≤ 400 := S228.1.rng ga0 rfl (by decide) rfl
                  refine lv_aload_n hx hb dX12_readLawLine_142 rfl (lv_at hl 1 rfl) ?_
                  refine q_gr (T := TX12) C S228.1 ga0 1 kF_X12_13 dX12_readLawLine_143 rfl rfl (by decide) rfl (by decide) rfl (fun g230 => ?_)
                  refine lv_iload_n hx hb dX12_readLawLine_146 rfl (lv_at hl 0 rfl) ?_
                  refine lv_iconst (v := 3) hx hb dX12_readLawLine_147 (by decide) ?_
                  have k_3 : (3 : Int32).toInt = 3 := by decide
                  refine lv_iadd hx hb dX12_readLawLine_148 ?_
                  refine lv_topi (fun v231 ev231 => ?_)
                  have f232 : v231.toInt = v3.toInt + (3 : Int32).toInt := by rw [ev231]; exact i_add (by omega) (by omega)
                  refine lv_aload_n hx hb dX12_readLawLine_149 rfl (lv_at hl 1 rfl) ?_
                  refine q_gi (T := TX12) C S228.1 ga0 16 kF_X12_182 dX12_readLawLine_150 rfl rfl (by decide) rfl (by decide) rfl ?_
                  have r233 : 0 ≤ (fI D H228 11 a0 16).toInt ∧ (fI D H228 11 a0 16).toInt ≤ 400 := S228.1.rng ga0 rfl (by decide) rfl
                  have n234 : aN H228 (fR D H228 11 a0 1) = 2052 := len_31 S228.1 g230
                  refine q_iast C S228 g230 (by omega) (by omega) dX12_readLawLine_153 rfl (by decide) (by decide +kernel) (fun _ _ h => wk_high _ _ (by omega) h) (fun H235 L235 S235 P235 => ?_)
                  have y235_10 : (fI D H235 11 a0 10).toInt = (fI D H228 11 a0 10).toInt := congrArg Int32.toInt (Pa.f P235 (ne_role ga0 g230 (by decide)))
                  have y235_12 : (fI D H235 11 a0 12).toInt = (fI D H228 11 a0 12).toInt := congrArg Int32.toInt (Pa.f P235 (ne_role ga0 g230 (by decide)))
                  have y235_13 : (fI D H235 11 a0 13).toInt = (fI D H228 11 a0 13).toInt := congrArg Int32.toInt (Pa.f P235 (ne_role ga0 g230 (by decide)))
                  have y235_16 : (fI D H235 11 a0 16).toInt = (fI D H228 11 a0 16).toInt := congrArg Int32.toInt (Pa.f P235 (ne_role ga0 g230 (by decide)))
                  have rs235 : 0 ≤ (fI D H228 11 a0 16).toInt ∧ (fI D H228 11 a0 16).toInt ≤ 400 := S228.1.rng ga0 rfl (by decide) rfl
                  have tk235 : Lr D s.heap H235 a0 x1.toInt.toNat := tk228.trans (Lr.ast S228.1 ga0 P235 rfl ⟨by omega, by omega⟩ (by omega))
                  refine lv_iconst (v := 1) hx hb dX12_readLawLine_154 (by decide) ?_
                  exact retE_z hQ C S235 hr dX12_readLawLine_155 (z01 (by omega) (by omega)) (⟨by omega, fun _ => by omega, fun _ h9 => Dl.line (b := (fI D H212 11 a0 16).toInt.toNat) (e := (fI D H228 11 a0 16).toInt.toNat) h9 tk235 (by omega) rs0.1 (by show (eI H235 (fR D H235 11 a0 1) _).toInt = _; rw [eA S228.1 ga0 P235 (by omega) (by omega), show eI H228 (fR D H228 11 a0 1) (1206 + 4 * x1.toInt.toNat) = _ from ((lq224.trans lq226).trans lq228).2 _ (by omega)]; rw [zb223]; omega) (by show (eI H235 (fR D H235 11 a0 1) _).toInt = _; rw [eS S228.1 ga0 P235 rfl (by omega) (by omega)]; omega) (by omega) (by show _ ≤ (fI D H235 11 a0 16).toInt; omega) (by have e9 : Ex (Cs D H228 a0) (fI D H212 11 a0 16).toInt.toNat (fI D H228 11 a0 16).toInt.toNat := (sx228 (by omega)).at (by omega) (by omega); exact e9.sk (fun k9 h9 => csA S228.1 ga0 P235 rfl (by omega) (by omega)))⟩)
                · have b229 : v228.toInt = (0 : Int32).toInt := i_eq.mp c229
                  refine lv_iconst (v := 0) hx hb dX12_readLawLine_140 (by decide) ?_
                  exact retE_z hQ C S228 hr dX12_readLawLine_141 (z01 (by omega) (by omega)) (⟨by omega, fun h9 => absurd h9 (by decide), fun h9 => absurd h9 (by decide)⟩)
            · skip
              refine lv_if_eq (tgt := 142) hx hb dX12_readLawLine_130 (by decide) (fun c236 => ?_) (fun c236 => ?_)
              · have b236 : v226.toInt = (0 : Int32).toInt := i_eq.mp c236
                have rs9 : 0 ≤ (fI D H226 11 a0 16).toInt ∧ (fI D H226 11 a0 16).toInt ≤ 400 := S226.1.rng ga0 rfl (by decide) rfl
                have rp9 : 0 ≤ (fI D H226 11 a0 10).toInt ∧ (fI D H226 11 a0 10).toInt ≤ 400 := S226.1.rng ga0 rfl (by decide) rfl
                refine lv_aload_n hx hb dX12_readLawLine_142 rfl (lv_at hl 1 rfl) ?_
                refine q_gr (T := TX12) C S226.1 ga0 1 kF_X12_13 dX12_readLawLine_143 rfl rfl (by decide) rfl (by decide) rfl (fun g237 => ?_)
                refine lv_iload_n hx hb dX12_readLawLine_146 rfl (lv_at hl 0 rfl) ?_
                refine lv_iconst (v := 3) hx hb dX12_readLawLine_147 (by decide) ?_
                have k_3 : (3 : Int32).toInt = 3 := by decide
                refine lv_iadd hx hb dX12_readLawLine_148 ?_
                refine lv_topi (fun v238 ev238 => ?_)
                have f239 : v238.toInt = v3.toInt + (3 : Int32).toInt := by rw [ev238]; exact i_add (by omega) (by omega)
                refine lv_aload_n hx hb dX12_readLawLine_149 rfl (lv_at hl 1 rfl) ?_
                refine q_gi (T := TX12) C S226.1 ga0 16 kF_X12_182 dX12_readLawLine_150 rfl rfl (by decide) rfl (by decide) rfl ?_
                have r240 : 0 ≤ (fI D H226 11 a0 16).toInt ∧ (fI D H226 11 a0 16).toInt ≤ 400 := S226.1.rng ga0 rfl (by decide) rfl
                have n241 : aN H226 (fR D H226 11 a0 1) = 2052 := len_31 S226.1 g237
                refine q_iast C S226 g237 (by omega) (by omega) dX12_readLawLine_153 rfl (by decide) (by decide +kernel) (fun _ _ h => wk_high _ _ (by omega) h) (fun H242 L242 S242 P242 => ?_)
                have y242_10 : (fI D H242 11 a0 10).toInt = (fI D H226 11 a0 10).toInt := congrArg Int32.toInt (Pa.f P242 (ne_role ga0 g237 (by decide)))
                have y242_12 : (fI D H242 11 a0 12).toInt = (fI D H226 11 a0 12).toInt := congrArg Int32.toInt (Pa.f P242 (ne_role ga0 g237 (by decide)))
                have y242_13 : (fI D H242 11 a0 13).toInt = (fI D H226 11 a0 13).toInt := congrArg Int32.toInt (Pa.f P242 (ne_role ga0 g237 (by decide)))
                have y242_16 : (fI D H242 11 a0 16).toInt = (fI D H226 11 a0 16).toInt := congrArg Int32.toInt (Pa.f P242 (ne_role ga0 g237 (by decide)))
                have rs242 : 0 ≤ (fI D H226 11 a0 16).toInt ∧ (fI D H226 11 a0 16).toInt ≤ 400 := S226.1.rng ga0 rfl (by decide) rfl
                have tk242 : Lr D s.heap H242 a0 x1.toInt.toNat := tk226.trans (Lr.ast S226.1 ga0 P242 rfl ⟨by omega, by omega⟩ (by omega))
                refine lv_iconst (v := 1) hx hb dX12_readLawLine_154 (by decide) ?_
                exact retE_z hQ C S242 hr dX12_readLawLine_155 (z01 (by omega) (by omega)) (⟨by omega, fun _ => by omega, fun _ h9 => Dl.line (b := (fI D H212 11 a0 16).toInt.toNat) (e := (fI D H226 11 a0 16).toInt.toNat) h9 tk242 (by omega) rs0.1 (by show (eI H242 (fR D H242 11 a0 1) _).toInt = _; rw [eA S226.1 ga0 P242 (by omega) (by omega), show eI H226 (fR D H226 11 a0 1) (1206 + 4 * x1.toInt.toNat) = _ from (lq224.trans lq226).2 _ (by omega)]; rw [zb223]; omega) (by show (eI H242 (fR D H242 11 a0 1) _).toInt = _; rw [eS S226.1 ga0 P242 rfl (by omega) (by omega)]; omega) (by omega) (by show _ ≤ (fI D H242 11 a0 16).toInt; omega) (by rw [show (fI D H226 11 a0 16).toInt.toNat - (fI D H212 11 a0 16).toInt.toNat = 0 by omega]; exact True.intro)⟩)
              · have b236 : ¬ v226.toInt = (0 : Int32).toInt := fun z9 => c236 (i_eq.mpr z9)
                exact absurd b236 (by omega)
          · have b218 : ¬ (0 : Int32).toInt ≤ v217.toInt := fun z9 => c218 (i_le.mpr z9)
            refine lv_iconst (v := 0) hx hb dX12_readLawLine_105 (by decide) ?_
            exact retE_z hQ C S212 hr dX12_readLawLine_106 (z01 (by omega) (by omega)) (⟨by omega, fun h9 => absurd h9 (by decide), fun h9 => absurd h9 (by decide)⟩)
      · have b172 : ¬ (0 : Int32).toInt ≤ v171.toInt := fun z9 => c172 (i_le.mpr z9)
        refine lv_iconst (v := 0) hx hb dX12_readLawLine_63 (by decide) ?_
        exact retE_z hQ C S168 hr dX12_readLawLine_64 (z01 (by omega) (by omega)) (⟨by omega, fun h9 => absurd h9 (by decide), fun h9 => absurd h9 (by decide)⟩)
  · have b8 : ¬ v7.toInt = (0 : Int32).toInt := fun z9 => c8 (i_eq.mpr z9)
    refine lv_iconst (v := 0) hx hb dX12_readLawLine_22 (by decide) ?_
    refine lv_goto (tgt := 53) hx hb dX12_readLawLine_23 (by decide) ?_
    have n243 : aN s.heap (fR D s.heap 11 a0 1) = 2052 := len_31 S.1 g5
    refine q_iast C S g5 (by omega) (by omega) dX12_readLawLine_53 rfl (by decide) (by decide +kernel) (fun _ _ h => wk_high _ _ (by omega) h) (fun H244 L244 S244 P244 => ?_)
    have y244_10 : (fI D H244 11 a0 10).toInt = (fI D s.heap 11 a0 10).toInt := congrArg Int32.toInt (Pa.f P244 (ne_role ga0 g5 (by decide)))
    have y244_12 : (fI D H244 11 a0 12).toInt = (fI D s.heap 11 a0 12).toInt := congrArg Int32.toInt (Pa.f P244 (ne_role ga0 g5 (by decide)))
    have y244_13 : (fI D H244 11 a0 13).toInt = (fI D s.heap 11 a0 13).toInt := congrArg Int32.toInt (Pa.f P244 (ne_role ga0 g5 (by decide)))
    have y244_16 : (fI D H244 11 a0 16).toInt = (fI D s.heap 11 a0 16).toInt := congrArg Int32.toInt (Pa.f P244 (ne_role ga0 g5 (by decide)))
    have rs244 : 0 ≤ (fI D s.heap 11 a0 16).toInt ∧ (fI D s.heap 11 a0 16).toInt ≤ 400 := S.1.rng ga0 rfl (by decide) rfl
    have tk244 : Lr D s.heap H244 a0 x1.toInt.toNat := tk0.trans (Lr.ast S.1 ga0 P244 rfl ⟨by omega, by omega⟩ (by omega))
    have ew : eI H244 (fR D H244 11 a0 1) v3.toInt.toNat = _ := eS S.1 ga0 P244 rfl rfl (by omega)
    refine lv_aload_n hx hb dX12_readLawLine_54 rfl (lv_at hl 1 rfl) ?_
    refine q_gr (T := TX12) C S244.1 ga0 1 kF_X12_13 dX12_readLawLine_55 rfl rfl (by decide) rfl (by decide) rfl (fun g245 => ?_)
    refine lv_iload_n hx hb dX12_readLawLine_58 rfl (lv_at hl 0 rfl) ?_
    have n246 : aN H244 (fR D H244 11 a0 1) = 2052 := len_31 S244.1 g245
    refine q_iald C S244.1 g245 (by omega) (by omega) dX12_readLawLine_59 rfl (by decide) ?_
    refine lv_topi (fun v247 ev247 => ?_)
    have ev59 := ev247
    have ez : v247.toInt = _ := congrArg Int32.toInt (ev59.trans ew)
    have kzm1 : ((-1) : Int32).toInt = -1 := by decide
    have kz0 : ((0) : Int32).toInt = 0 := by decide
    have kz1 : ((1) : Int32).toInt = 1 := by decide
    have kz2 : ((2) : Int32).toInt = 2 := by decide
    refine lv_if_ge (tgt := 65) hx hb dX12_readLawLine_60 (by decide) (fun c248 => ?_) (fun c248 => ?_)
    · have b248 : (0 : Int32).toInt ≤ v247.toInt := i_le.mp c248
      refine lv_aload_n hx hb dX12_readLawLine_65 rfl (lv_at hl 1 rfl) ?_
      refine q_gr (T := TX12) C S244.1 ga0 1 kF_X12_13 dX12_readLawLine_66 rfl rfl (by decide) rfl (by decide) rfl (fun g249 => ?_)
      refine lv_iload_n hx hb dX12_readLawLine_69 rfl (lv_at hl 0 rfl) ?_
      refine lv_iconst (v := 1) hx hb dX12_readLawLine_70 (by decide) ?_
      have k_1 : (1 : Int32).toInt = 1 := by decide
      refine lv_iadd hx hb dX12_readLawLine_71 ?_
      refine lv_topi (fun v250 ev250 => ?_)
      have f251 : v250.toInt = v3.toInt + (1 : Int32).toInt := by rw [ev250]; exact i_add (by omega) (by omega)
      refine lv_aload_n hx hb dX12_readLawLine_72 rfl (lv_at hl 1 rfl) ?_
      refine q_gr (T := TX12) C S244.1 ga0 1 kF_X12_13 dX12_readLawLine_73 rfl rfl (by decide) rfl (by decide) rfl (fun g252 => ?_)
      refine lv_iload_n hx hb dX12_readLawLine_76 rfl (lv_at hl 0 rfl) ?_
      refine q_iald C S244.1 g252 (by omega) (by omega) dX12_readLawLine_77 rfl (by decide) ?_
      refine lv_topi (fun v253 ev253 => ?_)
      refine lv_iconst (v := 1) hx hb dX12_readLawLine_78 (by decide) ?_
      refine lv_icmp_ne (tgt := 86) hx hb dX12_readLawLine_79 (by decide) (fun c254 => ?_) (fun c254 => ?_)
      · have b254 : ¬ v253.toInt = (1 : Int32).toInt := fun z9 => c254 (i_eq.mpr z9)
        refine lv_aload_n hx hb dX12_readLawLine_86 rfl (lv_at hl 1 rfl) ?_
        refine lv_iconst (v := 0) hx hb dX12_readLawLine_87 (by decide) ?_
        refine lv_bipush (v := 99) hx hb dX12_readLawLine_88 (by decide) ?_
        have k_99 : (99 : Int32).toInt = 99 := by decide
        refine callV_Ei C S244 (c_X12_number_w l D G a0 (0 : Int32) (99 : Int32) ga0) kV_X12_109 ga0 (trivial) (by decide +kernel) dX12_readLawLine_90 hl.1 rfl rfl (by decide) cd_X12_number ⟨Nat.le_of_ble_eq_true rfl, Nat.le_of_ble_eq_true rfl, Nat.le_of_ble_eq_true rfl, Nat.le_of_ble_eq_true rfl, Nat.le_of_ble_eq_true rfl⟩ (fun v255 H255 L255 S255 K255 q255 => ?_)
        have y255_13 : (fI D H255 11 a0 13).toInt = (fI D H244 11 a0 13).toInt := congrArg Int32.toInt (K255.fI ga0 rfl (by decide) (by decide +kernel))
        have y255_16 : (fI D H255 11 a0 16).toInt = (fI D H244 11 a0 16).toInt := congrArg Int32.toInt (K255.fI ga0 rfl (by decide) (by decide +kernel))
        have lq255 : Lq D H244 H255 a0 := Lq.keep S244.1 ga0 K255 (by decide +kernel) (by decide +kernel) (by decide +kernel)
        have tk255 : Lr D s.heap H255 a0 x1.toInt.toNat := tk244.trans (Lr.of lq255)
        have n256 : aN H255 (fR D H244 11 a0 1) = 2052 := len_31 S255.1 g249
        refine q_iast C S255 g249 (by omega) (by omega) dX12_readLawLine_93 rfl (by decide) (by decide +kernel) (fun _ _ h => wk_high _ _ (by omega) h) (fun H257 L257 S257 P257 => ?_)
        have y257_10 : (fI D H257 11 a0 10).toInt = (fI D H255 11 a0 10).toInt := congrArg Int32.toInt (Pa.f P257 (ne_role ga0 g249 (by decide)))
        have y257_12 : (fI D H257 11 a0 12).toInt = (fI D H255 11 a0 12).toInt := congrArg Int32.toInt (Pa.f P257 (ne_role ga0 g249 (by decide)))
        have y257_13 : (fI D H257 11 a0 13).toInt = (fI D H255 11 a0 13).toInt := congrArg Int32.toInt (Pa.f P257 (ne_role ga0 g249 (by decide)))
        have y257_16 : (fI D H257 11 a0 16).toInt = (fI D H255 11 a0 16).toInt := congrArg Int32.toInt (Pa.f P257 (ne_role ga0 g249 (by decide)))
        have rs257 : 0 ≤ (fI D H255 11 a0 16).toInt ∧ (fI D H255 11 a0 16).toInt ≤ 400 := S255.1.rng ga0 rfl (by decide) rfl
        have tk257 : Lr D s.heap H257 a0 x1.toInt.toNat := tk255.trans (Lr.ast S255.1 ga0 P257 ((S244.2.1.fR ga0 rfl (by decide) (by decide +kernel)).trans (S255.2.1.fR ga0 rfl (by decide) (by decide +kernel)).symm) ⟨by omega, by omega⟩ (by omega))
        refine lv_aload_n hx hb dX12_readLawLine_94 rfl (lv_at hl 1 rfl) ?_
        refine q_gr (T := TX12) C S257.1 ga0 1 kF_X12_13 dX12_readLawLine_95 rfl rfl (by decide) rfl (by decide) rfl (fun g258 => ?_)
        refine lv_iload_n hx hb dX12_readLawLine_98 rfl (lv_at hl 0 rfl) ?_
        refine lv_iconst (v := 1) hx hb dX12_readLawLine_99 (by decide) ?_
        refine lv_iadd hx hb dX12_readLawLine_100 ?_
        refine lv_topi (fun v259 ev259 => ?_)
        have f260 : v259.toInt = v3.toInt + (1 : Int32).toInt := by rw [ev259]; exact i_add (by omega) (by omega)
        have n261 : aN H257 (fR D H257 11 a0 1) = 2052 := len_31 S257.1 g258
        refine q_iald C S257.1 g258 (by omega) (by omega) dX12_readLawLine_101 rfl (by decide) ?_
        refine lv_topi (fun v262 ev262 => ?_)
        refine lv_if_ge (tgt := 107) hx hb dX12_readLawLine_102 (by decide) (fun c263 => ?_) (fun c263 => ?_)
        · have b263 : (0 : Int32).toInt ≤ v262.toInt := i_le.mp c263
          refine lv_aload_n hx hb dX12_readLawLine_107 rfl (lv_at hl 1 rfl) ?_
          refine q_gr (T := TX12) C S257.1 ga0 1 kF_X12_13 dX12_readLawLine_108 rfl rfl (by decide) rfl (by decide) rfl (fun g264 => ?_)
          refine lv_iload_n hx hb dX12_readLawLine_111 rfl (lv_at hl 0 rfl) ?_
          refine lv_iconst (v := 2) hx hb dX12_readLawLine_112 (by decide) ?_
          have k_2 : (2 : Int32).toInt = 2 := by decide
          refine lv_iadd hx hb dX12_readLawLine_113 ?_
          refine lv_topi (fun v265 ev265 => ?_)
          have f266 : v265.toInt = v3.toInt + (2 : Int32).toInt := by rw [ev265]; exact i_add (by omega) (by omega)
          refine lv_aload_n hx hb dX12_readLawLine_114 rfl (lv_at hl 1 rfl) ?_
          refine q_gi (T := TX12) C S257.1 ga0 16 kF_X12_182 dX12_readLawLine_115 rfl rfl (by decide) rfl (by decide) rfl ?_
          have r267 : 0 ≤ (fI D H257 11 a0 16).toInt ∧ (fI D H257 11 a0 16).toInt ≤ 400 := S257.1.rng ga0 rfl (by decide) rfl
          refine q_iast C S257 g264 (by omega) (by omega) dX12_readLawLine_118 rfl (by decide) (by decide +kernel) (fun _ _ h => wk_high _ _ (by omega) h) (fun H268 L268 S268 P268 => ?_)
          have y268_10 : (fI D H268 11 a0 10).toInt = (fI D H257 11 a0 10).toInt := congrArg Int32.toInt (Pa.f P268 (ne_role ga0 g264 (by decide)))
          have y268_12 : (fI D H268 11 a0 12).toInt = (fI D H257 11 a0 12).toInt := congrArg Int32.toInt (Pa.f P268 (ne_role ga0 g264 (by decide)))
          have y268_13 : (fI D H268 11 a0 13).toInt = (fI D H257 11 a0 13).toInt := congrArg Int32.toInt (Pa.f P268 (ne_role ga0 g264 (by decide)))
          have y268_16 : (fI D H268 11 a0 16).toInt = (fI D H257 11 a0 16).toInt := congrArg Int32.toInt (Pa.f P268 (ne_role ga0 g264 (by decide)))
          have rs268 : 0 ≤ (fI D H257 11 a0 16).toInt ∧ (fI D H257 11 a0 16).toInt ≤ 400 := S257.1.rng ga0 rfl (by decide) rfl
          have tk268 : Lr D s.heap H268 a0 x1.toInt.toNat := tk257.trans (Lr.ast S257.1 ga0 P268 rfl ⟨by omega, by omega⟩ (by omega))
          have zb268 : (eI H268 (fR D H268 11 a0 1) (1206 + 4 * x1.toInt.toNat)).toInt = (fI D H257 11 a0 16).toInt := congrArg Int32.toInt (eS S257.1 ga0 P268 rfl (by omega) (by omega))
          refine lv_aload_n hx hb dX12_readLawLine_119 rfl (lv_at hl 1 rfl) ?_
          refine lv_iconst (v := 0) hx hb dX12_readLawLine_120 (by decide) ?_
          refine q_put (T := TX12) C S268 ga0 13 kF_X12_197 dX12_readLawLine_121 rfl rfl (by decide) (by decide) rfl rfl rfl rfl rfl (vok_i rfl (by omega) (by omega)) (by decide +kernel) (fun H269 L269 S269 P269 => ?_)
          have y269_10 : (fI D H269 11 a0 10).toInt = (fI D H268 11 a0 10).toInt := congrArg Int32.toInt (Pt.o P269 (by decide) (by decide))
          have y269_12 : (fI D H269 11 a0 12).toInt = (fI D H268 11 a0 12).toInt := congrArg Int32.toInt (Pt.o P269 (by decide) (by decide))
          have y269_13 : (fI D H269 11 a0 13).toInt = (0 : Int32).toInt := congrArg Int32.toInt (Pt.i P269)
          have y269_16 : (fI D H269 11 a0 16).toInt = (fI D H268 11 a0 16).toInt := congrArg Int32.toInt (Pt.o P269 (by decide) (by decide))
          have lq269 : Lq D H268 H269 a0 := Lq.put S268.1 ga0 P269 (by decide) (by decide)
          have tk269 : Lr D s.heap H269 a0 x1.toInt.toNat := tk268.trans (Lr.of lq269)
          refine lv_aload_n hx hb dX12_readLawLine_124 rfl (lv_at hl 1 rfl) ?_
          refine q_lds C ks_X12_227 dX12_readLawLine_125 (fun a270 ha270 => ?_)
          refine callV_Ei C S269 (c_X12_passes_w l D G a0 a270 2 ga0 ha270) kV_X12_120 ga0 (trivial) (by decide +kernel) dX12_readLawLine_127 hl.1 rfl rfl (by decide) cd_X12_passes ⟨Nat.le_of_ble_eq_true rfl, Nat.le_of_ble_eq_true rfl, Nat.le_of_ble_eq_true rfl, Nat.le_of_ble_eq_true rfl, Nat.le_of_ble_eq_true rfl⟩ (fun v271 H271 L271 S271 K271 q271 => ?_)
          have y271_13 : (fI D H271 11 a0 13).toInt = (fI D H269 11 a0 13).toInt := congrArg Int32.toInt (K271.fI ga0 rfl (by decide) (by decide +kernel))
          have y271_16 : (fI D H271 11 a0 16).toInt = (fI D H269 11 a0 16).toInt := congrArg Int32.toInt (K271.fI ga0 rfl (by decide) (by decide +kernel))
          have lq271 : Lq D H269 H271 a0 := Lq.keep S269.1 ga0 K271 (by decide +kernel) (by decide +kernel) (by decide +kernel)
          have tk271 : Lr D s.heap H271 a0 x1.toInt.toNat := tk269.trans (Lr.of lq271)
          rcases q271 with q271 | q271
          · skip
            refine lv_if_eq (tgt := 142) hx hb dX12_readLawLine_130 (by decide) (fun c272 => ?_) (fun c272 => ?_)
            · have b272 : v271.toInt = (0 : Int32).toInt := i_eq.mp c272
              exact absurd b272 (by omega)
            · have b272 : ¬ v271.toInt = (0 : Int32).toInt := fun z9 => c272 (i_eq.mpr z9)
              refine lv_aload_n hx hb dX12_readLawLine_133 rfl (lv_at hl 1 rfl) ?_
              have rs9 : 0 ≤ (fI D H271 11 a0 16).toInt ∧ (fI D H271 11 a0 16).toInt ≤ 400 := S271.1.rng ga0 rfl (by decide) rfl
              have rp9 : 0 ≤ (fI D H271 11 a0 10).toInt ∧ (fI D H271 11 a0 10).toInt ≤ 400 := S271.1.rng ga0 rfl (by decide) rfl
              refine callV_Ei C S271 (c_X12_readCond_d0 l D G a0 ga0) kV_X12_200 ga0 (⟨by omega, by omega⟩) (by decide +kernel) dX12_readLawLine_134 hl.1 rfl rfl (by decide) cd_X12_readCond ⟨Nat.le_of_ble_eq_true rfl, Nat.le_of_ble_eq_true rfl, Nat.le_of_ble_eq_true rfl, Nat.le_of_ble_eq_true rfl, Nat.le_of_ble_eq_true rfl⟩ (fun v273 H273 L273 S273 K273 q273 => ?_)
              obtain ⟨q273, sa273, sx273, tq273⟩ := q273
              have lq273 : Lq D H271 H273 a0 := tq273
              have tk273 : Lr D s.heap H273 a0 x1.toInt.toNat := tk271.trans (Lr.of lq273)
              refine lv_if_ne (tgt := 142) hx hb dX12_readLawLine_137 (by decide) (fun c274 => ?_) (fun c274 => ?_)
              · have b274 : ¬ v273.toInt = (0 : Int32).toInt := fun z9 => c274 (i_eq.mpr z9)
                have rs9 : 0 ≤ (fI D H273 11 a0 16).toInt ∧ (fI D H273 11 a0 16).toInt ≤ 400 := S273.1.rng ga0 rfl (by decide) rfl
                have rp9 : 0 ≤ (fI D H273 11 a0 10).toInt ∧ (fI D H273 11 a0 10).toInt ≤ 400 := S273.1.rng ga0 rfl (by decide) rfl
                refine lv_aload_n hx hb dX12_readLawLine_142 rfl (lv_at hl 1 rfl) ?_
                refine q_gr (T := TX12) C S273.1 ga0 1 kF_X12_13 dX12_readLawLine_143 rfl rfl (by decide) rfl (by decide) rfl (fun g275 => ?_)
                refine lv_iload_n hx hb dX12_readLawLine_146 rfl (lv_at hl 0 rfl) ?_
                refine lv_iconst (v := 3) hx hb dX12_readLawLine_147 (by decide) ?_
                have k_3 : (3 : Int32).toInt = 3 := by decide
                refine lv_iadd hx hb dX12_readLawLine_148 ?_
                refine lv_topi (fun v276 ev276 => ?_)
                have f277 : v276.toInt = v3.toInt + (3 : Int32).toInt := by rw [ev276]; exact i_add (by omega) (by omega)
                refine lv_aload_n hx hb dX12_readLawLine_149 rfl (lv_at hl 1 rfl) ?_
                refine q_gi (T := TX12) C S273.1 ga0 16 kF_X12_182 dX12_readLawLine_150 rfl rfl (by decide) rfl (by decide) rfl ?_
                have r278 : 0 ≤ (fI D H273 11 a0 16).toInt ∧ (fI D H273 11 a0 16).toInt ≤ 400 := S273.1.rng ga0 rfl (by decide) rfl
                have n279 : aN H273 (fR D H273 11 a0 1) = 2052 := len_31 S273.1 g275
                refine q_iast C S273 g275 (by omega) (by omega) dX12_readLawLine_153 rfl (by decide) (by decide +kernel) (fun _ _ h => wk_high _ _ (by omega) h) (fun H280 L280 S280 P280 => ?_)
                have y280_10 : (fI D H280 11 a0 10).toInt = (fI D H273 11 a0 10).toInt := congrArg Int32.toInt (Pa.f P280 (ne_role ga0 g275 (by decide)))
                have y280_12 : (fI D H280 11 a0 12).toInt = (fI D H273 11 a0 12).toInt := congrArg Int32.toInt (Pa.f P280 (ne_role ga0 g275 (by decide)))
                have y280_13 : (fI D H280 11 a0 13).toInt = (fI D H273 11 a0 13).toInt := congrArg Int32.toInt (Pa.f P280 (ne_role ga0 g275 (by decide)))
                have y280_16 : (fI D H280 11 a0 16).toInt = (fI D H273 11 a0 16).toInt := congrArg Int32.toInt (Pa.f P280 (ne_role ga0 g275 (by decide)))
                have rs280 : 0 ≤ (fI D H273 11 a0 16).toInt ∧ (fI D H273 11 a0 16).toInt ≤ 400 := S273.1.rng ga0 rfl (by decide) rfl
                have tk280 : Lr D s.heap H280 a0 x1.toInt.toNat := tk273.trans (Lr.ast S273.1 ga0 P280 rfl ⟨by omega, by omega⟩ (by omega))
                refine lv_iconst (v := 1) hx hb dX12_readLawLine_154 (by decide) ?_
                exact retE_z hQ C S280 hr dX12_readLawLine_155 (z01 (by omega) (by omega)) (⟨by omega, fun _ => by omega, fun _ h9 => Dl.line (b := (fI D H257 11 a0 16).toInt.toNat) (e := (fI D H273 11 a0 16).toInt.toNat) h9 tk280 (by omega) rs0.1 (by show (eI H280 (fR D H280 11 a0 1) _).toInt = _; rw [eA S273.1 ga0 P280 (by omega) (by omega), show eI H273 (fR D H273 11 a0 1) (1206 + 4 * x1.toInt.toNat) = _ from ((lq269.trans lq271).trans lq273).2 _ (by omega)]; rw [zb268]; omega) (by show (eI H280 (fR D H280 11 a0 1) _).toInt = _; rw [eS S273.1 ga0 P280 rfl (by omega) (by omega)]; omega) (by omega) (by show _ ≤ (fI D H280 11 a0 16).toInt; omega) (by have e9 : Ex (Cs D H273 a0) (fI D H257 11 a0 16).toInt.toNat (fI D H273 11 a0 16).toInt.toNat := (sx273 (by omega)).at (by omega) (by omega); exact e9.sk (fun k9 h9 => csA S273.1 ga0 P280 rfl (by omega) (by omega)))⟩)
              · have b274 : v273.toInt = (0 : Int32).toInt := i_eq.mp c274
                refine lv_iconst (v := 0) hx hb dX12_readLawLine_140 (by decide) ?_
                exact retE_z hQ C S273 hr dX12_readLawLine_141 (z01 (by omega) (by omega)) (⟨by omega, fun h9 => absurd h9 (by decide), fun h9 => absurd h9 (by decide)⟩)
          · skip
            refine lv_if_eq (tgt := 142) hx hb dX12_readLawLine_130 (by decide) (fun c281 => ?_) (fun c281 => ?_)
            · have b281 : v271.toInt = (0 : Int32).toInt := i_eq.mp c281
              have rs9 : 0 ≤ (fI D H271 11 a0 16).toInt ∧ (fI D H271 11 a0 16).toInt ≤ 400 := S271.1.rng ga0 rfl (by decide) rfl
              have rp9 : 0 ≤ (fI D H271 11 a0 10).toInt ∧ (fI D H271 11 a0 10).toInt ≤ 400 := S271.1.rng ga0 rfl (by decide) rfl
              refine lv_aload_n hx hb dX12_readLawLine_142 rfl (lv_at hl 1 rfl) ?_
              refine q_gr (T := TX12) C S271.1 ga0 1 kF_X12_13 dX12_readLawLine_143 rfl rfl (by decide) rfl (by decide) rfl (fun g282 => ?_)
              refine lv_iload_n hx hb dX12_readLawLine_146 rfl (lv_at hl 0 rfl) ?_
              refine lv_iconst (v := 3) hx hb dX12_readLawLine_147 (by decide) ?_
              have k_3 : (3 : Int32).toInt = 3 := by decide
              refine lv_iadd hx hb dX12_readLawLine_148 ?_
              refine lv_topi (fun v283 ev283 => ?_)
              have f284 : v283.toInt = v3.toInt + (3 : Int32).toInt := by rw [ev283]; exact i_add (by omega) (by omega)
              refine lv_aload_n hx hb dX12_readLawLine_149 rfl (lv_at hl 1 rfl) ?_
              refine q_gi (T := TX12) C S271.1 ga0 16 kF_X12_182 dX12_readLawLine_150 rfl rfl (by decide) rfl (by decide) rfl ?_
              have r285 : 0 ≤ (fI D H271 11 a0 16).toInt ∧ (fI D H271 11 a0 16).toInt ≤ 400 := S271.1.rng ga0 rfl (by decide) rfl
              have n286 : aN H271 (fR D H271 11 a0 1) = 2052 := len_31 S271.1 g282
              refine q_iast C S271 g282 (by omega) (by omega) dX12_readLawLine_153 rfl (by decide) (by decide +kernel) (fun _ _ h => wk_high _ _ (by omega) h) (fun H287 L287 S287 P287 => ?_)
              have y287_10 : (fI D H287 11 a0 10).toInt = (fI D H271 11 a0 10).toInt := congrArg Int32.toInt (Pa.f P287 (ne_role ga0 g282 (by decide)))
              have y287_12 : (fI D H287 11 a0 12).toInt = (fI D H271 11 a0 12).toInt := congrArg Int32.toInt (Pa.f P287 (ne_role ga0 g282 (by decide)))
              have y287_13 : (fI D H287 11 a0 13).toInt = (fI D H271 11 a0 13).toInt := congrArg Int32.toInt (Pa.f P287 (ne_role ga0 g282 (by decide)))
              have y287_16 : (fI D H287 11 a0 16).toInt = (fI D H271 11 a0 16).toInt := congrArg Int32.toInt (Pa.f P287 (ne_role ga0 g282 (by decide)))
              have rs287 : 0 ≤ (fI D H271 11 a0 16).toInt ∧ (fI D H271 11 a0 16).toInt ≤ 400 := S271.1.rng ga0 rfl (by decide) rfl
              have tk287 : Lr D s.heap H287 a0 x1.toInt.toNat := tk271.trans (Lr.ast S271.1 ga0 P287 rfl ⟨by omega, by omega⟩ (by omega))
              refine lv_iconst (v := 1) hx hb dX12_readLawLine_154 (by decide) ?_
              exact retE_z hQ C S287 hr dX12_readLawLine_155 (z01 (by omega) (by omega)) (⟨by omega, fun _ => by omega, fun _ h9 => Dl.line (b := (fI D H257 11 a0 16).toInt.toNat) (e := (fI D H271 11 a0 16).toInt.toNat) h9 tk287 (by omega) rs0.1 (by show (eI H287 (fR D H287 11 a0 1) _).toInt = _; rw [eA S271.1 ga0 P287 (by omega) (by omega), show eI H271 (fR D H271 11 a0 1) (1206 + 4 * x1.toInt.toNat) = _ from (lq269.trans lq271).2 _ (by omega)]; rw [zb268]; omega) (by show (eI H287 (fR D H287 11 a0 1) _).toInt = _; rw [eS S271.1 ga0 P287 rfl (by omega) (by omega)]; omega) (by omega) (by show _ ≤ (fI D H287 11 a0 16).toInt; omega) (by rw [show (fI D H271 11 a0 16).toInt.toNat - (fI D H257 11 a0 16).toInt.toNat = 0 by omega]; exact True.intro)⟩)
            · have b281 : ¬ v271.toInt = (0 : Int32).toInt := fun z9 => c281 (i_eq.mpr z9)
              exact absurd b281 (by omega)
        · have b263 : ¬ (0 : Int32).toInt ≤ v262.toInt := fun z9 => c263 (i_le.mpr z9)
          refine lv_iconst (v := 0) hx hb dX12_readLawLine_105 (by decide) ?_
          exact retE_z hQ C S257 hr dX12_readLawLine_106 (z01 (by omega) (by omega)) (⟨by omega, fun h9 => absurd h9 (by decide), fun h9 => absurd h9 (by decide)⟩)
      · have b254 : v253.toInt = (1 : Int32).toInt := i_eq.mp c254
        refine lv_iconst (v := 1) hx hb dX12_readLawLine_82 (by decide) ?_
        refine lv_goto (tgt := 93) hx hb dX12_readLawLine_83 (by decide) ?_
        refine q_iast C S244 g249 (by omega) (by omega) dX12_readLawLine_93 rfl (by decide) (by decide +kernel) (fun _ _ h => wk_high _ _ (by omega) h) (fun H288 L288 S288 P288 => ?_)
        have y288_10 : (fI D H288 11 a0 10).toInt = (fI D H244 11 a0 10).toInt := congrArg Int32.toInt (Pa.f P288 (ne_role ga0 g249 (by decide)))
        have y288_12 : (fI D H288 11 a0 12).toInt = (fI D H244 11 a0 12).toInt := congrArg Int32.toInt (Pa.f P288 (ne_role ga0 g249 (by decide)))
        have y288_13 : (fI D H288 11 a0 13).toInt = (fI D H244 11 a0 13).toInt := congrArg Int32.toInt (Pa.f P288 (ne_role ga0 g249 (by decide)))
        have y288_16 : (fI D H288 11 a0 16).toInt = (fI D H244 11 a0 16).toInt := congrArg Int32.toInt (Pa.f P288 (ne_role ga0 g249 (by decide)))
        have rs288 : 0 ≤ (fI D H244 11 a0 16).toInt ∧ (fI D H244 11 a0 16).toInt ≤ 400 := S244.1.rng ga0 rfl (by decide) rfl
        have tk288 : Lr D s.heap H288 a0 x1.toInt.toNat := tk244.trans (Lr.ast S244.1 ga0 P288 rfl ⟨by omega, by omega⟩ (by omega))
        refine lv_aload_n hx hb dX12_readLawLine_94 rfl (lv_at hl 1 rfl) ?_
        refine q_gr (T := TX12) C S288.1 ga0 1 kF_X12_13 dX12_readLawLine_95 rfl rfl (by decide) rfl (by decide) rfl (fun g289 => ?_)
        refine lv_iload_n hx hb dX12_readLawLine_98 rfl (lv_at hl 0 rfl) ?_
        refine lv_iconst (v := 1) hx hb dX12_readLawLine_99 (by decide) ?_
        refine lv_iadd hx hb dX12_readLawLine_100 ?_
        refine lv_topi (fun v290 ev290 => ?_)
        have f291 : v290.toInt = v3.toInt + (1 : Int32).toInt := by rw [ev290]; exact i_add (by omega) (by omega)
        have n292 : aN H288 (fR D H288 11 a0 1) = 2052 := len_31 S288.1 g289
        refine q_iald C S288.1 g289 (by omega) (by omega) dX12_readLawLine_101 rfl (by decide) ?_
        refine lv_topi (fun v293 ev293 => ?_)
        refine lv_if_ge (tgt := 107) hx hb dX12_readLawLine_102 (by decide) (fun c294 => ?_) (fun c294 => ?_)
        · have b294 : (0 : Int32).toInt ≤ v293.toInt := i_le.mp c294
          refine lv_aload_n hx hb dX12_readLawLine_107 rfl (lv_at hl 1 rfl) ?_
          refine q_gr (T := TX12) C S288.1 ga0 1 kF_X12_13 dX12_readLawLine_108 rfl rfl (by decide) rfl (by decide) rfl (fun g295 => ?_)
          refine lv_iload_n hx hb dX12_readLawLine_111 rfl (lv_at hl 0 rfl) ?_
          refine lv_iconst (v := 2) hx hb dX12_readLawLine_112 (by decide) ?_
          have k_2 : (2 : Int32).toInt = 2 := by decide
          refine lv_iadd hx hb dX12_readLawLine_113 ?_
          refine lv_topi (fun v296 ev296 => ?_)
          have f297 : v296.toInt = v3.toInt + (2 : Int32).toInt := by rw [ev296]; exact i_add (by omega) (by omega)
          refine lv_aload_n hx hb dX12_readLawLine_114 rfl (lv_at hl 1 rfl) ?_
          refine q_gi (T := TX12) C S288.1 ga0 16 kF_X12_182 dX12_readLawLine_115 rfl rfl (by decide) rfl (by decide) rfl ?_
          have r298 : 0 ≤ (fI D H288 11 a0 16).toInt ∧ (fI D H288 11 a0 16).toInt ≤ 400 := S288.1.rng ga0 rfl (by decide) rfl
          refine q_iast C S288 g295 (by omega) (by omega) dX12_readLawLine_118 rfl (by decide) (by decide +kernel) (fun _ _ h => wk_high _ _ (by omega) h) (fun H299 L299 S299 P299 => ?_)
          have y299_10 : (fI D H299 11 a0 10).toInt = (fI D H288 11 a0 10).toInt := congrArg Int32.toInt (Pa.f P299 (ne_role ga0 g295 (by decide)))
          have y299_12 : (fI D H299 11 a0 12).toInt = (fI D H288 11 a0 12).toInt := congrArg Int32.toInt (Pa.f P299 (ne_role ga0 g295 (by decide)))
          have y299_13 : (fI D H299 11 a0 13).toInt = (fI D H288 11 a0 13).toInt := congrArg Int32.toInt (Pa.f P299 (ne_role ga0 g295 (by decide)))
          have y299_16 : (fI D H299 11 a0 16).toInt = (fI D H288 11 a0 16).toInt := congrArg Int32.toInt (Pa.f P299 (ne_role ga0 g295 (by decide)))
          have rs299 : 0 ≤ (fI D H288 11 a0 16).toInt ∧ (fI D H288 11 a0 16).toInt ≤ 400 := S288.1.rng ga0 rfl (by decide) rfl
          have tk299 : Lr D s.heap H299 a0 x1.toInt.toNat := tk288.trans (Lr.ast S288.1 ga0 P299 rfl ⟨by omega, by omega⟩ (by omega))
          have zb299 : (eI H299 (fR D H299 11 a0 1) (1206 + 4 * x1.toInt.toNat)).toInt = (fI D H288 11 a0 16).toInt := congrArg Int32.toInt (eS S288.1 ga0 P299 rfl (by omega) (by omega))
          refine lv_aload_n hx hb dX12_readLawLine_119 rfl (lv_at hl 1 rfl) ?_
          refine lv_iconst (v := 0) hx hb dX12_readLawLine_120 (by decide) ?_
          refine q_put (T := TX12) C S299 ga0 13 kF_X12_197 dX12_readLawLine_121 rfl rfl (by decide) (by decide) rfl rfl rfl rfl rfl (vok_i rfl (by omega) (by omega)) (by decide +kernel) (fun H300 L300 S300 P300 => ?_)
          have y300_10 : (fI D H300 11 a0 10).toInt = (fI D H299 11 a0 10).toInt := congrArg Int32.toInt (Pt.o P300 (by decide) (by decide))
          have y300_12 : (fI D H300 11 a0 12).toInt = (fI D H299 11 a0 12).toInt := congrArg Int32.toInt (Pt.o P300 (by decide) (by decide))
          have y300_13 : (fI D H300 11 a0 13).toInt = (0 : Int32).toInt := congrArg Int32.toInt (Pt.i P300)
          have y300_16 : (fI D H300 11 a0 16).toInt = (fI D H299 11 a0 16).toInt := congrArg Int32.toInt (Pt.o P300 (by decide) (by decide))
          have lq300 : Lq D H299 H300 a0 := Lq.put S299.1 ga0 P300 (by decide) (by decide)
          have tk300 : Lr D s.heap H300 a0 x1.toInt.toNat := tk299.trans (Lr.of lq300)
          refine lv_aload_n hx hb dX12_readLawLine_124 rfl (lv_at hl 1 rfl) ?_
          refine q_lds C ks_X12_227 dX12_readLawLine_125 (fun a301 ha301 => ?_)
          refine callV_Ei C S300 (c_X12_passes_w l D G a0 a301 2 ga0 ha301) kV_X12_120 ga0 (trivial) (by decide +kernel) dX12_readLawLine_127 hl.1 rfl rfl (by decide) cd_X12_passes ⟨Nat.le_of_ble_eq_true rfl, Nat.le_of_ble_eq_true rfl, Nat.le_of_ble_eq_true rfl, Nat.le_of_ble_eq_true rfl, Nat.le_of_ble_eq_true rfl⟩ (fun v302 H302 L302 S302 K302 q302 => ?_)
          have y302_13 : (fI D H302 11 a0 13).toInt = (fI D H300 11 a0 13).toInt := congrArg Int32.toInt (K302.fI ga0 rfl (by decide) (by decide +kernel))
          have y302_16 : (fI D H302 11 a0 16).toInt = (fI D H300 11 a0 16).toInt := congrArg Int32.toInt (K302.fI ga0 rfl (by decide) (by decide +kernel))
          have lq302 : Lq D H300 H302 a0 := Lq.keep S300.1 ga0 K302 (by decide +kernel) (by decide +kernel) (by decide +kernel)
          have tk302 : Lr D s.heap H302 a0 x1.toInt.toNat := tk300.trans (Lr.of lq302)
          rcases q302 with q302 | q302
          · skip
            refine lv_if_eq (tgt := 142) hx hb dX12_readLawLine_130 (by decide) (fun c303 => ?_) (fun c303 => ?_)
            · have b303 : v302.toInt = (0 : Int32).toInt := i_eq.mp c303
              exact absurd b303 (by omega)
            · have b303 : ¬ v302.toInt = (0 : Int32).toInt := fun z9 => c303 (i_eq.mpr z9)
              refine lv_aload_n hx hb dX12_readLawLine_133 rfl (lv_at hl 1 rfl) ?_
              have rs9 : 0 ≤ (fI D H302 11 a0 16).toInt ∧ (fI D H302 11 a0 16).toInt ≤ 400 := S302.1.rng ga0 rfl (by decide) rfl
              have rp9 : 0 ≤ (fI D H302 11 a0 10).toInt ∧ (fI D H302 11 a0 10).toInt ≤ 400 := S302.1.rng ga0 rfl (by decide) rfl
              refine callV_Ei C S302 (c_X12_readCond_d0 l D G a0 ga0) kV_X12_200 ga0 (⟨by omega, by omega⟩) (by decide +kernel) dX12_readLawLine_134 hl.1 rfl rfl (by decide) cd_X12_readCond ⟨Nat.le_of_ble_eq_true rfl, Nat.le_of_ble_eq_true rfl, Nat.le_of_ble_eq_true rfl, Nat.le_of_ble_eq_true rfl, Nat.le_of_ble_eq_true rfl⟩ (fun v304 H304 L304 S304 K304 q304 => ?_)
              obtain ⟨q304, sa304, sx304, tq304⟩ := q304
              have lq304 : Lq D H302 H304 a0 := tq304
              have tk304 : Lr D s.heap H304 a0 x1.toInt.toNat := tk302.trans (Lr.of lq304)
              refine lv_if_ne (tgt := 142) hx hb dX12_readLawLine_137 (by decide) (fun c305 => ?_) (fun c305 => ?_)
              · have b305 : ¬ v304.toInt = (0 : Int32).toInt := fun z9 => c305 (i_eq.mpr z9)
                have rs9 : 0 ≤ (fI D H304 11 a0 16).toInt ∧ (fI D H304 11 a0 16).toInt ≤ 400 := S304.1.rng ga0 rfl (by decide) rfl
                have rp9 : 0 ≤ (fI D H304 11 a0 10).toInt ∧ (fI D H304 11 a0 10).toInt ≤ 400 := S304.1.rng ga0 rfl (by decide) rfl
                refine lv_aload_n hx hb dX12_readLawLine_142 rfl (lv_at hl 1 rfl) ?_
                refine q_gr (T := TX12) C S304.1 ga0 1 kF_X12_13 dX12_readLawLine_143 rfl rfl (by decide) rfl (by decide) rfl (fun g306 => ?_)
                refine lv_iload_n hx hb dX12_readLawLine_146 rfl (lv_at hl 0 rfl) ?_
                refine lv_iconst (v := 3) hx hb dX12_readLawLine_147 (by decide) ?_
                have k_3 : (3 : Int32).toInt = 3 := by decide
                refine lv_iadd hx hb dX12_readLawLine_148 ?_
                refine lv_topi (fun v307 ev307 => ?_)
                have f308 : v307.toInt = v3.toInt + (3 : Int32).toInt := by rw [ev307]; exact i_add (by omega) (by omega)
                refine lv_aload_n hx hb dX12_readLawLine_149 rfl (lv_at hl 1 rfl) ?_
                refine q_gi (T := TX12) C S304.1 ga0 16 kF_X12_182 dX12_readLawLine_150 rfl rfl (by decide) rfl (by decide) rfl ?_
                have r309 : 0 ≤ (fI D H304 11 a0 16).toInt ∧ (fI D H304 11 a0 16).toInt ≤ 400 := S304.1.rng ga0 rfl (by decide) rfl
                have n310 : aN H304 (fR D H304 11 a0 1) = 2052 := len_31 S304.1 g306
                refine q_iast C S304 g306 (by omega) (by omega) dX12_readLawLine_153 rfl (by decide) (by decide +kernel) (fun _ _ h => wk_high _ _ (by omega) h) (fun H311 L311 S311 P311 => ?_)
                have y311_10 : (fI D H311 11 a0 10).toInt = (fI D H304 11 a0 10).toInt := congrArg Int32.toInt (Pa.f P311 (ne_role ga0 g306 (by decide)))
                have y311_12 : (fI D H311 11 a0 12).toInt = (fI D H304 11 a0 12).toInt := congrArg Int32.toInt (Pa.f P311 (ne_role ga0 g306 (by decide)))
                have y311_13 : (fI D H311 11 a0 13).toInt = (fI D H304 11 a0 13).toInt := congrArg Int32.toInt (Pa.f P311 (ne_role ga0 g306 (by decide)))
                have y311_16 : (fI D H311 11 a0 16).toInt = (fI D H304 11 a0 16).toInt := congrArg Int32.toInt (Pa.f P311 (ne_role ga0 g306 (by decide)))
                have rs311 : 0 ≤ (fI D H304 11 a0 16).toInt ∧ (fI D H304 11 a0 16).toInt ≤ 400 := S304.1.rng ga0 rfl (by decide) rfl
                have tk311 : Lr D s.heap H311 a0 x1.toInt.toNat := tk304.trans (Lr.ast S304.1 ga0 P311 rfl ⟨by omega, by omega⟩ (by omega))
                refine lv_iconst (v := 1) hx hb dX12_readLawLine_154 (by decide) ?_
                exact retE_z hQ C S311 hr dX12_readLawLine_155 (z01 (by omega) (by omega)) (⟨by omega, fun _ => by omega, fun _ h9 => Dl.line (b := (fI D H288 11 a0 16).toInt.toNat) (e := (fI D H304 11 a0 16).toInt.toNat) h9 tk311 (by omega) rs0.1 (by show (eI H311 (fR D H311 11 a0 1) _).toInt = _; rw [eA S304.1 ga0 P311 (by omega) (by omega), show eI H304 (fR D H304 11 a0 1) (1206 + 4 * x1.toInt.toNat) = _ from ((lq300.trans lq302).trans lq304).2 _ (by omega)]; rw [zb299]; omega) (by show (eI H311 (fR D H311 11 a0 1) _).toInt = _; rw [eS S304.1 ga0 P311 rfl (by omega) (by omega)]; omega) (by omega) (by show _ ≤ (fI D H311 11 a0 16).toInt; omega) (by have e9 : Ex (Cs D H304 a0) (fI D H288 11 a0 16).toInt.toNat (fI D H304 11 a0 16).toInt.toNat := (sx304 (by omega)).at (by omega) (by omega); exact e9.sk (fun k9 h9 => csA S304.1 ga0 P311 rfl (by omega) (by omega)))⟩)
              · have b305 : v304.toInt = (0 : Int32).toInt := i_eq.mp c305
                refine lv_iconst (v := 0) hx hb dX12_readLawLine_140 (by decide) ?_
                exact retE_z hQ C S304 hr dX12_readLawLine_141 (z01 (by omega) (by omega)) (⟨by omega, fun h9 => absurd h9 (by decide), fun h9 => absurd h9 (by decide)⟩)
          · skip
            refine lv_if_eq (tgt := 142) hx hb dX12_readLawLine_130 (by decide) (fun c312 => ?_) (fun c312 => ?_)
            · have b312 : v302.toInt = (0 : Int32).toInt := i_eq.mp c312
              have rs9 : 0 ≤ (fI D H302 11 a0 16).toInt ∧ (fI D H302 11 a0 16).toInt ≤ 400 := S302.1.rng ga0 rfl (by decide) rfl
              have rp9 : 0 ≤ (fI D H302 11 a0 10).toInt ∧ (fI D H302 11 a0 10).toInt ≤ 400 := S302.1.rng ga0 rfl (by decide) rfl
              refine lv_aload_n hx hb dX12_readLawLine_142 rfl (lv_at hl 1 rfl) ?_
              refine q_gr (T := TX12) C S302.1 ga0 1 kF_X12_13 dX12_readLawLine_143 rfl rfl (by decide) rfl (by decide) rfl (fun g313 => ?_)
              refine lv_iload_n hx hb dX12_readLawLine_146 rfl (lv_at hl 0 rfl) ?_
              refine lv_iconst (v := 3) hx hb dX12_readLawLine_147 (by decide) ?_
              have k_3 : (3 : Int32).toInt = 3 := by decide
              refine lv_iadd hx hb dX12_readLawLine_148 ?_
              refine lv_topi (fun v314 ev314 => ?_)
              have f315 : v314.toInt = v3.toInt + (3 : Int32).toInt := by rw [ev314]; exact i_add (by omega) (by omega)
              refine lv_aload_n hx hb dX12_readLawLine_149 rfl (lv_at hl 1 rfl) ?_
              refine q_gi (T := TX12) C S302.1 ga0 16 kF_X12_182 dX12_readLawLine_150 rfl rfl (by decide) rfl (by decide) rfl ?_
              have r316 : 0 ≤ (fI D H302 11 a0 16).toInt ∧ (fI D H302 11 a0 16).toInt ≤ 400 := S302.1.rng ga0 rfl (by decide) rfl
              have n317 : aN H302 (fR D H302 11 a0 1) = 2052 := len_31 S302.1 g313
              refine q_iast C S302 g313 (by omega) (by omega) dX12_readLawLine_153 rfl (by decide) (by decide +kernel) (fun _ _ h => wk_high _ _ (by omega) h) (fun H318 L318 S318 P318 => ?_)
              have y318_10 : (fI D H318 11 a0 10).toInt = (fI D H302 11 a0 10).toInt := congrArg Int32.toInt (Pa.f P318 (ne_role ga0 g313 (by decide)))
              have y318_12 : (fI D H318 11 a0 12).toInt = (fI D H302 11 a0 12).toInt := congrArg Int32.toInt (Pa.f P318 (ne_role ga0 g313 (by decide)))
              have y318_13 : (fI D H318 11 a0 13).toInt = (fI D H302 11 a0 13).toInt := congrArg Int32.toInt (Pa.f P318 (ne_role ga0 g313 (by decide)))
              have y318_16 : (fI D H318 11 a0 16).toInt = (fI D H302 11 a0 16).toInt := congrArg Int32.toInt (Pa.f P318 (ne_role ga0 g313 (by decide)))
              have rs318 : 0 ≤ (fI D H302 11 a0 16).toInt ∧ (fI D H302 11 a0 16).toInt ≤ 400 := S302.1.rng ga0 rfl (by decide) rfl
              have tk318 : Lr D s.heap H318 a0 x1.toInt.toNat := tk302.trans (Lr.ast S302.1 ga0 P318 rfl ⟨by omega, by omega⟩ (by omega))
              refine lv_iconst (v := 1) hx hb dX12_readLawLine_154 (by decide) ?_
              exact retE_z hQ C S318 hr dX12_readLawLine_155 (z01 (by omega) (by omega)) (⟨by omega, fun _ => by omega, fun _ h9 => Dl.line (b := (fI D H288 11 a0 16).toInt.toNat) (e := (fI D H302 11 a0 16).toInt.toNat) h9 tk318 (by omega) rs0.1 (by show (eI H318 (fR D H318 11 a0 1) _).toInt = _; rw [eA S302.1 ga0 P318 (by omega) (by omega), show eI H302 (fR D H302 11 a0 1) (1206 + 4 * x1.toInt.toNat) = _ from (lq300.trans lq302).2 _ (by omega)]; rw [zb299]; omega) (by show (eI H318 (fR D H318 11 a0 1) _).toInt = _; rw [eS S302.1 ga0 P318 rfl (by omega) (by omega)]; omega) (by omega) (by show _ ≤ (fI D H318 11 a0 16).toInt; omega) (by rw [show (fI D H302 11 a0 16).toInt.toNat - (fI D H288 11 a0 16).toInt.toNat = 0 by omega]; exact True.intro)⟩)
            · have b312 : ¬ v302.toInt = (0 : Int32).toInt := fun z9 => c312 (i_eq.mpr z9)
              exact absurd b312 (by omega)
        · have b294 : ¬ (0 : Int32).toInt ≤ v293.toInt := fun z9 => c294 (i_le.mpr z9)
          refine lv_iconst (v := 0) hx hb dX12_readLawLine_105 (by decide) ?_
          exact retE_z hQ C S288 hr dX12_readLawLine_106 (z01 (by omega) (by omega)) (⟨by omega, fun h9 => absurd h9 (by decide), fun h9 => absurd h9 (by decide)⟩)
    · have b248 : ¬ (0 : Int32).toInt ≤ v247.toInt := fun z9 => c248 (i_le.mpr z9)
      refine lv_iconst (v := 0) hx hb dX12_readLawLine_63 (by decide) ?_
      exact retE_z hQ C S244 hr dX12_readLawLine_64 (z01 (by omega) (by omega)) (⟨by omega, fun h9 => absurd h9 (by decide), fun h9 => absurd h9 (by decide)⟩)
