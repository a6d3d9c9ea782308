set_option maxRecDepth 100000 in
set_option maxHeartbeats 4000000 in
theorem c_X12_readLawLine (l : Launch) (D : DD) (G : Nat → Nat) (a0 : Nat) (x1 : Int32) (ga0 : G a0 = 30) (ix1 : 0 ≤ x1.toInt ∧ x1.toInt ≤ 11) : CE l D G yX12_readLawLine cX12_readLawLine 3 (some .boolean) 28 [.ref a0, .int x1] (fun H => (fI D H 11 a0 16).toInt ≤ (fI D H 11 a0 12).toInt ∧ (fI D H 11 a0 12).toInt ≤ (fI D H 11 a0 10).toInt) [(30, 10), (30, 12), (30, 16), (31, 0), (30, 13)] (xI (fun H r H1 => (0 ≤ r.toInt ∧ r.toInt ≤ 1) ∧ (r.toInt = 1 → (fI D H1 11 a0 16).toInt ≤ (fI D H1 11 a0 10).toInt) ∧ (r.toInt = 1 → Dl D H a0 x1.toInt.toNat → Dl D H1 a0 (x1.toInt.toNat + 1)))) := by
  refine enter (by decide) (Nat.le_of_ble_eq_true rfl) ?_
  intro p e s m args below meth c ls Q hA hQ C hr hO hpre hl
  have hx := C.1
  have hb := C.2.1
  have S : Sd D G [(30, 10), (30, 12), (30, 16), (31, 0), (30, 13)] s.heap s.heap [] := Sd.start hO
  have hl : lv_has ls 3 [(0, .ref a0), (1, .int x1)] := hl
  have rs0 : 0 ≤ (fI D s.heap 11 a0 16).toInt ∧ (fI D s.heap 11 a0 16).toInt ≤ 400 := hO.rng ga0 rfl (by decide) rfl
  have rp0 : 0 ≤ (fI D s.heap 11 a0 10).toInt ∧ (fI D s.heap 11 a0 10).toInt ≤ 400 := hO.rng ga0 rfl (by decide) rfl
  have tk0 : Lr D s.heap s.heap a0 x1.toInt.toNat := Lr.refl
  refine lv_sipush (v := 1204) hx hb dX12_readLawLine_0 (by decide) ?_
  refine lv_iconst (v := 4) hx hb dX12_readLawLine_3 (by decide) ?_
  refine lv_iload_n hx hb dX12_readLawLine_4 rfl (lv_at hl 1 rfl) ?_
  have k_4 : (4 : Int32).toInt = 4 := by decide
  refine lv_imul hx hb dX12_readLawLine_5 ?_
  refine lv_topi (fun v1 ev1 => ?_)
  have f2 : v1.toInt = (4) * x1.toInt := by rw [ev1]; exact i_cmul k_4 (by omega) (by omega)
  have k_1204 : (1204 : Int32).toInt = 1204 := by decide
  refine lv_iadd hx hb dX12_readLawLine_6 ?_
  refine lv_topi (fun v3 ev3 => ?_)
  have f4 : v3.toInt = (1204 : Int32).toInt + v1.toInt := by rw [ev3]; exact i_add (by omega) (by omega)
  refine lv_istore_n (lv' := [(2, .int v3), (0, .ref a0), (1, .int x1)]) hx hb dX12_readLawLine_7 rfl hl (by decide) rfl (fun ls hl => ?_)
  refine lv_aload_n hx hb dX12_readLawLine_8 rfl (lv_at hl 1 rfl) ?_
  refine q_gr (T := TX12) C S.1 ga0 1 kF_X12_13 dX12_readLawLine_9 rfl rfl (by decide) rfl (by decide) rfl (fun g5 => ?_)
  refine lv_iload_n hx hb dX12_readLawLine_12 rfl (lv_at hl 0 rfl) ?_
  refine lv_aload_n hx hb dX12_readLawLine_13 rfl (lv_at hl 1 rfl) ?_
  refine q_lds C ks_X12_221 dX12_readLawLine_14 (fun a6 ha6 => ?_)
  refine callV_Pi C S.1 S.2.1.2.1 (c_X12_isWord_w l D G a0 a6 3 ga0 ha6) kV_X12_105 ga0 (trivial) dX12_readLawLine_16 hl.1 rfl rfl (by decide) cd_X12_isWord ⟨Nat.le_of_ble_eq_true rfl, Nat.le_of_ble_eq_true rfl, Nat.le_of_ble_eq_true rfl, Nat.le_of_ble_eq_true rfl, Nat.le_of_ble_eq_true rfl⟩ (fun v7 q7 => ?_)
  have J9 : ∀ z10 : Int32, (-1 ≤ z10.toInt ∧ z10.toInt ≤ 2) → (0 ≤ z10.toInt → (fI D s.heap 11 a0 10).toInt - (fI D s.heap 11 a0 12).toInt ≥ 3) → W p l e (rmU 28 0 0) s m args below meth c s.heap [] 0 0 Q (F0 m 53 ls [.int z10, .int v3, .ref (fR D s.heap 11 a0 1)]) := by
    intro z10 jz10 jjz10
    have n11 : aN s.heap (fR D s.heap 11 a0 1) = 2052 := len_31 S.1 g5
    refine q_iast C S g5 (by omega) (by omega) dX12_readLawLine_53 rfl (by decide) (by decide +kernel) (fun _ _ h => wk_high _ _ (by omega) h) (fun H12 L12 S12 P12 => ?_)
    have y12_10 : (fI D H12 11 a0 10).toInt = (fI D s.heap 11 a0 10).toInt := congrArg Int32.toInt (Pa.f P12 (ne_role ga0 g5 (by decide)))
    have y12_12 : (fI D H12 11 a0 12).toInt = (fI D s.heap 11 a0 12).toInt := congrArg Int32.toInt (Pa.f P12 (ne_role ga0 g5 (by decide)))
    have y12_13 : (fI D H12 11 a0 13).toInt = (fI D s.heap 11 a0 13).toInt := congrArg Int32.toInt (Pa.f P12 (ne_role ga0 g5 (by decide)))
    have y12_16 : (fI D H12 11 a0 16).toInt = (fI D s.heap 11 a0 16).toInt := congrArg Int32.toInt (Pa.f P12 (ne_role ga0 g5 (by decide)))
    have rs12 : 0 ≤ (fI D s.heap 11 a0 16).toInt ∧ (fI D s.heap 11 a0 16).toInt ≤ 400 := S.1.rng ga0 rfl (by decide) rfl
    have tk12 : Lr D s.heap H12 a0 x1.toInt.toNat := tk0.trans (Lr.ast S.1 ga0 P12 rfl ⟨by omega, by omega⟩ (by omega))
    have ew : eI H12 (fR D H12 11 a0 1) v3.toInt.toNat = _ := eS S.1 ga0 P12 rfl rfl (by omega)
    refine lv_aload_n hx hb dX12_readLawLine_54 rfl (lv_at hl 1 rfl) ?_
    refine q_gr (T := TX12) C S12.1 ga0 1 kF_X12_13 dX12_readLawLine_55 rfl rfl (by decide) rfl (by decide) rfl (fun g13 => ?_)
    refine lv_iload_n hx hb dX12_readLawLine_58 rfl (lv_at hl 0 rfl) ?_
    have n14 : aN H12 (fR D H12 11 a0 1) = 2052 := len_31 S12.1 g13
    refine q_iald C S12.1 g13 (by omega) (by omega) dX12_readLawLine_59 rfl (by decide) ?_
    refine lv_topi (fun v15 ev15 => ?_)
    have ev59 := ev15
    have ez : v15.toInt = _ := congrArg Int32.toInt (ev59.trans ew)
    have kzm1 : ((-1) : Int32).toInt = -1 := by decide
    have kz0 : ((0) : Int32).toInt = 0 := by decide
    have kz1 : ((1) : Int32).toInt = 1 := by decide
    have kz2 : ((2) : Int32).toInt = 2 := by decide
    have k_0 : (0 : Int32).toInt = 0 := by decide
    refine lv_if_ge (tgt := 65) hx hb dX12_readLawLine_60 (by decide) (fun c16 => ?_) (fun c16 => ?_)
    · have b16 : (0 : Int32).toInt ≤ v15.toInt := i_le.mp c16
      refine lv_aload_n hx hb dX12_readLawLine_65 rfl (lv_at hl 1 rfl) ?_
      refine q_gr (T := TX12) C S12.1 ga0 1 kF_X12_13 dX12_readLawLine_66 rfl rfl (by decide) rfl (by decide) rfl (fun g17 => ?_)
      refine lv_iload_n hx hb dX12_readLawLine_69 rfl (lv_at hl 0 rfl) ?_
      refine lv_iconst (v := 1) hx hb dX12_readLawLine_70 (by decide) ?_
      have k_1 : (1 : Int32).toInt = 1 := by decide
      refine lv_iadd hx hb dX12_readLawLine_71 ?_
      refine lv_topi (fun v18 ev18 => ?_)
      have f19 : v18.toInt = v3.toInt + (1 : Int32).toInt := by rw [ev18]; exact i_add (by omega) (by omega)
      refine lv_aload_n hx hb dX12_readLawLine_72 rfl (lv_at hl 1 rfl) ?_
      refine q_gr (T := TX12) C S12.1 ga0 1 kF_X12_13 dX12_readLawLine_73 rfl rfl (by decide) rfl (by decide) rfl (fun g20 => ?_)
      refine lv_iload_n hx hb dX12_readLawLine_76 rfl (lv_at hl 0 rfl) ?_
      refine q_iald C S12.1 g20 (by omega) (by omega) dX12_readLawLine_77 rfl (by decide) ?_
      refine lv_topi (fun v21 ev21 => ?_)
      refine lv_iconst (v := 1) hx hb dX12_readLawLine_78 (by decide) ?_
      refine lv_icmp_ne (tgt := 86) hx hb dX12_readLawLine_79 (by decide) (fun c22 => ?_) (fun c22 => ?_)
      · have b22 : ¬ v21.toInt = (1 : Int32).toInt := fun z9 => c22 (i_eq.mpr z9)
        refine lv_aload_n hx hb dX12_readLawLine_86 rfl (lv_at hl 1 rfl) ?_
        refine lv_iconst (v := 0) hx hb dX12_readLawLine_87 (by decide) ?_
        refine lv_bipush (v := 99) hx hb dX12_readLawLine_88 (by decide) ?_
        have k_99 : (99 : Int32).toInt = 99 := by decide
        refine callV_Ei C S12 (c_X12_number_w l D G a0 (0 : Int32) (99 : Int32) ga0) kV_X12_109 ga0 (trivial) (by decide +kernel) dX12_readLawLine_90 hl.1 rfl rfl (by decide) cd_X12_number ⟨Nat.le_of_ble_eq_true rfl, Nat.le_of_ble_eq_true rfl, Nat.le_of_ble_eq_true rfl, Nat.le_of_ble_eq_true rfl, Nat.le_of_ble_eq_true rfl⟩ (fun v23 H23 L23 S23 K23 q23 => ?_)
        have y23_13 : (fI D H23 11 a0 13).toInt = (fI D H12 11 a0 13).toInt := congrArg Int32.toInt (K23.fI ga0 rfl (by decide) (by decide +kernel))
        have y23_16 : (fI D H23 11 a0 16).toInt = (fI D H12 11 a0 16).toInt := congrArg Int32.toInt (K23.fI ga0 rfl (by decide) (by decide +kernel))
        have lq23 : Lq D H12 H23 a0 := Lq.keep S12.1 ga0 K23 (by decide +kernel) (by decide +kernel) (by decide +kernel)
        have tk23 : Lr D s.heap H23 a0 x1.toInt.toNat := tk12.trans (Lr.of lq23)
        have n24 : aN H23 (fR D H12 11 a0 1) = 2052 := len_31 S23.1 g17
        refine q_iast C S23 g17 (by omega) (by omega) dX12_readLawLine_93 rfl (by decide) (by decide +kernel) (fun _ _ h => wk_high _ _ (by omega) h) (fun H25 L25 S25 P25 => ?_)
        have y25_10 : (fI D H25 11 a0 10).toInt = (fI D H23 11 a0 10).toInt := congrArg Int32.toInt (Pa.f P25 (ne_role ga0 g17 (by decide)))
        have y25_12 : (fI D H25 11 a0 12).toInt = (fI D H23 11 a0 12).toInt := congrArg Int32.toInt (Pa.f P25 (ne_role ga0 g17 (by decide)))
        have y25_13 : (fI D H25 11 a0 13).toInt = (fI D H23 11 a0 13).toInt := congrArg Int32.toInt (Pa.f P25 (ne_role ga0 g17 (by decide)))
        have y25_16 : (fI D H25 11 a0 16).toInt = (fI D H23 11 a0 16).toInt := congrArg Int32.toInt (Pa.f P25 (ne_role ga0 g17 (by decide)))
        have rs25 : 0 ≤ (fI D H23 11 a0 16).toInt ∧ (fI D H23 11 a0 16).toInt ≤ 400 := S23.1.rng ga0 rfl (by decide) rfl
        have tk25 : Lr D s.heap H25 a0 x1.toInt.toNat := tk23.trans (Lr.ast S23.1 ga0 P25 ((S12.2.1.fR ga0 rfl (by decide) (by decide +kernel)).trans (S23.2.1.fR ga0 rfl (by decide) (by decide +kernel)).symm) ⟨by omega, by omega⟩ (by omega))
        refine lv_aload_n hx hb dX12_readLawLine_94 rfl (lv_at hl 1 rfl) ?_
        refine q_gr (T := TX12) C S25.1 ga0 1 kF_X12_13 dX12_readLawLine_95 rfl rfl (by decide) rfl (by decide) rfl (fun g26 => ?_)
        refine lv_iload_n hx hb dX12_readLawLine_98 rfl (lv_at hl 0 rfl) ?_
        refine lv_iconst (v := 1) hx hb dX12_readLawLine_99 (by decide) ?_
        refine lv_iadd hx hb dX12_readLawLine_100 ?_
        refine lv_topi (fun v27 ev27 => ?_)
        have f28 : v27.toInt = v3.toInt + (1 : Int32).toInt := by rw [ev27]; exact i_add (by omega) (by omega)
        have n29 : aN H25 (fR D H25 11 a0 1) = 2052 := len_31 S25.1 g26
        refine q_iald C S25.1 g26 (by omega) (by omega) dX12_readLawLine_101 rfl (by decide) ?_
        refine lv_topi (fun v30 ev30 => ?_)
        refine lv_if_ge (tgt := 107) hx hb dX12_readLawLine_102 (by decide) (fun c31 => ?_) (fun c31 => ?_)
        · have b31 : (0 : Int32).toInt ≤ v30.toInt := i_le.mp c31
          refine lv_aload_n hx hb dX12_readLawLine_107 rfl (lv_at hl 1 rfl) ?_
          refine q_gr (T := TX12) C S25.1 ga0 1 kF_X12_13 dX12_readLawLine_108 rfl rfl (by decide) rfl (by decide) rfl (fun g32 => ?_)
          refine lv_iload_n hx hb dX12_readLawLine_111 rfl (lv_at hl 0 rfl) ?_
          refine lv_iconst (v := 2) hx hb dX12_readLawLine_112 (by decide) ?_
          have k_2 : (2 : Int32).toInt = 2 := by decide
          refine lv_iadd hx hb dX12_readLawLine_113 ?_
          refine lv_topi (fun v33 ev33 => ?_)
          have f34 : v33.toInt = v3.toInt + (2 : Int32).toInt := by rw [ev33]; exact i_add (by omega) (by omega)
          refine lv_aload_n hx hb dX12_readLawLine_114 rfl (lv_at hl 1 rfl) ?_
          refine q_gi (T := TX12) C S25.1 ga0 16 kF_X12_182 dX12_readLawLine_115 rfl rfl (by decide) rfl (by decide) rfl ?_
          have r35 : 0 ≤ (fI D H25 11 a0 16).toInt ∧ (fI D H25 11 a0 16).toInt ≤ 400 := S25.1.rng ga0 rfl (by decide) rfl
          refine q_iast C S25 g32 (by omega) (by omega) dX12_readLawLine_118 rfl (by decide) (by decide +kernel) (fun _ _ h => wk_high _ _ (by omega) h) (fun H36 L36 S36 P36 => ?_)
          have y36_10 : (fI D H36 11 a0 10).toInt = (fI D H25 11 a0 10).toInt := congrArg Int32.toInt (Pa.f P36 (ne_role ga0 g32 (by decide)))
          have y36_12 : (fI D H36 11 a0 12).toInt = (fI D H25 11 a0 12).toInt := congrArg Int32.toInt (Pa.f P36 (ne_role ga0 g32 (by decide)))
          have y36_13 : (fI D H36 11 a0 13).toInt = (fI D H25 11 a0 13).toInt := congrArg Int32.toInt (Pa.f P36 (ne_role ga0 g32 (by decide)))
          have y36_16 : (fI D H36 11 a0 16).toInt = (fI D H25 11 a0 16).toInt := congrArg Int32.toInt (Pa.f P36 (ne_role ga0 g32 (by decide)))
          have rs36 : 0 ≤ (fI D H25 11 a0 16).toInt ∧ (fI D H25 11 a0 16).toInt ≤ 400 := S25.1.rng ga0 rfl (by decide) rfl
          have tk36 : Lr D s.heap H36 a0 x1.toInt.toNat := tk25.trans (Lr.ast S25.1 ga0 P36 rfl ⟨by omega, by omega⟩ (by omega))
          have zb36 : (eI H36 (fR D H36 11 a0 1) (1206 + 4 * x1.toInt.toNat)).toInt = (fI D H25 11 a0 16).toInt := congrArg Int32.toInt (eS S25.1 ga0 P36 rfl (by omega) (by omega))
          refine lv_aload_n hx hb dX12_readLawLine_119 rfl (lv_at hl 1 rfl) ?_
          refine lv_iconst (v := 0) hx hb dX12_readLawLine_120 (by decide) ?_
          refine q_put (T := TX12) C S36 ga0 13 kF_X12_197 dX12_readLawLine_121 rfl rfl (by decide) (by decide) rfl rfl rfl rfl rfl (vok_i rfl (by omega) (by omega)) (by decide +kernel) (fun H37 L37 S37 P37 => ?_)
          have y37_10 : (fI D H37 11 a0 10).toInt = (fI D H36 11 a0 10).toInt := congrArg Int32.toInt (Pt.o P37 (by decide) (by decide))
          have y37_12 : (fI D H37 11 a0 12).toInt = (fI D H36 11 a0 12).toInt := congrArg Int32.toInt (Pt.o P37 (by decide) (by decide))
          have y37_13 : (fI D H37 11 a0 13).toInt = (0 : Int32).toInt := congrArg Int32.toInt (Pt.i P37)
          have y37_16 : (fI D H37 11 a0 16).toInt = (fI D H36 11 a0 16).toInt := congrArg Int32.toInt (Pt.o P37 (by decide) (by decide))
          have lq37 : Lq D H36 H37 a0 := Lq.put S36.1 ga0 P37 (by decide) (by decide)
          have tk37 : Lr D s.heap H37 a0 x1.toInt.toNat := tk36.trans (Lr.of lq37)
          refine lv_aload_n hx hb dX12_readLawLine_124 rfl (lv_at hl 1 rfl) ?_
          refine q_lds C ks_X12_227 dX12_readLawLine_125 (fun a38 ha38 => ?_)
          refine callV_Ei C S37 (c_X12_passes_w l D G a0 a38 2 ga0 ha38) kV_X12_120 ga0 (trivial) (by decide +kernel) dX12_readLawLine_127 hl.1 rfl rfl (by decide) cd_X12_passes ⟨Nat.le_of_ble_eq_true rfl, Nat.le_of_ble_eq_true rfl, Nat.le_of_ble_eq_true rfl, Nat.le_of_ble_eq_true rfl, Nat.le_of_ble_eq_true rfl⟩ (fun v39 H39 L39 S39 K39 q39 => ?_)
          have y39_13 : (fI D H39 11 a0 13).toInt = (fI D H37 11 a0 13).toInt := congrArg Int32.toInt (K39.fI ga0 rfl (by decide) (by decide +kernel))
          have y39_16 : (fI D H39 11 a0 16).toInt = (fI D H37 11 a0 16).toInt := congrArg Int32.toInt (K39.fI ga0 rfl (by decide) (by decide +kernel))
          have lq39 : Lq D H37 H39 a0 := Lq.keep S37.1 ga0 K39 (by decide +kernel) (by decide +kernel) (by decide +kernel)
          have tk39 : Lr D s.heap H39 a0 x1.toInt.toNat := tk37.trans (Lr.of lq39)
          rcases q39 with q39 | q39
          · skip
            refine lv_if_eq (tgt := 142) hx hb dX12_readLawLine_130 (by decide) (fun c40 => ?_) (fun c40 => ?_)
            · have b40 : v39.toInt = (0 : Int32).toInt := i_eq.mp c40
              exact absurd b40 (by omega)
            · have b40 : ¬ v39.toInt = (0 : Int32).toInt := fun z9 => c40 (i_eq.mpr z9)
              refine lv_aload_n hx hb dX12_readLawLine_133 rfl (lv_at hl 1 rfl) ?_
              have rs9 : 0 ≤ (fI D H39 11 a0 16).toInt ∧ (fI D H39 11 a0 16).toInt ≤ 400 := S39.1.rng ga0 rfl (by decide) rfl
              have rp9 : 0 ≤ (fI D H39 11 a0 10).toInt ∧ (fI D H39 11 a0 10).toInt ≤ 400 := S39.1.rng ga0 rfl (by decide) rfl
              refine callV_Ei C S39 (c_X12_readCond_d0 l D G a0 ga0) kV_X12_200 ga0 (⟨by omega, by omega⟩) (by decide +kernel) dX12_readLawLine_134 hl.1 rfl rfl (by decide) cd_X12_readCond ⟨Nat.le_of_ble_eq_true rfl, Nat.le_of_ble_eq_true rfl, Nat.le_of_ble_eq_true rfl, Nat.le_of_ble_eq_true rfl, Nat.le_of_ble_eq_true rfl⟩ (fun v41 H41 L41 S41 K41 q41 => ?_)
              obtain ⟨q41, sa41, sx41, tq41⟩ := q41
              have lq41 : Lq D H39 H41 a0 := tq41
              have tk41 : Lr D s.heap H41 a0 x1.toInt.toNat := tk39.trans (Lr.of lq41)
              refine lv_if_ne (tgt := 142) hx hb dX12_readLawLine_137 (by decide) (fun c42 => ?_) (fun c42 => ?_)
              · have b42 : ¬ v41.toInt = (0 : Int32).toInt := fun z9 => c42 (i_eq.mpr z9)
                have rs9 : 0 ≤ (fI D H41 11 a0 16).toInt ∧ (fI D H41 11 a0 16).toInt ≤ 400 := S41.1.rng ga0 rfl (by decide) rfl
                have rp9 : 0 ≤ (fI D H41 11 a0 10).toInt ∧ (fI D H41 11 a0 10).toInt ≤ 400 := S41.1.rng ga0 rfl (by decide) rfl
                refine lv_aload_n hx hb dX12_readLawLine_142 rfl (lv_at hl 1 rfl) ?_
                refine q_gr (T := TX12) C S41.1 ga0 1 kF_X12_13 dX12_readLawLine_143 rfl rfl (by decide) rfl (by decide) rfl (fun g43 => ?_)
                refine lv_iload_n hx hb dX12_readLawLine_146 rfl (lv_at hl 0 rfl) ?_
                refine lv_iconst (v := 3) hx hb dX12_readLawLine_147 (by decide) ?_
                have k_3 : (3 : Int32).toInt = 3 := by decide
                refine lv_iadd hx hb dX12_readLawLine_148 ?_
                refine lv_topi (fun v44 ev44 => ?_)
                have f45 : v44.toInt = v3.toInt + (3 : Int32).toInt := by rw [ev44]; exact i_add (by omega) (by omega)
                refine lv_aload_n hx hb dX12_readLawLine_149 rfl (lv_at hl 1 rfl) ?_
                refine q_gi (T := TX12) C S41.1 ga0 16 kF_X12_182 dX12_readLawLine_150 rfl rfl (by decide) rfl (by decide) rfl ?_
                have r46 : 0 ≤ (fI D H41 11 a0 16).toInt ∧ (fI D H41 11 a0 16).toInt ≤ 400 := S41.1.rng ga0 rfl (by decide) rfl
                have n47 : aN H41 (fR D H41 11 a0 1) = 2052 := len_31 S41.1 g43
                refine q_iast C S41 g43 (by omega) (by omega) dX12_readLawLine_153 rfl (by decide) (by decide +kernel) (fun _ _ h => wk_high _ _ (by omega) h) (fun H48 L48 S48 P48 => ?_)
                have y48_10 : (fI D H48 11 a0 10).toInt = (fI D H41 11 a0 10).toInt := congrArg Int32.toInt (Pa.f P48 (ne_role ga0 g43 (by decide)))
                have y48_12 : (fI D H48 11 a0 12).toInt = (fI D H41 11 a0 12).toInt := congrArg Int32.toInt (Pa.f P48 (ne_role ga0 g43 (by decide)))
                have y48_13 : (fI D H48 11 a0 13).toInt = (fI D H41 11 a0 13).toInt := congrArg Int32.toInt (Pa.f P48 (ne_role ga0 g43 (by decide)))
                have y48_16 : (fI D H48 11 a0 16).toInt = (fI D H41 11 a0 16).toInt := congrArg Int32.toInt (Pa.f P48 (ne_role ga0 g43 (by decide)))
                have rs48 : 0 ≤ (fI D H41 11 a0 16).toInt ∧ (fI D H41 11 a0 16).toInt ≤ 400 := S41.1.rng ga0 rfl (by decide) rfl
                have tk48 : Lr D s.heap H48 a0 x1.toInt.toNat := tk41.trans (Lr.ast S41.1 ga0 P48 rfl ⟨by omega, by omega⟩ (by omega))
                refine lv_iconst (v := 1) hx hb dX12_readLawLine_154 (by decide) ?_
                exact retE_z hQ C S48 hr dX12_readLawLine_155 (z01 (by omega) (by omega)) (⟨by omega, fun _ => by omega, fun _ h9 => Dl.line (b := (fI D H25 11 a0 16).toInt.toNat) (e := (fI D H41 11 a0 16).toInt.toNat) h9 tk48 (by omega) rs0.1 (by show (eI H48 (fR D H48 11 a0 1) _).toInt = _; rw [eA S41.1 ga0 P48 (by omega) (by omega), show eI H41 (fR D H41 11 a0 1) (1206 + 4 * x1.toInt.toNat) = _ from ((lq37.trans lq39).trans lq41).2 _ (by omega)]; rw [zb36]; omega) (by show (eI H48 (fR D H48 11 a0 1) _).toInt = _; rw [eS S41.1 ga0 P48 rfl (by omega) (by omega)]; omega) (by have z9 := ((lq37.trans lq39).trans lq41).1; omega) (by show _ ≤ (fI D H48 11 a0 16).toInt; omega) (by have e9 : Ex (Cs D H41 a0) (fI D H25 11 a0 16).toInt.toNat (fI D H41 11 a0 16).toInt.toNat := (sx41 (by omega)).at (by omega) (by omega); exact e9.sk (fun k9 h9 => csA S41.1 ga0 P48 rfl (by omega) (by omega)))⟩)
              · have b42 : v41.toInt = (0 : Int32).toInt := i_eq.mp c42
                refine lv_iconst (v := 0) hx hb dX12_readLawLine_140 (by decide) ?_
                exact retE_z hQ C S41 hr dX12_readLawLine_141 (z01 (by omega) (by omega)) (⟨by omega, fun h9 => absurd h9 (by decide), fun h9 => absurd h9 (by decide)⟩)
          · skip
            refine lv_if_eq (tgt := 142) hx hb dX12_readLawLine_130 (by decide) (fun c49 => ?_) (fun c49 => ?_)
            · have b49 : v39.toInt = (0 : Int32).toInt := i_eq.mp c49
              have rs9 : 0 ≤ (fI D H39 11 a0 16).toInt ∧ (fI D H39 11 a0 16).toInt ≤ 400 := S39.1.rng ga0 rfl (by decide) rfl
              have rp9 : 0 ≤ (fI D H39 11 a0 10).toInt ∧ (fI D H39 11 a0 10).toInt ≤ 400 := S39.1.rng ga0 rfl (by decide) rfl
              refine lv_aload_n hx hb dX12_readLawLine_142 rfl (lv_at hl 1 rfl) ?_
              refine q_gr (T := TX12) C S39.1 ga0 1 kF_X12_13 dX12_readLawLine_143 rfl rfl (by decide) rfl (by decide) rfl (fun g50 => ?_)
              refine lv_iload_n hx hb dX12_readLawLine_146 rfl (lv_at hl 0 rfl) ?_
              refine lv_iconst (v := 3) hx hb dX12_readLawLine_147 (by decide) ?_
              have k_3 : (3 : Int32).toInt = 3 := by decide
              refine lv_iadd hx hb dX12_readLawLine_148 ?_
              refine lv_topi (fun v51 ev51 => ?_)
              have f52 : v51.toInt = v3.toInt + (3 : Int32).toInt := by rw [ev51]; exact i_add (by omega) (by omega)
              refine lv_aload_n hx hb dX12_readLawLine_149 rfl (lv_at hl 1 rfl) ?_
              refine q_gi (T := TX12) C S39.1 ga0 16 kF_X12_182 dX12_readLawLine_150 rfl rfl (by decide) rfl (by decide) rfl ?_
              have r53 : 0 ≤ (fI D H39 11 a0 16).toInt ∧ (fI D H39 11 a0 16).toInt ≤ 400 := S39.1.rng ga0 rfl (by decide) rfl
              have n54 : aN H39 (fR D H39 11 a0 1) = 2052 := len_31 S39.1 g50
              refine q_iast C S39 g50 (by omega) (by omega) dX12_readLawLine_153 rfl (by decide) (by decide +kernel) (fun _ _ h => wk_high _ _ (by omega) h) (fun H55 L55 S55 P55 => ?_)
              have y55_10 : (fI D H55 11 a0 10).toInt = (fI D H39 11 a0 10).toInt := congrArg Int32.toInt (Pa.f P55 (ne_role ga0 g50 (by decide)))
              have y55_12 : (fI D H55 11 a0 12).toInt = (fI D H39 11 a0 12).toInt := congrArg Int32.toInt (Pa.f P55 (ne_role ga0 g50 (by decide)))
              have y55_13 : (fI D H55 11 a0 13).toInt = (fI D H39 11 a0 13).toInt := congrArg Int32.toInt (Pa.f P55 (ne_role ga0 g50 (by decide)))
              have y55_16 : (fI D H55 11 a0 16).toInt = (fI D H39 11 a0 16).toInt := congrArg Int32.toInt (Pa.f P55 (ne_role ga0 g50 (by decide)))
              have rs55 : 0 ≤ (fI D H39 11 a0 16).toInt ∧ (fI D H39 11 a0 16).toInt ≤ 400 := S39.1.rng ga0 rfl (by decide) rfl
              have tk55 : Lr D s.heap H55 a0 x1.toInt.toNat := tk39.trans (Lr.ast S39.1 ga0 P55 rfl ⟨by omega, by omega⟩ (by omega))
              refine lv_iconst (v := 1) hx hb dX12_readLawLine_154 (by decide) ?_
              exact retE_z hQ C S55 hr dX12_readLawLine_155 (z01 (by omega) (by omega)) (⟨by omega, fun _ => by omega, fun _ h9 => Dl.line (b := (fI D H25 11 a0 16).toInt.toNat) (e := (fI D H39 11 a0 16).toInt.toNat) h9 tk55 (by omega) rs0.1 (by show (eI H55 (fR D H55 11 a0 1) _).toInt = _; rw [eA S39.1 ga0 P55 (by omega) (by omega), show eI H39 (fR D H39 11 a0 1) (1206 + 4 * x1.toInt.toNat) = _ from (lq37.trans lq39).2 _ (by omega)]; rw [zb36]; omega) (by show (eI H55 (fR D H55 11 a0 1) _).toInt = _; rw [eS S39.1 ga0 P55 rfl (by omega) (by omega)]; omega) (by have z9 := (lq37.trans lq39).1; omega) (by show _ ≤ (fI D H55 11 a0 16).toInt; omega) (by rw [show (fI D H39 11 a0 16).toInt.toNat - (fI D H25 11 a0 16).toInt.toNat = 0 by omega]; exact True.intro)⟩)
            · have b49 : ¬ v39.toInt = (0 : Int32).toInt := fun z9 => c49 (i_eq.mpr z9)
              exact absurd b49 (by omega)
        · have b31 : ¬ (0 : Int32).toInt ≤ v30.toInt := fun z9 => c31 (i_le.mpr z9)
          refine lv_iconst (v := 0) hx hb dX12_readLawLine_105 (by decide) ?_
          exact retE_z hQ C S25 hr dX12_readLawLine_106 (z01 (by omega) (by omega)) (⟨by omega, fun h9 => absurd h9 (by decide), fun h9 => absurd h9 (by decide)⟩)
      · have b22 : v21.toInt = (1 : Int32).toInt := i_eq.mp c22
        refine lv_iconst (v := 1) hx hb dX12_readLawLine_82 (by decide) ?_
        refine lv_goto (tgt := 93) hx hb dX12_readLawLine_83 (by decide) ?_
        refine q_iast C S12 g17 (by omega) (by omega) dX12_readLawLine_93 rfl (by decide) (by decide +kernel) (fun _ _ h => wk_high _ _ (by omega) h) (fun H56 L56 S56 P56 => ?_)
        have y56_10 : (fI D H56 11 a0 10).toInt = (fI D H12 11 a0 10).toInt := congrArg Int32.toInt (Pa.f P56 (ne_role ga0 g17 (by decide)))
        have y56_12 : (fI D H56 11 a0 12).toInt = (fI D H12 11 a0 12).toInt := congrArg Int32.toInt (Pa.f P56 (ne_role ga0 g17 (by decide)))
        have y56_13 : (fI D H56 11 a0 13).toInt = (fI D H12 11 a0 13).toInt := congrArg Int32.toInt (Pa.f P56 (ne_role ga0 g17 (by decide)))
        have y56_16 : (fI D H56 11 a0 16).toInt = (fI D H12 11 a0 16).toInt := congrArg Int32.toInt (Pa.f P56 (ne_role ga0 g17 (by decide)))
        have rs56 : 0 ≤ (fI D H12 11 a0 16).toInt ∧ (fI D H12 11 a0 16).toInt ≤ 400 := S12.1.rng ga0 rfl (by decide) rfl
        have tk56 : Lr D s.heap H56 a0 x1.toInt.toNat := tk12.trans (Lr.ast S12.1 ga0 P56 rfl ⟨by omega, by omega⟩ (by omega))
        refine lv_aload_n hx hb dX12_readLawLine_94 rfl (lv_at hl 1 rfl) ?_
        refine q_gr (T := TX12) C S56.1 ga0 1 kF_X12_13 dX12_readLawLine_95 rfl rfl (by decide) rfl (by decide) rfl (fun g57 => ?_)
        refine lv_iload_n hx hb dX12_readLawLine_98 rfl (lv_at hl 0 rfl) ?_
        refine lv_iconst (v := 1) hx hb dX12_readLawLine_99 (by decide) ?_
        refine lv_iadd hx hb dX12_readLawLine_100 ?_
        refine lv_topi (fun v58 ev58 => ?_)
        have f59 : v58.toInt = v3.toInt + (1 : Int32).toInt := by rw [ev58]; exact i_add (by omega) (by omega)
        have n60 : aN H56 (fR D H56 11 a0 1) = 2052 := len_31 S56.1 g57
        refine q_iald C S56.1 g57 (by omega) (by omega) dX12_readLawLine_101 rfl (by decide) ?_
        refine lv_topi (fun v61 ev61 => ?_)
        refine lv_if_ge (tgt := 107) hx hb dX12_readLawLine_102 (by decide) (fun c62 => ?_) (fun c62 => ?_)
        · have b62 : (0 : Int32).toInt ≤ v61.toInt := i_le.mp c62
          refine lv_aload_n hx hb dX12_readLawLine_107 rfl (lv_at hl 1 rfl) ?_
          refine q_gr (T := TX12) C S56.1 ga0 1 kF_X12_13 dX12_readLawLine_108 rfl rfl (by decide) rfl (by decide) rfl (fun g63 => ?_)
          refine lv_iload_n hx hb dX12_readLawLine_111 rfl (lv_at hl 0 rfl) ?_
          refine lv_iconst (v := 2) hx hb dX12_readLawLine_112 (by decide) ?_
          have k_2 : (2 : Int32).toInt = 2 := by decide
          refine lv_iadd hx hb dX12_readLawLine_113 ?_
          refine lv_topi (fun v64 ev64 => ?_)
          have f65 : v64.toInt = v3.toInt + (2 : Int32).toInt := by rw [ev64]; exact i_add (by omega) (by omega)
          refine lv_aload_n hx hb dX12_readLawLine_114 rfl (lv_at hl 1 rfl) ?_
          refine q_gi (T := TX12) C S56.1 ga0 16 kF_X12_182 dX12_readLawLine_115 rfl rfl (by decide) rfl (by decide) rfl ?_
          have r66 : 0 ≤ (fI D H56 11 a0 16).toInt ∧ (fI D H56 11 a0 16).toInt ≤ 400 := S56.1.rng ga0 rfl (by decide) rfl
          refine q_iast C S56 g63 (by omega) (by omega) dX12_readLawLine_118 rfl (by decide) (by decide +kernel) (fun _ _ h => wk_high _ _ (by omega) h) (fun H67 L67 S67 P67 => ?_)
          have y67_10 : (fI D H67 11 a0 10).toInt = (fI D H56 11 a0 10).toInt := congrArg Int32.toInt (Pa.f P67 (ne_role ga0 g63 (by decide)))
          have y67_12 : (fI D H67 11 a0 12).toInt = (fI D H56 11 a0 12).toInt := congrArg Int32.toInt (Pa.f P67 (ne_role ga0 g63 (by decide)))
          have y67_13 : (fI D H67 11 a0 13).toInt = (fI D H56 11 a0 13).toInt := congrArg Int32.toInt (Pa.f P67 (ne_role ga0 g63 (by decide)))
          have y67_16 : (fI D H67 11 a0 16).toInt = (fI D H56 11 a0 16).toInt := congrArg Int32.toInt (Pa.f P67 (ne_role ga0 g63 (by decide)))
          have rs67 : 0 ≤ (fI D H56 11 a0 16).toInt ∧ (fI D H56 11 a0 16).toInt ≤ 400 := S56.1.rng ga0 rfl (by decide) rfl
          have tk67 : Lr D s.heap H67 a0 x1.toInt.toNat := tk56.trans (Lr.ast S56.1 ga0 P67 rfl ⟨by omega, by omega⟩ (by omega))
          have zb67 : (eI H67 (fR D H67 11 a0 1) (1206 + 4 * x1.toInt.toNat)).toInt = (fI D H56 11 a0 16).toInt := congrArg Int32.toInt (eS S56.1 ga0 P67 rfl (by omega) (by omega))
          refine lv_aload_n hx hb dX12_readLawLine_119 rfl (lv_at hl 1 rfl) ?_
          refine lv_iconst (v := 0) hx hb dX12_readLawLine_120 (by decide) ?_
          refine q_put (T := TX12) C S67 ga0 13 kF_X12_197 dX12_readLawLine_121 rfl rfl (by decide) (by decide) rfl rfl rfl rfl rfl (vok_i rfl (by omega) (by omega)) (by decide +kernel) (fun H68 L68 S68 P68 => ?_)
          have y68_10 : (fI D H68 11 a0 10).toInt = (fI D H67 11 a0 10).toInt := congrArg Int32.toInt (Pt.o P68 (by decide) (by decide))
          have y68_12 : (fI D H68 11 a0 12).toInt = (fI D H67 11 a0 12).toInt := congrArg Int32.toInt (Pt.o P68 (by decide) (by decide))
          have y68_13 : (fI D H68 11 a0 13).toInt = (0 : Int32).toInt := congrArg Int32.toInt (Pt.i P68)
          have y68_16 : (fI D H68 11 a0 16).toInt = (fI D H67 11 a0 16).toInt := congrArg Int32.toInt (Pt.o P68 (by decide) (by decide))
          have lq68 : Lq D H67 H68 a0 := Lq.put S67.1 ga0 P68 (by decide) (by decide)
          have tk68 : Lr D s.heap H68 a0 x1.toInt.toNat := tk67.trans (Lr.of lq68)
          refine lv_aload_n hx hb dX12_readLawLine_124 rfl (lv_at hl 1 rfl) ?_
          refine q_lds C ks_X12_227 dX12_readLawLine_125 (fun a69 ha69 => ?_)
          refine callV_Ei C S68 (c_X12_passes_w l D G a0 a69 2 ga0 ha69) kV_X12_120 ga0 (trivial) (by decide +kernel) dX12_readLawLine_127 hl.1 rfl rfl (by decide) cd_X12_passes ⟨Nat.le_of_ble_eq_true rfl, Nat.le_of_ble_eq_true rfl, Nat.le_of_ble_eq_true rfl, Nat.le_of_ble_eq_true rfl, Nat.le_of_ble_eq_true rfl⟩ (fun v70 H70 L70 S70 K70 q70 => ?_)
          have y70_13 : (fI D H70 11 a0 13).toInt = (fI D H68 11 a0 13).toInt := congrArg Int32.toInt (K70.fI ga0 rfl (by decide) (by decide +kernel))
          have y70_16 : (fI D H70 11 a0 16).toInt = (fI D H68 11 a0 16).toInt := congrArg Int32.toInt (K70.fI ga0 rfl (by decide) (by decide +kernel))
          have lq70 : Lq D H68 H70 a0 := Lq.keep S68.1 ga0 K70 (by decide +kernel) (by decide +kernel) (by decide +kernel)
          have tk70 : Lr D s.heap H70 a0 x1.toInt.toNat := tk68.trans (Lr.of lq70)
          rcases q70 with q70 | q70
          · skip
            refine lv_if_eq (tgt := 142) hx hb dX12_readLawLine_130 (by decide) (fun c71 => ?_) (fun c71 => ?_)
            · have b71 : v70.toInt = (0 : Int32).toInt := i_eq.mp c71
              exact absurd b71 (by omega)
            · have b71 : ¬ v70.toInt = (0 : Int32).toInt := fun z9 => c71 (i_eq.mpr z9)
              refine lv_aload_n hx hb dX12_readLawLine_133 rfl (lv_at hl 1 rfl) ?_
              have rs9 : 0 ≤ (fI D H70 11 a0 16).toInt ∧ (fI D H70 11 a0 16).toInt ≤ 400 := S70.1.rng ga0 rfl (by decide) rfl
              have rp9 : 0 ≤ (fI D H70 11 a0 10).toInt ∧ (fI D H70 11 a0 10).toInt ≤ 400 := S70.1.rng ga0 rfl (by decide) rfl
              refine callV_Ei C S70 (c_X12_readCond_d0 l D G a0 ga0) kV_X12_200 ga0 (⟨by omega, by omega⟩) (by decide +kernel) dX12_readLawLine_134 hl.1 rfl rfl (by decide) cd_X12_readCond ⟨Nat.le_of_ble_eq_true rfl, Nat.le_of_ble_eq_true rfl, Nat.le_of_ble_eq_true rfl, Nat.le_of_ble_eq_true rfl, Nat.le_of_ble_eq_true rfl⟩ (fun v72 H72 L72 S72 K72 q72 => ?_)
              obtain ⟨q72, sa72, sx72, tq72⟩ := q72
              have lq72 : Lq D H70 H72 a0 := tq72
              have tk72 : Lr D s.heap H72 a0 x1.toInt.toNat := tk70.trans (Lr.of lq72)
              refine lv_if_ne (tgt := 142) hx hb dX12_readLawLine_137 (by decide) (fun c73 => ?_) (fun c73 => ?_)
              · have b73 : ¬ v72.toInt = (0 : Int32).toInt := fun z9 => c73 (i_eq.mpr z9)
                have rs9 : 0 ≤ (fI D H72 11 a0 16).toInt ∧ (fI D H72 11 a0 16).toInt ≤ 400 := S72.1.rng ga0 rfl (by decide) rfl
                have rp9 : 0 ≤ (fI D H72 11 a0 10).toInt ∧ (fI D H72 11 a0 10).toInt ≤ 400 := S72.1.rng ga0 rfl (by decide) rfl
                refine lv_aload_n hx hb dX12_readLawLine_142 rfl (lv_at hl 1 rfl) ?_
                refine q_gr (T := TX12) C S72.1 ga0 1 kF_X12_13 dX12_readLawLine_143 rfl rfl (by decide) rfl (by decide) rfl (fun g74 => ?_)
                refine lv_iload_n hx hb dX12_readLawLine_146 rfl (lv_at hl 0 rfl) ?_
                refine lv_iconst (v := 3) hx hb dX12_readLawLine_147 (by decide) ?_
                have k_3 : (3 : Int32).toInt = 3 := by decide
                refine lv_iadd hx hb dX12_readLawLine_148 ?_
                refine lv_topi (fun v75 ev75 => ?_)
                have f76 : v75.toInt = v3.toInt + (3 : Int32).toInt := by rw [ev75]; exact i_add (by omega) (by omega)
                refine lv_aload_n hx hb dX12_readLawLine_149 rfl (lv_at hl 1 rfl) ?_
                refine q_gi (T := TX12) C S72.1 ga0 16 kF_X12_182 dX12_readLawLine_150 rfl rfl (by decide) rfl (by decide) rfl ?_
                have r77 : 0 ≤ (fI D H72 11 a0 16).toInt ∧ (fI D H72 11 a0 16).toInt ≤ 400 := S72.1.rng ga0 rfl (by decide) rfl
                have n78 : aN H72 (fR D H72 11 a0 1) = 2052 := len_31 S72.1 g74
                refine q_iast C S72 g74 (by omega) (by omega) dX12_readLawLine_153 rfl (by decide) (by decide +kernel) (fun _ _ h => wk_high _ _ (by omega) h) (fun H79 L79 S79 P79 => ?_)
                have y79_10 : (fI D H79 11 a0 10).toInt = (fI D H72 11 a0 10).toInt := congrArg Int32.toInt (Pa.f P79 (ne_role ga0 g74 (by decide)))
                have y79_12 : (fI D H79 11 a0 12).toInt = (fI D H72 11 a0 12).toInt := congrArg Int32.toInt (Pa.f P79 (ne_role ga0 g74 (by decide)))
                have y79_13 : (fI D H79 11 a0 13).toInt = (fI D H72 11 a0 13).toInt := congrArg Int32.toInt (Pa.f P79 (ne_role ga0 g74 (by decide)))
                have y79_16 : (fI D H79 11 a0 16).toInt = (fI D H72 11 a0 16).toInt := congrArg Int32.toInt (Pa.f P79 (ne_role ga0 g74 (by decide)))
                have rs79 : 0 ≤ (fI D H72 11 a0 16).toInt ∧ (fI D H72 11 a0 16).toInt ≤ 400 := S72.1.rng ga0 rfl (by decide) rfl
                have tk79 : Lr D s.heap H79 a0 x1.toInt.toNat := tk72.trans (Lr.ast S72.1 ga0 P79 rfl ⟨by omega, by omega⟩ (by omega))
                refine lv_iconst (v := 1) hx hb dX12_readLawLine_154 (by decide) ?_
                exact retE_z hQ C S79 hr dX12_readLawLine_155 (z01 (by omega) (by omega)) (⟨by omega, fun _ => by omega, fun _ h9 => Dl.line (b := (fI D H56 11 a0 16).toInt.toNat) (e := (fI D H72 11 a0 16).toInt.toNat) h9 tk79 (by omega) rs0.1 (by show (eI H79 (fR D H79 11 a0 1) _).toInt = _; rw [eA S72.1 ga0 P79 (by omega) (by omega), show eI H72 (fR D H72 11 a0 1) (1206 + 4 * x1.toInt.toNat) = _ from ((lq68.trans lq70).trans lq72).2 _ (by omega)]; rw [zb67]; omega) (by show (eI H79 (fR D H79 11 a0 1) _).toInt = _; rw [eS S72.1 ga0 P79 rfl (by omega) (by omega)]; omega) (by have z9 := ((lq68.trans lq70).trans lq72).1; omega) (by show _ ≤ (fI D H79 11 a0 16).toInt; omega) (by have e9 : Ex (Cs D H72 a0) (fI D H56 11 a0 16).toInt.toNat (fI D H72 11 a0 16).toInt.toNat := (sx72 (by omega)).at (by omega) (by omega); exact e9.sk (fun k9 h9 => csA S72.1 ga0 P79 rfl (by omega) (by omega)))⟩)
              · have b73 : v72.toInt = (0 : Int32).toInt := i_eq.mp c73
                refine lv_iconst (v := 0) hx hb dX12_readLawLine_140 (by decide) ?_
                exact retE_z hQ C S72 hr dX12_readLawLine_141 (z01 (by omega) (by omega)) (⟨by omega, fun h9 => absurd h9 (by decide), fun h9 => absurd h9 (by decide)⟩)
          · skip
            refine lv_if_eq (tgt := 142) hx hb dX12_readLawLine_130 (by decide) (fun c80 => ?_) (fun c80 => ?_)
            · have b80 : v70.toInt = (0 : Int32).toInt := i_eq.mp c80
              have rs9 : 0 ≤ (fI D H70 11 a0 16).toInt ∧ (fI D H70 11 a0 16).toInt ≤ 400 := S70.1.rng ga0 rfl (by decide) rfl
              have rp9 : 0 ≤ (fI D H70 11 a0 10).toInt ∧ (fI D H70 11 a0 10).toInt ≤ 400 := S70.1.rng ga0 rfl (by decide) rfl
              refine lv_aload_n hx hb dX12_readLawLine_142 rfl (lv_at hl 1 rfl) ?_
              refine q_gr (T := TX12) C S70.1 ga0 1 kF_X12_13 dX12_readLawLine_143 rfl rfl (by decide) rfl (by decide) rfl (fun g81 => ?_)
              refine lv_iload_n hx hb dX12_readLawLine_146 rfl (lv_at hl 0 rfl) ?_
              refine lv_iconst (v := 3) hx hb dX12_readLawLine_147 (by decide) ?_
              have k_3 : (3 : Int32).toInt = 3 := by decide
              refine lv_iadd hx hb dX12_readLawLine_148 ?_
              refine lv_topi (fun v82 ev82 => ?_)
              have f83 : v82.toInt = v3.toInt + (3 : Int32).toInt := by rw [ev82]; exact i_add (by omega) (by omega)
              refine lv_aload_n hx hb dX12_readLawLine_149 rfl (lv_at hl 1 rfl) ?_
              refine q_gi (T := TX12) C S70.1 ga0 16 kF_X12_182 dX12_readLawLine_150 rfl rfl (by decide) rfl (by decide) rfl ?_
              have r84 : 0 ≤ (fI D H70 11 a0 16).toInt ∧ (fI D H70 11 a0 16).toInt ≤ 400 := S70.1.rng ga0 rfl (by decide) rfl
              have n85 : aN H70 (fR D H70 11 a0 1) = 2052 := len_31 S70.1 g81
              refine q_iast C S70 g81 (by omega) (by omega) dX12_readLawLine_153 rfl (by decide) (by decide +kernel) (fun _ _ h => wk_high _ _ (by omega) h) (fun H86 L86 S86 P86 => ?_)
              have y86_10 : (fI D H86 11 a0 10).toInt = (fI D H70 11 a0 10).toInt := congrArg Int32.toInt (Pa.f P86 (ne_role ga0 g81 (by decide)))
              have y86_12 : (fI D H86 11 a0 12).toInt = (fI D H70 11 a0 12).toInt := congrArg Int32.toInt (Pa.f P86 (ne_role ga0 g81 (by decide)))
              have y86_13 : (fI D H86 11 a0 13).toInt = (fI D H70 11 a0 13).toInt := congrArg Int32.toInt (Pa.f P86 (ne_role ga0 g81 (by decide)))
              have y86_16 : (fI D H86 11 a0 16).toInt = (fI D H70 11 a0 16).toInt := congrArg Int32.toInt (Pa.f P86 (ne_role ga0 g81 (by decide)))
              have rs86 : 0 ≤ (fI D H70 11 a0 16).toInt ∧ (fI D H70 11 a0 16).toInt ≤ 400 := S70.1.rng ga0 rfl (by decide) rfl
              have tk86 : Lr D s.heap H86 a0 x1.toInt.toNat := tk70.trans (Lr.ast S70.1 ga0 P86 rfl ⟨by omega, by omega⟩ (by omega))
              refine lv_iconst (v := 1) hx hb dX12_readLawLine_154 (by decide) ?_
              exact retE_z hQ C S86 hr dX12_readLawLine_155 (z01 (by omega) (by omega)) (⟨by omega, fun _ => by omega, fun _ h9 => Dl.line (b := (fI D H56 11 a0 16).toInt.toNat) (e := (fI D H70 11 a0 16).toInt.toNat) h9 tk86 (by omega) rs0.1 (by show (eI H86 (fR D H86 11 a0 1) _).toInt = _; rw [eA S70.1 ga0 P86 (by omega) (by omega), show eI H70 (fR D H70 11 a0 1) (1206 + 4 * x1.toInt.toNat) = _ from (lq68.trans lq70).2 _ (by omega)]; rw [zb67]; omega) (by show (eI H86 (fR D H86 11 a0 1) _).toInt = _; rw [eS S70.1 ga0 P86 rfl (by omega) (by omega)]; omega) (by have z9 := (lq68.trans lq70).1; omega) (by show _ ≤ (fI D H86 11 a0 16).toInt; omega) (by rw [show (fI D H70 11 a0 16).toInt.toNat - (fI D H56 11 a0 16).toInt.toNat = 0 by omega]; exact True.intro)⟩)
            · have b80 : ¬ v70.toInt = (0 : Int32).toInt := fun z9 => c80 (i_eq.mpr z9)
              exact absurd b80 (by omega)
        · have b62 : ¬ (0 : Int32).toInt ≤ v61.toInt := fun z9 => c62 (i_le.mpr z9)
          refine lv_iconst (v := 0) hx hb dX12_readLawLine_105 (by decide) ?_
          exact retE_z hQ C S56 hr dX12_readLawLine_106 (z01 (by omega) (by omega)) (⟨by omega, fun h9 => absurd h9 (by decide), fun h9 => absurd h9 (by decide)⟩)
    · have b16 : ¬ (0 : Int32).toInt ≤ v15.toInt := fun z9 => c16 (i_le.mpr z9)
      refine lv_iconst (v := 0) hx hb dX12_readLawLine_63 (by decide) ?_
      exact retE_z hQ C S12 hr dX12_readLawLine_64 (z01 (by omega) (by omega)) (⟨by omega, fun h9 => absurd h9 (by decide), fun h9 => absurd h9 (by decide)⟩)
  have k_0 : (0 : Int32).toInt = 0 := by decide
  refine lv_if_eq (tgt := 26) hx hb dX12_readLawLine_19 (by decide) (fun c8 => ?_) (fun c8 => ?_)
  · have b8 : v7.toInt = (0 : Int32).toInt := i_eq.mp c8
    refine lv_aload_n hx hb dX12_readLawLine_26 rfl (lv_at hl 1 rfl) ?_
    refine q_lds C ks_X12_223 dX12_readLawLine_27 (fun a87 ha87 => ?_)
    refine callV_Pi C S.1 S.2.1.2.1 (c_X12_isWord_w l D G a0 a87 4 ga0 ha87) kV_X12_105 ga0 (trivial) dX12_readLawLine_29 hl.1 rfl rfl (by decide) cd_X12_isWord ⟨Nat.le_of_ble_eq_true rfl, Nat.le_of_ble_eq_true rfl, Nat.le_of_ble_eq_true rfl, Nat.le_of_ble_eq_true rfl, Nat.le_of_ble_eq_true rfl⟩ (fun v88 q88 => ?_)
    refine lv_if_eq (tgt := 39) hx hb dX12_readLawLine_32 (by decide) (fun c89 => ?_) (fun c89 => ?_)
    · have b89 : v88.toInt = (0 : Int32).toInt := i_eq.mp c89
      refine lv_aload_n hx hb dX12_readLawLine_39 rfl (lv_at hl 1 rfl) ?_
      refine q_lds C ks_X12_225 dX12_readLawLine_40 (fun a90 ha90 => ?_)
      refine callV_Pi C S.1 S.2.1.2.1 (c_X12_isWord_w l D G a0 a90 4 ga0 ha90) kV_X12_105 ga0 (trivial) dX12_readLawLine_42 hl.1 rfl rfl (by decide) cd_X12_isWord ⟨Nat.le_of_ble_eq_true rfl, Nat.le_of_ble_eq_true rfl, Nat.le_of_ble_eq_true rfl, Nat.le_of_ble_eq_true rfl, Nat.le_of_ble_eq_true rfl⟩ (fun v91 q91 => ?_)
      refine lv_if_eq (tgt := 52) hx hb dX12_readLawLine_45 (by decide) (fun c92 => ?_) (fun c92 => ?_)
      · have b92 : v91.toInt = (0 : Int32).toInt := i_eq.mp c92
        refine lv_iconst (v := -1) hx hb dX12_readLawLine_52 (by decide) ?_
        have k_m1 : (-1 : Int32).toInt = -1 := by decide
        exact J9 (-1 : Int32) (by omega) (by omega)
      · have b92 : ¬ v91.toInt = (0 : Int32).toInt := fun z9 => c92 (i_eq.mpr z9)
        refine lv_iconst (v := 2) hx hb dX12_readLawLine_48 (by decide) ?_
        refine lv_goto (tgt := 53) hx hb dX12_readLawLine_49 (by decide) ?_
        have k_2 : (2 : Int32).toInt = 2 := by decide
        exact J9 (2 : Int32) (by omega) (by omega)
    · have b89 : ¬ v88.toInt = (0 : Int32).toInt := fun z9 => c89 (i_eq.mpr z9)
      refine lv_iconst (v := 1) hx hb dX12_readLawLine_35 (by decide) ?_
      refine lv_goto (tgt := 53) hx hb dX12_readLawLine_36 (by decide) ?_
      have k_1 : (1 : Int32).toInt = 1 := by decide
      exact J9 (1 : Int32) (by omega) (by omega)
  · have b8 : ¬ v7.toInt = (0 : Int32).toInt := fun z9 => c8 (i_eq.mpr z9)
    refine lv_iconst (v := 0) hx hb dX12_readLawLine_22 (by decide) ?_
    refine lv_goto (tgt := 53) hx hb dX12_readLawLine_23 (by decide) ?_
    exact J9 (0 : Int32) (by omega) (by omega)
