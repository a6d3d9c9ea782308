set_option maxRecDepth 100000 in
set_option maxHeartbeats 4000000 in
theorem c_X12_emits (l : Launch) (D : DD) (G : Nat → Nat) (a0 : Nat) (x1 : Int32) (x2 : Int32) (ga0 : G a0 = 30) : CE l D G yX12_emits cX12_emits 3 none 0 [.ref a0, .int x1, .int x2] (fun H => (fI D H 11 a0 16).toInt ≤ 399) [(30, 16), (31, 0)] (xV (fun H H1 => (fI D H1 11 a0 16).toInt = (fI D H 11 a0 16).toInt + 1 ∧ Cs D H1 a0 (fI D H 11 a0 16).toInt.toNat = x1 ∧ Lq D H H1 a0)) := by
  refine enter (by decide) (Nat.le_of_ble_eq_true rfl) ?_
  intro p e s m args below meth c ls Q hA hQ C hr hO hpre hl
  have hx := C.1
  have hb := C.2.1
  have S : Sd D G [(30, 16), (31, 0)] s.heap s.heap [] := Sd.start hO
  have hl : lv_has ls 3 [(0, .ref a0), (1, .int x1), (2, .int x2)] := hl
  have rs0 : 0 ≤ (fI D s.heap 11 a0 16).toInt ∧ (fI D s.heap 11 a0 16).toInt ≤ 400 := hO.rng ga0 rfl (by decide) rfl
  refine lv_aload_n hx hb dX12_emits_0 rfl (lv_at hl 0 rfl) ?_
  refine q_gr (T := TX12) C S.1 ga0 1 kF_X12_13 dX12_emits_1 rfl rfl (by decide) rfl (by decide) rfl (fun g1 => ?_)
  refine lv_sipush (v := 1252) hx hb dX12_emits_4 (by decide) ?_
  refine lv_iconst (v := 2) hx hb dX12_emits_7 (by decide) ?_
  refine lv_aload_n hx hb dX12_emits_8 rfl (lv_at hl 0 rfl) ?_
  refine q_gi (T := TX12) C S.1 ga0 16 kF_X12_182 dX12_emits_9 rfl rfl (by decide) rfl (by decide) rfl ?_
  have r2 : 0 ≤ (fI D s.heap 11 a0 16).toInt ∧ (fI D s.heap 11 a0 16).toInt ≤ 400 := S.1.rng ga0 rfl (by decide) rfl
  have k_2 : (2 : Int32).toInt = 2 := by decide
  refine lv_imul hx hb dX12_emits_12 ?_
  refine lv_topi (fun v3 ev3 => ?_)
  have f4 : v3.toInt = (2) * (fI D s.heap 11 a0 16).toInt := by rw [ev3]; exact i_cmul k_2 (by omega) (by omega)
  have k_1252 : (1252 : Int32).toInt = 1252 := by decide
  refine lv_iadd hx hb dX12_emits_13 ?_
  refine lv_topi (fun v5 ev5 => ?_)
  have f6 : v5.toInt = (1252 : Int32).toInt + v3.toInt := by rw [ev5]; exact i_add (by omega) (by omega)
  refine lv_iload_n hx hb dX12_emits_14 rfl (lv_at hl 1 rfl) ?_
  have n7 : aN s.heap (fR D s.heap 11 a0 1) = 2052 := len_31 S.1 g1
  refine q_iast C S g1 (by omega) (by omega) dX12_emits_15 rfl (by decide) (by decide +kernel) (fun _ _ h => wk_high _ _ (by omega) h) (fun H8 L8 S8 P8 => ?_)
  have y8_16 : (fI D H8 11 a0 16).toInt = (fI D s.heap 11 a0 16).toInt := congrArg Int32.toInt (Pa.f P8 (ne_role ga0 g1 (by decide)))
  refine lv_aload_n hx hb dX12_emits_16 rfl (lv_at hl 0 rfl) ?_
  refine q_gr (T := TX12) C S8.1 ga0 1 kF_X12_13 dX12_emits_17 rfl rfl (by decide) rfl (by decide) rfl (fun g9 => ?_)
  refine lv_sipush (v := 1252) hx hb dX12_emits_20 (by decide) ?_
  refine lv_iconst (v := 2) hx hb dX12_emits_23 (by decide) ?_
  refine lv_aload_n hx hb dX12_emits_24 rfl (lv_at hl 0 rfl) ?_
  refine q_gi (T := TX12) C S8.1 ga0 16 kF_X12_182 dX12_emits_25 rfl rfl (by decide) rfl (by decide) rfl ?_
  have c10 : (fI D H8 11 a0 16).toInt = (fI D s.heap 11 a0 16).toInt := by rw [Pa.f P8 (ne_role ga0 g1 (by decide))]
  have r11 : 0 ≤ (fI D H8 11 a0 16).toInt ∧ (fI D H8 11 a0 16).toInt ≤ 400 := S8.1.rng ga0 rfl (by decide) rfl
  refine lv_imul hx hb dX12_emits_28 ?_
  refine lv_topi (fun v12 ev12 => ?_)
  have f13 : v12.toInt = (2) * (fI D H8 11 a0 16).toInt := by rw [ev12]; exact i_cmul k_2 (by omega) (by omega)
  refine lv_iadd hx hb dX12_emits_29 ?_
  refine lv_topi (fun v14 ev14 => ?_)
  have f15 : v14.toInt = (1252 : Int32).toInt + v12.toInt := by rw [ev14]; exact i_add (by omega) (by omega)
  refine lv_iconst (v := 1) hx hb dX12_emits_30 (by decide) ?_
  have k_1 : (1 : Int32).toInt = 1 := by decide
  refine lv_iadd hx hb dX12_emits_31 ?_
  refine lv_topi (fun v16 ev16 => ?_)
  have f17 : v16.toInt = v14.toInt + (1 : Int32).toInt := by rw [ev16]; exact i_add (by omega) (by omega)
  refine lv_iload_n hx hb dX12_emits_32 rfl (lv_at hl 2 rfl) ?_
  have n18 : aN H8 (fR D H8 11 a0 1) = 2052 := len_31 S8.1 g9
  refine q_iast C S8 g9 (by omega) (by omega) dX12_emits_33 rfl (by decide) (by decide +kernel) (fun _ _ h => wk_high _ _ (by omega) h) (fun H19 L19 S19 P19 => ?_)
  have y19_16 : (fI D H19 11 a0 16).toInt = (fI D H8 11 a0 16).toInt := congrArg Int32.toInt (Pa.f P19 (ne_role ga0 g9 (by decide)))
  refine lv_aload_n hx hb dX12_emits_34 rfl (lv_at hl 0 rfl) ?_
  refine lv_dup hx hb dX12_emits_35 rfl ?_
  refine q_gi (T := TX12) C S19.1 ga0 16 kF_X12_182 dX12_emits_36 rfl rfl (by decide) rfl (by decide) rfl ?_
  have c20 : (fI D H19 11 a0 16).toInt = (fI D H8 11 a0 16).toInt := by rw [Pa.f P19 (ne_role ga0 g9 (by decide))]
  have r21 : 0 ≤ (fI D H19 11 a0 16).toInt ∧ (fI D H19 11 a0 16).toInt ≤ 400 := S19.1.rng ga0 rfl (by decide) rfl
  refine lv_iconst (v := 1) hx hb dX12_emits_39 (by decide) ?_
  refine lv_iadd hx hb dX12_emits_40 ?_
  refine lv_topi (fun v22 ev22 => ?_)
  have f23 : v22.toInt = (fI D H19 11 a0 16).toInt + (1 : Int32).toInt := by rw [ev22]; exact i_add (by omega) (by omega)
  refine q_put (T := TX12) C S19 ga0 16 kF_X12_182 dX12_emits_41 rfl rfl (by decide) (by decide) rfl rfl rfl rfl rfl (vok_i rfl (by omega) (by omega)) (by decide +kernel) (fun H24 L24 S24 P24 => ?_)
  have y24_16 : (fI D H24 11 a0 16).toInt = v22.toInt := congrArg Int32.toInt (Pt.i P24)
  exact retE_v hQ C S24 hr dX12_emits_44 (by have z9 := Lq.emit hO S8.1 S19.1 ga0 P8 (by omega) (by omega) (by omega) P19 (by omega) P24 (by omega); exact z9)

set_option maxRecDepth 100000 in
set_option maxHeartbeats 4000000 in
theorem c_X12_readPart (l : Launch) (D : DD) (G : Nat → Nat) (a0 : Nat) (ga0 : G a0 = 30) : CE l D G yX12_readPart cX12_readPart 2 (some .boolean) 5 [.ref a0] (fun H => (fI D H 11 a0 16).toInt + 3 ≤ (fI D H 11 a0 10).toInt) [(30, 10), (30, 12), (30, 16), (31, 0)] (xI (fun H r H1 => (0 ≤ r.toInt ∧ r.toInt ≤ 1) ∧ (r.toInt = 1 → (fI D H1 11 a0 16).toInt - (fI D H 11 a0 16).toInt ≤ (fI D H1 11 a0 10).toInt - (fI D H 11 a0 10).toInt ∧ (fI D H1 11 a0 13).toInt = (fI D H 11 a0 13).toInt ∧ (fI D H 11 a0 10).toInt ≤ (fI D H1 11 a0 10).toInt) ∧ (r.toInt = 1 → Ex (Cs D H1 a0) (fI D H 11 a0 16).toInt.toNat (fI D H1 11 a0 16).toInt.toNat) ∧ Lq D H H1 a0)) := by
  refine enter (by decide) (Nat.le_of_ble_eq_true rfl) ?_
  intro p e s m args below meth c ls Q hA hQ C hr hO hpre hl
  have hx := C.1
  have hb := C.2.1
  have S : Sd D G [(30, 10), (30, 12), (30, 16), (31, 0)] s.heap s.heap [] := Sd.start hO
  have hl : lv_has ls 2 [(0, .ref a0)] := hl
  have rs0 : 0 ≤ (fI D s.heap 11 a0 16).toInt ∧ (fI D s.heap 11 a0 16).toInt ≤ 400 := hO.rng ga0 rfl (by decide) rfl
  have rp0 : 0 ≤ (fI D s.heap 11 a0 10).toInt ∧ (fI D s.heap 11 a0 10).toInt ≤ 400 := hO.rng ga0 rfl (by decide) rfl
  have tk0 : Lq D s.heap s.heap a0 := Lq.refl
  refine lv_aload_n hx hb dX12_readPart_0 rfl (lv_at hl 0 rfl) ?_
  refine callV_Ev C S (c_X12_letters_w l D G a0 ga0) kV_X12_102 ga0 (trivial) (by decide +kernel) dX12_readPart_1 hl.1 rfl rfl (by decide) cd_X12_letters ⟨Nat.le_of_ble_eq_true rfl, Nat.le_of_ble_eq_true rfl, Nat.le_of_ble_eq_true rfl, Nat.le_of_ble_eq_true rfl, Nat.le_of_ble_eq_true rfl⟩ (fun H1 L1 S1 K1 q1 => ?_)
  have y1_13 : (fI D H1 11 a0 13).toInt = (fI D s.heap 11 a0 13).toInt := congrArg Int32.toInt (K1.fI ga0 rfl (by decide) (by decide +kernel))
  have y1_16 : (fI D H1 11 a0 16).toInt = (fI D s.heap 11 a0 16).toInt := congrArg Int32.toInt (K1.fI ga0 rfl (by decide) (by decide +kernel))
  have lq1 : Lq D s.heap H1 a0 := Lq.keep S.1 ga0 K1 (by decide +kernel) (by decide +kernel) (by decide +kernel)
  have tk1 : Lq D s.heap H1 a0 := tk0.trans lq1
  refine lv_aload_n hx hb dX12_readPart_4 rfl (lv_at hl 0 rfl) ?_
  refine q_gi (T := TX12) C S1.1 ga0 10 kF_X12_78 dX12_readPart_5 rfl rfl (by decide) rfl (by decide) rfl ?_
  have r2 : 0 ≤ (fI D H1 11 a0 10).toInt ∧ (fI D H1 11 a0 10).toInt ≤ 400 := S1.1.rng ga0 rfl (by decide) rfl
  refine lv_aload_n hx hb dX12_readPart_8 rfl (lv_at hl 0 rfl) ?_
  refine q_gi (T := TX12) C S1.1 ga0 12 kF_X12_87 dX12_readPart_9 rfl rfl (by decide) rfl (by decide) rfl ?_
  have r3 : 0 ≤ (fI D H1 11 a0 12).toInt ∧ (fI D H1 11 a0 12).toInt ≤ 400 := S1.1.rng ga0 rfl (by decide) rfl
  refine lv_icmp_ne (tgt := 34) hx hb dX12_readPart_12 (by decide) (fun c4 => ?_) (fun c4 => ?_)
  · have b4 : ¬ (fI D H1 11 a0 10).toInt = (fI D H1 11 a0 12).toInt := fun z9 => c4 (i_eq.mpr z9)
    refine lv_aload_n hx hb dX12_readPart_34 rfl (lv_at hl 0 rfl) ?_
    refine q_lds C ks_X12_153 dX12_readPart_35 (fun a5 ha5 => ?_)
    refine callV_Pi C S1.1 S1.2.1.2.1 (c_X12_isWord_w l D G a0 a5 5 ga0 ha5) kV_X12_105 ga0 (trivial) dX12_readPart_37 hl.1 rfl rfl (by decide) cd_X12_isWord ⟨Nat.le_of_ble_eq_true rfl, Nat.le_of_ble_eq_true rfl, Nat.le_of_ble_eq_true rfl, Nat.le_of_ble_eq_true rfl, Nat.le_of_ble_eq_true rfl⟩ (fun v6 q6 => ?_)
    have k_0 : (0 : Int32).toInt = 0 := by decide
    refine lv_if_eq (tgt := 47) hx hb dX12_readPart_40 (by decide) (fun c7 => ?_) (fun c7 => ?_)
    · have b7 : v6.toInt = (0 : Int32).toInt := i_eq.mp c7
      refine lv_aload_n hx hb dX12_readPart_47 rfl (lv_at hl 0 rfl) ?_
      refine q_lds C ks_X12_147 dX12_readPart_48 (fun a8 ha8 => ?_)
      refine callV_Pi C S1.1 S1.2.1.2.1 (c_X12_isWord_w l D G a0 a8 4 ga0 ha8) kV_X12_105 ga0 (trivial) dX12_readPart_50 hl.1 rfl rfl (by decide) cd_X12_isWord ⟨Nat.le_of_ble_eq_true rfl, Nat.le_of_ble_eq_true rfl, Nat.le_of_ble_eq_true rfl, Nat.le_of_ble_eq_true rfl, Nat.le_of_ble_eq_true rfl⟩ (fun v9 q9 => ?_)
      refine lv_if_eq (tgt := 60) hx hb dX12_readPart_53 (by decide) (fun c10 => ?_) (fun c10 => ?_)
      · have b10 : v9.toInt = (0 : Int32).toInt := i_eq.mp c10
        refine lv_aload_n hx hb dX12_readPart_60 rfl (lv_at hl 0 rfl) ?_
        refine q_lds C ks_X12_149 dX12_readPart_61 (fun a11 ha11 => ?_)
        refine callV_Pi C S1.1 S1.2.1.2.1 (c_X12_isWord_w l D G a0 a11 4 ga0 ha11) kV_X12_105 ga0 (trivial) dX12_readPart_63 hl.1 rfl rfl (by decide) cd_X12_isWord ⟨Nat.le_of_ble_eq_true rfl, Nat.le_of_ble_eq_true rfl, Nat.le_of_ble_eq_true rfl, Nat.le_of_ble_eq_true rfl, Nat.le_of_ble_eq_true rfl⟩ (fun v12 q12 => ?_)
        refine lv_if_eq (tgt := 73) hx hb dX12_readPart_66 (by decide) (fun c13 => ?_) (fun c13 => ?_)
        · have b13 : v12.toInt = (0 : Int32).toInt := i_eq.mp c13
          refine lv_aload_n hx hb dX12_readPart_73 rfl (lv_at hl 0 rfl) ?_
          refine q_lds C ks_X12_189 dX12_readPart_74 (fun a14 ha14 => ?_)
          refine callV_Pi C S1.1 S1.2.1.2.1 (c_X12_isWord_w l D G a0 a14 7 ga0 ha14) kV_X12_105 ga0 (trivial) dX12_readPart_76 hl.1 rfl rfl (by decide) cd_X12_isWord ⟨Nat.le_of_ble_eq_true rfl, Nat.le_of_ble_eq_true rfl, Nat.le_of_ble_eq_true rfl, Nat.le_of_ble_eq_true rfl, Nat.le_of_ble_eq_true rfl⟩ (fun v15 q15 => ?_)
          refine lv_if_eq (tgt := 86) hx hb dX12_readPart_79 (by decide) (fun c16 => ?_) (fun c16 => ?_)
          · have b16 : v15.toInt = (0 : Int32).toInt := i_eq.mp c16
            refine lv_aload_n hx hb dX12_readPart_86 rfl (lv_at hl 0 rfl) ?_
            refine q_lds C ks_X12_112 dX12_readPart_87 (fun a17 ha17 => ?_)
            refine callV_Pi C S1.1 S1.2.1.2.1 (c_X12_isWord_w l D G a0 a17 7 ga0 ha17) kV_X12_105 ga0 (trivial) dX12_readPart_89 hl.1 rfl rfl (by decide) cd_X12_isWord ⟨Nat.le_of_ble_eq_true rfl, Nat.le_of_ble_eq_true rfl, Nat.le_of_ble_eq_true rfl, Nat.le_of_ble_eq_true rfl, Nat.le_of_ble_eq_true rfl⟩ (fun v18 q18 => ?_)
            refine lv_if_eq (tgt := 99) hx hb dX12_readPart_92 (by decide) (fun c19 => ?_) (fun c19 => ?_)
            · have b19 : v18.toInt = (0 : Int32).toInt := i_eq.mp c19
              refine lv_aload_n hx hb dX12_readPart_99 rfl (lv_at hl 0 rfl) ?_
              refine q_lds C ks_X12_180 dX12_readPart_100 (fun a20 ha20 => ?_)
              refine callV_Pi C S1.1 S1.2.1.2.1 (c_X12_isWord_w l D G a0 a20 7 ga0 ha20) kV_X12_105 ga0 (trivial) dX12_readPart_102 hl.1 rfl rfl (by decide) cd_X12_isWord ⟨Nat.le_of_ble_eq_true rfl, Nat.le_of_ble_eq_true rfl, Nat.le_of_ble_eq_true rfl, Nat.le_of_ble_eq_true rfl, Nat.le_of_ble_eq_true rfl⟩ (fun v21 q21 => ?_)
              refine lv_if_eq (tgt := 112) hx hb dX12_readPart_105 (by decide) (fun c22 => ?_) (fun c22 => ?_)
              · have b22 : v21.toInt = (0 : Int32).toInt := i_eq.mp c22
                refine lv_iconst (v := -1) hx hb dX12_readPart_112 (by decide) ?_
                refine lv_istore_n (lv' := [(1, .int (-1 : Int32)), (0, .ref a0)]) hx hb dX12_readPart_113 rfl hl (by decide) rfl (fun ls hl => ?_)
                refine lv_aload_n hx hb dX12_readPart_114 rfl (lv_at hl 1 rfl) ?_
                refine lv_iload_n hx hb dX12_readPart_115 rfl (lv_at hl 0 rfl) ?_
                refine lv_iconst (v := 0) hx hb dX12_readPart_116 (by decide) ?_
                have rs9 : 0 ≤ (fI D H1 11 a0 16).toInt ∧ (fI D H1 11 a0 16).toInt ≤ 400 := S1.1.rng ga0 rfl (by decide) rfl
                have rp9 : 0 ≤ (fI D H1 11 a0 10).toInt ∧ (fI D H1 11 a0 10).toInt ≤ 400 := S1.1.rng ga0 rfl (by decide) rfl
                have k_m1 : (-1 : Int32).toInt = -1 := by decide
                refine callV_Ev C S1 (c_X12_emits l D G a0 (-1 : Int32) (0 : Int32) ga0) kV_X12_185 ga0 (by omega) (by decide +kernel) dX12_readPart_117 hl.1 rfl rfl (by decide) cd_X12_emits ⟨Nat.le_of_ble_eq_true rfl, Nat.le_of_ble_eq_true rfl, Nat.le_of_ble_eq_true rfl, Nat.le_of_ble_eq_true rfl, Nat.le_of_ble_eq_true rfl⟩ (fun H23 L23 S23 K23 q23 => ?_)
                obtain ⟨qa23, qb23, tq23⟩ := q23
                have y23_10 : (fI D H23 11 a0 10).toInt = (fI D H1 11 a0 10).toInt := congrArg Int32.toInt (K23.fI ga0 rfl (by decide) (by decide +kernel))
                have y23_12 : (fI D H23 11 a0 12).toInt = (fI D H1 11 a0 12).toInt := congrArg Int32.toInt (K23.fI ga0 rfl (by decide) (by decide +kernel))
                have y23_13 : (fI D H23 11 a0 13).toInt = (fI D H1 11 a0 13).toInt := congrArg Int32.toInt (K23.fI ga0 rfl (by decide) (by decide +kernel))
                have lq23 : Lq D H1 H23 a0 := tq23
                have tk23 : Lq D s.heap H23 a0 := tk1.trans lq23
                refine lv_iload_n hx hb dX12_readPart_120 rfl (lv_at hl 0 rfl) ?_
                refine lv_if_lt (tgt := 128) hx hb dX12_readPart_121 (by decide) (fun c24 => ?_) (fun c24 => ?_)
                · have b24 : (-1 : Int32).toInt < (0 : Int32).toInt := i_lt.mp c24
                  refine lv_iconst (v := 0) hx hb dX12_readPart_128 (by decide) ?_
                  exact retE_z hQ C S23 hr dX12_readPart_129 (z01 (by omega) (by omega)) (⟨by omega, fun h9 => absurd h9 (by decide), fun h9 => absurd h9 (by decide), tk23⟩)
                · have b24 : ¬ (-1 : Int32).toInt < (0 : Int32).toInt := fun z9 => c24 (i_lt.mpr z9)
                  exact absurd b24 (by omega)
              · have b22 : ¬ v21.toInt = (0 : Int32).toInt := fun z9 => c22 (i_eq.mpr z9)
                refine lv_iconst (v := 5) hx hb dX12_readPart_108 (by decide) ?_
                refine lv_goto (tgt := 113) hx hb dX12_readPart_109 (by decide) ?_
                refine lv_istore_n (lv' := [(1, .int (5 : Int32)), (0, .ref a0)]) hx hb dX12_readPart_113 rfl hl (by decide) rfl (fun ls hl => ?_)
                refine lv_aload_n hx hb dX12_readPart_114 rfl (lv_at hl 1 rfl) ?_
                refine lv_iload_n hx hb dX12_readPart_115 rfl (lv_at hl 0 rfl) ?_
                refine lv_iconst (v := 0) hx hb dX12_readPart_116 (by decide) ?_
                have rs9 : 0 ≤ (fI D H1 11 a0 16).toInt ∧ (fI D H1 11 a0 16).toInt ≤ 400 := S1.1.rng ga0 rfl (by decide) rfl
                have rp9 : 0 ≤ (fI D H1 11 a0 10).toInt ∧ (fI D H1 11 a0 10).toInt ≤ 400 := S1.1.rng ga0 rfl (by decide) rfl
                have k_5 : (5 : Int32).toInt = 5 := by decide
                refine callV_Ev C S1 (c_X12_emits l D G a0 (5 : Int32) (0 : Int32) ga0) kV_X12_185 ga0 (by omega) (by decide +kernel) dX12_readPart_117 hl.1 rfl rfl (by decide) cd_X12_emits ⟨Nat.le_of_ble_eq_true rfl, Nat.le_of_ble_eq_true rfl, Nat.le_of_ble_eq_true rfl, Nat.le_of_ble_eq_true rfl, Nat.le_of_ble_eq_true rfl⟩ (fun H25 L25 S25 K25 q25 => ?_)
                obtain ⟨qa25, qb25, tq25⟩ := q25
                have y25_10 : (fI D H25 11 a0 10).toInt = (fI D H1 11 a0 10).toInt := congrArg Int32.toInt (K25.fI ga0 rfl (by decide) (by decide +kernel))
                have y25_12 : (fI D H25 11 a0 12).toInt = (fI D H1 11 a0 12).toInt := congrArg Int32.toInt (K25.fI ga0 rfl (by decide) (by decide +kernel))
                have y25_13 : (fI D H25 11 a0 13).toInt = (fI D H1 11 a0 13).toInt := congrArg Int32.toInt (K25.fI ga0 rfl (by decide) (by decide +kernel))
                have lq25 : Lq D H1 H25 a0 := tq25
                have tk25 : Lq D s.heap H25 a0 := tk1.trans lq25
                refine lv_iload_n hx hb dX12_readPart_120 rfl (lv_at hl 0 rfl) ?_
                refine lv_if_lt (tgt := 128) hx hb dX12_readPart_121 (by decide) (fun c26 => ?_) (fun c26 => ?_)
                · have b26 : (5 : Int32).toInt < (0 : Int32).toInt := i_lt.mp c26
                  exact absurd b26 (by omega)
                · have b26 : ¬ (5 : Int32).toInt < (0 : Int32).toInt := fun z9 => c26 (i_lt.mpr z9)
                  refine lv_iconst (v := 1) hx hb dX12_readPart_124 (by decide) ?_
                  refine lv_goto (tgt := 129) hx hb dX12_readPart_125 (by decide) ?_
                  have k_1 : (1 : Int32).toInt = 1 := by decide
                  exact retE_z hQ C S25 hr dX12_readPart_129 (z01 (by omega) (by omega)) (⟨by omega, fun _ => by omega, fun _ => (Ex.one (i := (fI D H1 11 a0 16).toInt.toNat) (by rw [qb25]; omega) rfl).at (by omega) (by omega), tk25⟩)
            · have b19 : ¬ v18.toInt = (0 : Int32).toInt := fun z9 => c19 (i_eq.mpr z9)
              refine lv_iconst (v := 4) hx hb dX12_readPart_95 (by decide) ?_
              refine lv_goto (tgt := 113) hx hb dX12_readPart_96 (by decide) ?_
              refine lv_istore_n (lv' := [(1, .int (4 : Int32)), (0, .ref a0)]) hx hb dX12_readPart_113 rfl hl (by decide) rfl (fun ls hl => ?_)
              refine lv_aload_n hx hb dX12_readPart_114 rfl (lv_at hl 1 rfl) ?_
              refine lv_iload_n hx hb dX12_readPart_115 rfl (lv_at hl 0 rfl) ?_
              refine lv_iconst (v := 0) hx hb dX12_readPart_116 (by decide) ?_
              have rs9 : 0 ≤ (fI D H1 11 a0 16).toInt ∧ (fI D H1 11 a0 16).toInt ≤ 400 := S1.1.rng ga0 rfl (by decide) rfl
              have rp9 : 0 ≤ (fI D H1 11 a0 10).toInt ∧ (fI D H1 11 a0 10).toInt ≤ 400 := S1.1.rng ga0 rfl (by decide) rfl
              have k_4 : (4 : Int32).toInt = 4 := by decide
              refine callV_Ev C S1 (c_X12_emits l D G a0 (4 : Int32) (0 : Int32) ga0) kV_X12_185 ga0 (by omega) (by decide +kernel) dX12_readPart_117 hl.1 rfl rfl (by decide) cd_X12_emits ⟨Nat.le_of_ble_eq_true rfl, Nat.le_of_ble_eq_true rfl, Nat.le_of_ble_eq_true rfl, Nat.le_of_ble_eq_true rfl, Nat.le_of_ble_eq_true rfl⟩ (fun H27 L27 S27 K27 q27 => ?_)
              obtain ⟨qa27, qb27, tq27⟩ := q27
              have y27_10 : (fI D H27 11 a0 10).toInt = (fI D H1 11 a0 10).toInt := congrArg Int32.toInt (K27.fI ga0 rfl (by decide) (by decide +kernel))
              have y27_12 : (fI D H27 11 a0 12).toInt = (fI D H1 11 a0 12).toInt := congrArg Int32.toInt (K27.fI ga0 rfl (by decide) (by decide +kernel))
              have y27_13 : (fI D H27 11 a0 13).toInt = (fI D H1 11 a0 13).toInt := congrArg Int32.toInt (K27.fI ga0 rfl (by decide) (by decide +kernel))
              have lq27 : Lq D H1 H27 a0 := tq27
              have tk27 : Lq D s.heap H27 a0 := tk1.trans lq27
              refine lv_iload_n hx hb dX12_readPart_120 rfl (lv_at hl 0 rfl) ?_
              refine lv_if_lt (tgt := 128) hx hb dX12_readPart_121 (by decide) (fun c28 => ?_) (fun c28 => ?_)
              · have b28 : (4 : Int32).toInt < (0 : Int32).toInt := i_lt.mp c28
                exact absurd b28 (by omega)
              · have b28 : ¬ (4 : Int32).toInt < (0 : Int32).toInt := fun z9 => c28 (i_lt.mpr z9)
                refine lv_iconst (v := 1) hx hb dX12_readPart_124 (by decide) ?_
                refine lv_goto (tgt := 129) hx hb dX12_readPart_125 (by decide) ?_
                have k_1 : (1 : Int32).toInt = 1 := by decide
                exact retE_z hQ C S27 hr dX12_readPart_129 (z01 (by omega) (by omega)) (⟨by omega, fun _ => by omega, fun _ => (Ex.one (i := (fI D H1 11 a0 16).toInt.toNat) (by rw [qb27]; omega) rfl).at (by omega) (by omega), tk27⟩)
          · have b16 : ¬ v15.toInt = (0 : Int32).toInt := fun z9 => c16 (i_eq.mpr z9)
            refine lv_iconst (v := 3) hx hb dX12_readPart_82 (by decide) ?_
            refine lv_goto (tgt := 113) hx hb dX12_readPart_83 (by decide) ?_
            refine lv_istore_n (lv' := [(1, .int (3 : Int32)), (0, .ref a0)]) hx hb dX12_readPart_113 rfl hl (by decide) rfl (fun ls hl => ?_)
            refine lv_aload_n hx hb dX12_readPart_114 rfl (lv_at hl 1 rfl) ?_
            refine lv_iload_n hx hb dX12_readPart_115 rfl (lv_at hl 0 rfl) ?_
            refine lv_iconst (v := 0) hx hb dX12_readPart_116 (by decide) ?_
            have rs9 : 0 ≤ (fI D H1 11 a0 16).toInt ∧ (fI D H1 11 a0 16).toInt ≤ 400 := S1.1.rng ga0 rfl (by decide) rfl
            have rp9 : 0 ≤ (fI D H1 11 a0 10).toInt ∧ (fI D H1 11 a0 10).toInt ≤ 400 := S1.1.rng ga0 rfl (by decide) rfl
            have k_3 : (3 : Int32).toInt = 3 := by decide
            refine callV_Ev C S1 (c_X12_emits l D G a0 (3 : Int32) (0 : Int32) ga0) kV_X12_185 ga0 (by omega) (by decide +kernel) dX12_readPart_117 hl.1 rfl rfl (by decide) cd_X12_emits ⟨Nat.le_of_ble_eq_true rfl, Nat.le_of_ble_eq_true rfl, Nat.le_of_ble_eq_true rfl, Nat.le_of_ble_eq_true rfl, Nat.le_of_ble_eq_true rfl⟩ (fun H29 L29 S29 K29 q29 => ?_)
            obtain ⟨qa29, qb29, tq29⟩ := q29
            have y29_10 : (fI D H29 11 a0 10).toInt = (fI D H1 11 a0 10).toInt := congrArg Int32.toInt (K29.fI ga0 rfl (by decide) (by decide +kernel))
            have y29_12 : (fI D H29 11 a0 12).toInt = (fI D H1 11 a0 12).toInt := congrArg Int32.toInt (K29.fI ga0 rfl (by decide) (by decide +kernel))
            have y29_13 : (fI D H29 11 a0 13).toInt = (fI D H1 11 a0 13).toInt := congrArg Int32.toInt (K29.fI ga0 rfl (by decide) (by decide +kernel))
            have lq29 : Lq D H1 H29 a0 := tq29
            have tk29 : Lq D s.heap H29 a0 := tk1.trans lq29
            refine lv_iload_n hx hb dX12_readPart_120 rfl (lv_at hl 0 rfl) ?_
            refine lv_if_lt (tgt := 128) hx hb dX12_readPart_121 (by decide) (fun c30 => ?_) (fun c30 => ?_)
            · have b30 : (3 : Int32).toInt < (0 : Int32).toInt := i_lt.mp c30
              exact absurd b30 (by omega)
            · have b30 : ¬ (3 : Int32).toInt < (0 : Int32).toInt := fun z9 => c30 (i_lt.mpr z9)
              refine lv_iconst (v := 1) hx hb dX12_readPart_124 (by decide) ?_
              refine lv_goto (tgt := 129) hx hb dX12_readPart_125 (by decide) ?_
              have k_1 : (1 : Int32).toInt = 1 := by decide
              exact retE_z hQ C S29 hr dX12_readPart_129 (z01 (by omega) (by omega)) (⟨by omega, fun _ => by omega, fun _ => (Ex.one (i := (fI D H1 11 a0 16).toInt.toNat) (by rw [qb29]; omega) rfl).at (by omega) (by omega), tk29⟩)
        · have b13 : ¬ v12.toInt = (0 : Int32).toInt := fun z9 => c13 (i_eq.mpr z9)
          refine lv_iconst (v := 2) hx hb dX12_readPart_69 (by decide) ?_
          refine lv_goto (tgt := 113) hx hb dX12_readPart_70 (by decide) ?_
          refine lv_istore_n (lv' := [(1, .int (2 : Int32)), (0, .ref a0)]) hx hb dX12_readPart_113 rfl hl (by decide) rfl (fun ls hl => ?_)
          refine lv_aload_n hx hb dX12_readPart_114 rfl (lv_at hl 1 rfl) ?_
          refine lv_iload_n hx hb dX12_readPart_115 rfl (lv_at hl 0 rfl) ?_
          refine lv_iconst (v := 0) hx hb dX12_readPart_116 (by decide) ?_
          have rs9 : 0 ≤ (fI D H1 11 a0 16).toInt ∧ (fI D H1 11 a0 16).toInt ≤ 400 := S1.1.rng ga0 rfl (by decide) rfl
          have rp9 : 0 ≤ (fI D H1 11 a0 10).toInt ∧ (fI D H1 11 a0 10).toInt ≤ 400 := S1.1.rng ga0 rfl (by decide) rfl
          have k_2 : (2 : Int32).toInt = 2 := by decide
          refine callV_Ev C S1 (c_X12_emits l D G a0 (2 : Int32) (0 : Int32) ga0) kV_X12_185 ga0 (by omega) (by decide +kernel) dX12_readPart_117 hl.1 rfl rfl (by decide) cd_X12_emits ⟨Nat.le_of_ble_eq_true rfl, Nat.le_of_ble_eq_true rfl, Nat.le_of_ble_eq_true rfl, Nat.le_of_ble_eq_true rfl, Nat.le_of_ble_eq_true rfl⟩ (fun H31 L31 S31 K31 q31 => ?_)
          obtain ⟨qa31, qb31, tq31⟩ := q31
          have y31_10 : (fI D H31 11 a0 10).toInt = (fI D H1 11 a0 10).toInt := congrArg Int32.toInt (K31.fI ga0 rfl (by decide) (by decide +kernel))
          have y31_12 : (fI D H31 11 a0 12).toInt = (fI D H1 11 a0 12).toInt := congrArg Int32.toInt (K31.fI ga0 rfl (by decide) (by decide +kernel))
          have y31_13 : (fI D H31 11 a0 13).toInt = (fI D H1 11 a0 13).toInt := congrArg Int32.toInt (K31.fI ga0 rfl (by decide) (by decide +kernel))
          have lq31 : Lq D H1 H31 a0 := tq31
          have tk31 : Lq D s.heap H31 a0 := tk1.trans lq31
          refine lv_iload_n hx hb dX12_readPart_120 rfl (lv_at hl 0 rfl) ?_
          refine lv_if_lt (tgt := 128) hx hb dX12_readPart_121 (by decide) (fun c32 => ?_) (fun c32 => ?_)
          · have b32 : (2 : Int32).toInt < (0 : Int32).toInt := i_lt.mp c32
            exact absurd b32 (by omega)
          · have b32 : ¬ (2 : Int32).toInt < (0 : Int32).toInt := fun z9 => c32 (i_lt.mpr z9)
            refine lv_iconst (v := 1) hx hb dX12_readPart_124 (by decide) ?_
            refine lv_goto (tgt := 129) hx hb dX12_readPart_125 (by decide) ?_
            have k_1 : (1 : Int32).toInt = 1 := by decide
            exact retE_z hQ C S31 hr dX12_readPart_129 (z01 (by omega) (by omega)) (⟨by omega, fun _ => by omega, fun _ => (Ex.one (i := (fI D H1 11 a0 16).toInt.toNat) (by rw [qb31]; omega) rfl).at (by omega) (by omega), tk31⟩)
      · have b10 : ¬ v9.toInt = (0 : Int32).toInt := fun z9 => c10 (i_eq.mpr z9)
        refine lv_iconst (v := 1) hx hb dX12_readPart_56 (by decide) ?_
        refine lv_goto (tgt := 113) hx hb dX12_readPart_57 (by decide) ?_
        refine lv_istore_n (lv' := [(1, .int (1 : Int32)), (0, .ref a0)]) hx hb dX12_readPart_113 rfl hl (by decide) rfl (fun ls hl => ?_)
        refine lv_aload_n hx hb dX12_readPart_114 rfl (lv_at hl 1 rfl) ?_
        refine lv_iload_n hx hb dX12_readPart_115 rfl (lv_at hl 0 rfl) ?_
        refine lv_iconst (v := 0) hx hb dX12_readPart_116 (by decide) ?_
        have rs9 : 0 ≤ (fI D H1 11 a0 16).toInt ∧ (fI D H1 11 a0 16).toInt ≤ 400 := S1.1.rng ga0 rfl (by decide) rfl
        have rp9 : 0 ≤ (fI D H1 11 a0 10).toInt ∧ (fI D H1 11 a0 10).toInt ≤ 400 := S1.1.rng ga0 rfl (by decide) rfl
        have k_1 : (1 : Int32).toInt = 1 := by decide
        refine callV_Ev C S1 (c_X12_emits l D G a0 (1 : Int32) (0 : Int32) ga0) kV_X12_185 ga0 (by omega) (by decide +kernel) dX12_readPart_117 hl.1 rfl rfl (by decide) cd_X12_emits ⟨Nat.le_of_ble_eq_true rfl, Nat.le_of_ble_eq_true rfl, Nat.le_of_ble_eq_true rfl, Nat.le_of_ble_eq_true rfl, Nat.le_of_ble_eq_true rfl⟩ (fun H33 L33 S33 K33 q33 => ?_)
        obtain ⟨qa33, qb33, tq33⟩ := q33
        have y33_10 : (fI D H33 11 a0 10).toInt = (fI D H1 11 a0 10).toInt := congrArg Int32.toInt (K33.fI ga0 rfl (by decide) (by decide +kernel))
        have y33_12 : (fI D H33 11 a0 12).toInt = (fI D H1 11 a0 12).toInt := congrArg Int32.toInt (K33.fI ga0 rfl (by decide) (by decide +kernel))
        have y33_13 : (fI D H33 11 a0 13).toInt = (fI D H1 11 a0 13).toInt := congrArg Int32.toInt (K33.fI ga0 rfl (by decide) (by decide +kernel))
        have lq33 : Lq D H1 H33 a0 := tq33
        have tk33 : Lq D s.heap H33 a0 := tk1.trans lq33
        refine lv_iload_n hx hb dX12_readPart_120 rfl (lv_at hl 0 rfl) ?_
        refine lv_if_lt (tgt := 128) hx hb dX12_readPart_121 (by decide) (fun c34 => ?_) (fun c34 => ?_)
        · have b34 : (1 : Int32).toInt < (0 : Int32).toInt := i_lt.mp c34
          exact absurd b34 (by omega)
        · have b34 : ¬ (1 : Int32).toInt < (0 : Int32).toInt := fun z9 => c34 (i_lt.mpr z9)
          refine lv_iconst (v := 1) hx hb dX12_readPart_124 (by decide) ?_
          refine lv_goto (tgt := 129) hx hb dX12_readPart_125 (by decide) ?_
          exact retE_z hQ C S33 hr dX12_readPart_129 (z01 (by omega) (by omega)) (⟨by omega, fun _ => by omega, fun _ => (Ex.one (i := (fI D H1 11 a0 16).toInt.toNat) (by rw [qb33]; omega) rfl).at (by omega) (by omega), tk33⟩)
    · have b7 : ¬ v6.toInt = (0 : Int32).toInt := fun z9 => c7 (i_eq.mpr z9)
      refine lv_iconst (v := 0) hx hb dX12_readPart_43 (by decide) ?_
      refine lv_goto (tgt := 113) hx hb dX12_readPart_44 (by decide) ?_
      refine lv_istore_n (lv' := [(1, .int (0 : Int32)), (0, .ref a0)]) hx hb dX12_readPart_113 rfl hl (by decide) rfl (fun ls hl => ?_)
      refine lv_aload_n hx hb dX12_readPart_114 rfl (lv_at hl 1 rfl) ?_
      refine lv_iload_n hx hb dX12_readPart_115 rfl (lv_at hl 0 rfl) ?_
      refine lv_iconst (v := 0) hx hb dX12_readPart_116 (by decide) ?_
      have rs9 : 0 ≤ (fI D H1 11 a0 16).toInt ∧ (fI D H1 11 a0 16).toInt ≤ 400 := S1.1.rng ga0 rfl (by decide) rfl
      have rp9 : 0 ≤ (fI D H1 11 a0 10).toInt ∧ (fI D H1 11 a0 10).toInt ≤ 400 := S1.1.rng ga0 rfl (by decide) rfl
      refine callV_Ev C S1 (c_X12_emits l D G a0 (0 : Int32) (0 : Int32) ga0) kV_X12_185 ga0 (by omega) (by decide +kernel) dX12_readPart_117 hl.1 rfl rfl (by decide) cd_X12_emits ⟨Nat.le_of_ble_eq_true rfl, Nat.le_of_ble_eq_true rfl, Nat.le_of_ble_eq_true rfl, Nat.le_of_ble_eq_true rfl, Nat.le_of_ble_eq_true rfl⟩ (fun H35 L35 S35 K35 q35 => ?_)
      obtain ⟨qa35, qb35, tq35⟩ := q35
      have y35_10 : (fI D H35 11 a0 10).toInt = (fI D H1 11 a0 10).toInt := congrArg Int32.toInt (K35.fI ga0 rfl (by decide) (by decide +kernel))
      have y35_12 : (fI D H35 11 a0 12).toInt = (fI D H1 11 a0 12).toInt := congrArg Int32.toInt (K35.fI ga0 rfl (by decide) (by decide +kernel))
      have y35_13 : (fI D H35 11 a0 13).toInt = (fI D H1 11 a0 13).toInt := congrArg Int32.toInt (K35.fI ga0 rfl (by decide) (by decide +kernel))
      have lq35 : Lq D H1 H35 a0 := tq35
      have tk35 : Lq D s.heap H35 a0 := tk1.trans lq35
      refine lv_iload_n hx hb dX12_readPart_120 rfl (lv_at hl 0 rfl) ?_
      refine lv_if_lt (tgt := 128) hx hb dX12_readPart_121 (by decide) (fun c36 => ?_) (fun c36 => ?_)
      · have b36 : (0 : Int32).toInt < (0 : Int32).toInt := i_lt.mp c36
        exact absurd b36 (by omega)
      · have b36 : ¬ (0 : Int32).toInt < (0 : Int32).toInt := fun z9 => c36 (i_lt.mpr z9)
        refine lv_iconst (v := 1) hx hb dX12_readPart_124 (by decide) ?_
        refine lv_goto (tgt := 129) hx hb dX12_readPart_125 (by decide) ?_
        have k_1 : (1 : Int32).toInt = 1 := by decide
        exact retE_z hQ C S35 hr dX12_readPart_129 (z01 (by omega) (by omega)) (⟨by omega, fun _ => by omega, fun _ => (Ex.one (i := (fI D H1 11 a0 16).toInt.toNat) (by rw [qb35]; omega) rfl).at (by omega) (by omega), tk35⟩)
  · have b4 : (fI D H1 11 a0 10).toInt = (fI D H1 11 a0 12).toInt := i_eq.mp c4
    refine lv_aload_n hx hb dX12_readPart_15 rfl (lv_at hl 0 rfl) ?_
    refine lv_iconst (v := 0) hx hb dX12_readPart_16 (by decide) ?_
    refine lv_sipush (v := 999) hx hb dX12_readPart_17 (by decide) ?_
    have k_0 : (0 : Int32).toInt = 0 := by decide
    have k_999 : (999 : Int32).toInt = 999 := by decide
    refine callV_Ei C S1 (c_X12_number_w l D G a0 (0 : Int32) (999 : Int32) ga0) kV_X12_109 ga0 (trivial) (by decide +kernel) dX12_readPart_20 hl.1 rfl rfl (by decide) cd_X12_number ⟨Nat.le_of_ble_eq_true rfl, Nat.le_of_ble_eq_true rfl, Nat.le_of_ble_eq_true rfl, Nat.le_of_ble_eq_true rfl, Nat.le_of_ble_eq_true rfl⟩ (fun v37 H37 L37 S37 K37 q37 => ?_)
    have y37_13 : (fI D H37 11 a0 13).toInt = (fI D H1 11 a0 13).toInt := congrArg Int32.toInt (K37.fI ga0 rfl (by decide) (by decide +kernel))
    have y37_16 : (fI D H37 11 a0 16).toInt = (fI D H1 11 a0 16).toInt := congrArg Int32.toInt (K37.fI ga0 rfl (by decide) (by decide +kernel))
    have lq37 : Lq D H1 H37 a0 := Lq.keep S1.1 ga0 K37 (by decide +kernel) (by decide +kernel) (by decide +kernel)
    have tk37 : Lq D s.heap H37 a0 := tk1.trans lq37
    refine lv_istore_n (lv' := [(1, .int v37), (0, .ref a0)]) hx hb dX12_readPart_23 rfl hl (by decide) rfl (fun ls hl => ?_)
    refine lv_aload_n hx hb dX12_readPart_24 rfl (lv_at hl 1 rfl) ?_
    refine lv_bipush (v := 11) hx hb dX12_readPart_25 (by decide) ?_
    refine lv_iload_n hx hb dX12_readPart_27 rfl (lv_at hl 0 rfl) ?_
    have rs9 : 0 ≤ (fI D H37 11 a0 16).toInt ∧ (fI D H37 11 a0 16).toInt ≤ 400 := S37.1.rng ga0 rfl (by decide) rfl
    have rp9 : 0 ≤ (fI D H37 11 a0 10).toInt ∧ (fI D H37 11 a0 10).toInt ≤ 400 := S37.1.rng ga0 rfl (by decide) rfl
    have k_11 : (11 : Int32).toInt = 11 := by decide
    refine callV_Ev C S37 (c_X12_emits l D G a0 (11 : Int32) v37 ga0) kV_X12_185 ga0 (by omega) (by decide +kernel) dX12_readPart_28 hl.1 rfl rfl (by decide) cd_X12_emits ⟨Nat.le_of_ble_eq_true rfl, Nat.le_of_ble_eq_true rfl, Nat.le_of_ble_eq_true rfl, Nat.le_of_ble_eq_true rfl, Nat.le_of_ble_eq_true rfl⟩ (fun H38 L38 S38 K38 q38 => ?_)
    obtain ⟨qa38, qb38, tq38⟩ := q38
    have y38_10 : (fI D H38 11 a0 10).toInt = (fI D H37 11 a0 10).toInt := congrArg Int32.toInt (K38.fI ga0 rfl (by decide) (by decide +kernel))
    have y38_12 : (fI D H38 11 a0 12).toInt = (fI D H37 11 a0 12).toInt := congrArg Int32.toInt (K38.fI ga0 rfl (by decide) (by decide +kernel))
    have y38_13 : (fI D H38 11 a0 13).toInt = (fI D H37 11 a0 13).toInt := congrArg Int32.toInt (K38.fI ga0 rfl (by decide) (by decide +kernel))
    have lq38 : Lq D H37 H38 a0 := tq38
    have tk38 : Lq D s.heap H38 a0 := tk37.trans lq38
    refine lv_goto (tgt := 120) hx hb dX12_readPart_31 (by decide) ?_
    refine lv_iload_n hx hb dX12_readPart_120 rfl (lv_at hl 0 rfl) ?_
    refine lv_if_lt (tgt := 128) hx hb dX12_readPart_121 (by decide) (fun c39 => ?_) (fun c39 => ?_)
    · have b39 : v37.toInt < (0 : Int32).toInt := i_lt.mp c39
      refine lv_iconst (v := 0) hx hb dX12_readPart_128 (by decide) ?_
      exact retE_z hQ C S38 hr dX12_readPart_129 (z01 (by omega) (by omega)) (⟨by omega, fun h9 => absurd h9 (by decide), fun h9 => absurd h9 (by decide), tk38⟩)
    · have b39 : ¬ v37.toInt < (0 : Int32).toInt := fun z9 => c39 (i_lt.mpr z9)
      refine lv_iconst (v := 1) hx hb dX12_readPart_124 (by decide) ?_
      refine lv_goto (tgt := 129) hx hb dX12_readPart_125 (by decide) ?_
      have k_1 : (1 : Int32).toInt = 1 := by decide
      exact retE_z hQ C S38 hr dX12_readPart_129 (z01 (by omega) (by omega)) (⟨by omega, fun _ => by omega, fun _ => (Ex.one (i := (fI D H37 11 a0 16).toInt.toNat) (by rw [qb38]; omega) rfl).at (by omega) (by omega), tk38⟩)

set_option maxRecDepth 100000 in
set_option maxHeartbeats 4000000 in
theorem c_X12_readSum (l : Launch) (D : DD) (G : Nat → Nat) (a0 : Nat) (ga0 : G a0 = 30) : CE l D G yX12_readSum cX12_readSum 1 (some .boolean) 6 [.ref a0] (fun H => (fI D H 11 a0 16).toInt + 3 ≤ (fI D H 11 a0 10).toInt) [(30, 10), (30, 12), (30, 16), (31, 0)] (xI (fun H r H1 => (0 ≤ r.toInt ∧ r.toInt ≤ 1) ∧ (r.toInt = 1 → (fI D H1 11 a0 16).toInt - (fI D H 11 a0 16).toInt ≤ (fI D H1 11 a0 10).toInt - (fI D H 11 a0 10).toInt ∧ (fI D H1 11 a0 13).toInt = (fI D H 11 a0 13).toInt ∧ (fI D H 11 a0 10).toInt ≤ (fI D H1 11 a0 10).toInt) ∧ (r.toInt = 1 → Ex (Cs D H1 a0) (fI D H 11 a0 16).toInt.toNat (fI D H1 11 a0 16).toInt.toNat) ∧ Lq D H H1 a0)) := by
  refine enter (by decide) (Nat.le_of_ble_eq_true rfl) ?_
  intro p e s m args below meth c ls Q hA hQ C hr hO hpre hl
  have hx := C.1
  have hb := C.2.1
  have S : Sd D G [(30, 10), (30, 12), (30, 16), (31, 0)] s.heap s.heap [] := Sd.start hO
  have hl : lv_has ls 1 [(0, .ref a0)] := hl
  have rs0 : 0 ≤ (fI D s.heap 11 a0 16).toInt ∧ (fI D s.heap 11 a0 16).toInt ≤ 400 := hO.rng ga0 rfl (by decide) rfl
  have rp0 : 0 ≤ (fI D s.heap 11 a0 10).toInt ∧ (fI D s.heap 11 a0 10).toInt ≤ 400 := hO.rng ga0 rfl (by decide) rfl
  have tk0 : Lq D s.heap s.heap a0 := Lq.refl
  refine lv_aload_n hx hb dX12_readSum_0 rfl (lv_at hl 0 rfl) ?_
  refine callV_Ei C S (c_X12_readPart l D G a0 ga0) kV_X12_190 ga0 (hpre) (by decide +kernel) dX12_readSum_1 hl.1 rfl rfl (by decide) cd_X12_readPart ⟨Nat.le_of_ble_eq_true rfl, Nat.le_of_ble_eq_true rfl, Nat.le_of_ble_eq_true rfl, Nat.le_of_ble_eq_true rfl, Nat.le_of_ble_eq_true rfl⟩ (fun v1 H1 L1 S1 K1 q1 => ?_)
  obtain ⟨q1, sa1, sx1, tq1⟩ := q1
  have y1_13 : (fI D H1 11 a0 13).toInt = (fI D s.heap 11 a0 13).toInt := congrArg Int32.toInt (K1.fI ga0 rfl (by decide) (by decide +kernel))
  have lq1 : Lq D s.heap H1 a0 := tq1
  have tk1 : Lq D s.heap H1 a0 := tk0.trans lq1
  have k_0 : (0 : Int32).toInt = 0 := by decide
  refine lv_if_ne (tgt := 9) hx hb dX12_readSum_4 (by decide) (fun c2 => ?_) (fun c2 => ?_)
  · have b2 : ¬ v1.toInt = (0 : Int32).toInt := fun z9 => c2 (i_eq.mpr z9)
    have Lp9 : ∀ (n : Nat)  (H_9 : Heap) (L_9 : List Loc) (ls : Array Slot), (Sd D G [(30, 10), (30, 12), (30, 16), (31, 0)] s.heap H_9 L_9) → (Ex (Cs D H_9 a0) (fI D s.heap 11 a0 16).toInt.toNat (fI D H_9 11 a0 16).toInt.toNat) → ((fI D H_9 11 a0 16).toInt - (fI D s.heap 11 a0 16).toInt ≤ (fI D H_9 11 a0 10).toInt - (fI D s.heap 11 a0 10).toInt ∧ (fI D H_9 11 a0 13).toInt = (fI D s.heap 11 a0 13).toInt ∧ (fI D s.heap 11 a0 10).toInt ≤ (fI D H_9 11 a0 10).toInt) → (Lq D s.heap H_9 a0) → 401 - (fI D H_9 11 a0 10).toInt ≤ (n : Int) → lv_has ls 1 [(0, .ref a0)] → W p l e (rmU 6 0 0) s m args below meth c H_9 L_9 0 0 Q (F0 m 9 ls []) := by
      intro n
      induction n with
      | zero =>
        intro H_9 L_9 ls S_9 u9_0 u9_1 u9_2 hn hl
        have rz : 0 ≤ (fI D H_9 11 a0 10).toInt ∧ (fI D H_9 11 a0 10).toInt ≤ 400 := S_9.1.rng ga0 rfl (by decide) rfl
        exact absurd hn (by omega)
      | succ n ih9 =>
        intro H_9 L_9 ls S_9 u9_0 u9_1 u9_2 hn hl
        have rs9 : 0 ≤ (fI D H_9 11 a0 16).toInt ∧ (fI D H_9 11 a0 16).toInt ≤ 400 := S_9.1.rng ga0 rfl (by decide) rfl
        have rp9 : 0 ≤ (fI D H_9 11 a0 10).toInt ∧ (fI D H_9 11 a0 10).toInt ≤ 400 := S_9.1.rng ga0 rfl (by decide) rfl
        refine lv_aload_n hx hb dX12_readSum_9 rfl (lv_at hl 0 rfl) ?_
        refine lv_bipush (v := 43) hx hb dX12_readSum_10 (by decide) ?_
        have k_43 : (43 : Int32).toInt = 43 := by decide
        refine callV_Ei C S_9 (c_X12_sign l D G a0 (43 : Int32) ga0) kV_X12_193 ga0 (trivial) (by decide +kernel) dX12_readSum_12 hl.1 rfl rfl (by decide) cd_X12_sign ⟨Nat.le_of_ble_eq_true rfl, Nat.le_of_ble_eq_true rfl, Nat.le_of_ble_eq_true rfl, Nat.le_of_ble_eq_true rfl, Nat.le_of_ble_eq_true rfl⟩ (fun v3 H3 L3 S3 K3 q3 => ?_)
        have y3_13 : (fI D H3 11 a0 13).toInt = (fI D H_9 11 a0 13).toInt := congrArg Int32.toInt (K3.fI ga0 rfl (by decide) (by decide +kernel))
        have y3_16 : (fI D H3 11 a0 16).toInt = (fI D H_9 11 a0 16).toInt := congrArg Int32.toInt (K3.fI ga0 rfl (by decide) (by decide +kernel))
        have lq3 : Lq D H_9 H3 a0 := Lq.keep S_9.1 ga0 K3 (by decide +kernel) (by decide +kernel) (by decide +kernel)
        have tk3 : Lq D s.heap H3 a0 := u9_2.trans lq3
        rcases q3 with q3 | q3
        · skip
          refine lv_if_eq (tgt := 37) hx hb dX12_readSum_15 (by decide) (fun c4 => ?_) (fun c4 => ?_)
          · have b4 : v3.toInt = (0 : Int32).toInt := i_eq.mp c4
            exact absurd b4 (by omega)
          · have b4 : ¬ v3.toInt = (0 : Int32).toInt := fun z9 => c4 (i_eq.mpr z9)
            refine lv_aload_n hx hb dX12_readSum_18 rfl (lv_at hl 0 rfl) ?_
            have rs9 : 0 ≤ (fI D H3 11 a0 16).toInt ∧ (fI D H3 11 a0 16).toInt ≤ 400 := S3.1.rng ga0 rfl (by decide) rfl
            have rp9 : 0 ≤ (fI D H3 11 a0 10).toInt ∧ (fI D H3 11 a0 10).toInt ≤ 400 := S3.1.rng ga0 rfl (by decide) rfl
            refine callV_Ei C S3 (c_X12_readPart l D G a0 ga0) kV_X12_190 ga0 (by omega) (by decide +kernel) dX12_readSum_19 hl.1 rfl rfl (by decide) cd_X12_readPart ⟨Nat.le_of_ble_eq_true rfl, Nat.le_of_ble_eq_true rfl, Nat.le_of_ble_eq_true rfl, Nat.le_of_ble_eq_true rfl, Nat.le_of_ble_eq_true rfl⟩ (fun v5 H5 L5 S5 K5 q5 => ?_)
            obtain ⟨q5, sa5, sx5, tq5⟩ := q5
            have y5_13 : (fI D H5 11 a0 13).toInt = (fI D H3 11 a0 13).toInt := congrArg Int32.toInt (K5.fI ga0 rfl (by decide) (by decide +kernel))
            have lq5 : Lq D H3 H5 a0 := tq5
            have tk5 : Lq D s.heap H5 a0 := tk3.trans lq5
            refine lv_if_ne (tgt := 27) hx hb dX12_readSum_22 (by decide) (fun c6 => ?_) (fun c6 => ?_)
            · have b6 : ¬ v5.toInt = (0 : Int32).toInt := fun z9 => c6 (i_eq.mpr z9)
              refine lv_aload_n hx hb dX12_readSum_27 rfl (lv_at hl 0 rfl) ?_
              refine lv_bipush (v := 12) hx hb dX12_readSum_28 (by decide) ?_
              refine lv_iconst (v := 0) hx hb dX12_readSum_30 (by decide) ?_
              have rs9 : 0 ≤ (fI D H5 11 a0 16).toInt ∧ (fI D H5 11 a0 16).toInt ≤ 400 := S5.1.rng ga0 rfl (by decide) rfl
              have rp9 : 0 ≤ (fI D H5 11 a0 10).toInt ∧ (fI D H5 11 a0 10).toInt ≤ 400 := S5.1.rng ga0 rfl (by decide) rfl
              have k_12 : (12 : Int32).toInt = 12 := by decide
              refine callV_Ev C S5 (c_X12_emits l D G a0 (12 : Int32) (0 : Int32) ga0) kV_X12_185 ga0 (by omega) (by decide +kernel) dX12_readSum_31 hl.1 rfl rfl (by decide) cd_X12_emits ⟨Nat.le_of_ble_eq_true rfl, Nat.le_of_ble_eq_true rfl, Nat.le_of_ble_eq_true rfl, Nat.le_of_ble_eq_true rfl, Nat.le_of_ble_eq_true rfl⟩ (fun H7 L7 S7 K7 q7 => ?_)
              obtain ⟨qa7, qb7, tq7⟩ := q7
              have y7_10 : (fI D H7 11 a0 10).toInt = (fI D H5 11 a0 10).toInt := congrArg Int32.toInt (K7.fI ga0 rfl (by decide) (by decide +kernel))
              have y7_12 : (fI D H7 11 a0 12).toInt = (fI D H5 11 a0 12).toInt := congrArg Int32.toInt (K7.fI ga0 rfl (by decide) (by decide +kernel))
              have y7_13 : (fI D H7 11 a0 13).toInt = (fI D H5 11 a0 13).toInt := congrArg Int32.toInt (K7.fI ga0 rfl (by decide) (by decide +kernel))
              have lq7 : Lq D H5 H7 a0 := tq7
              have tk7 : Lq D s.heap H7 a0 := tk5.trans lq7
              refine lv_goto (tgt := 9) hx hb dX12_readSum_34 (by decide) ?_
              have e9 : Ex (Cs D H7 a0) (fI D s.heap 11 a0 16).toInt.toNat (fI D H7 11 a0 16).toInt.toNat := (Ex.bin (((lq3.trans lq5).trans lq7).ex u9_0 (by omega)) ((lq7.ex (sx5 (by omega)) (by omega)).at (i' := (fI D H_9 11 a0 16).toInt.toNat) (by omega) rfl) (by rw [qb7]; decide) rfl).at (by omega) (by omega)
              exact ih9  H7 L7 ls S7 e9 (by omega) tk7 (by omega) (lv_sub hl [0] rfl)
            · have b6 : v5.toInt = (0 : Int32).toInt := i_eq.mp c6
              refine lv_iconst (v := 0) hx hb dX12_readSum_25 (by decide) ?_
              exact retE_z hQ C S5 hr dX12_readSum_26 (z01 (by omega) (by omega)) (⟨by omega, fun h9 => absurd h9 (by decide), fun h9 => absurd h9 (by decide), tk5⟩)
        · skip
          refine lv_if_eq (tgt := 37) hx hb dX12_readSum_15 (by decide) (fun c8 => ?_) (fun c8 => ?_)
          · have b8 : v3.toInt = (0 : Int32).toInt := i_eq.mp c8
            refine lv_iconst (v := 1) hx hb dX12_readSum_37 (by decide) ?_
            have k_1 : (1 : Int32).toInt = 1 := by decide
            exact retE_z hQ C S3 hr dX12_readSum_38 (z01 (by omega) (by omega)) (⟨by omega, fun _ => by omega, fun _ => (lq3.ex u9_0 (by omega)).at (by omega) (by omega), tk3⟩)
          · have b8 : ¬ v3.toInt = (0 : Int32).toInt := fun z9 => c8 (i_eq.mpr z9)
            exact absurd b8 (by omega)
    have ex0 := sx1 (by omega)
    have rn : 0 ≤ (fI D H1 11 a0 10).toInt ∧ (fI D H1 11 a0 10).toInt ≤ 400 := S1.1.rng ga0 rfl (by decide) rfl
    exact Lp9 402  H1 L1 ls S1 (ex0.at (by omega) rfl) (by omega) tk1  (by omega) (lv_sub hl [0] rfl)
  · have b2 : v1.toInt = (0 : Int32).toInt := i_eq.mp c2
    refine lv_iconst (v := 0) hx hb dX12_readSum_7 (by decide) ?_
    exact retE_z hQ C S1 hr dX12_readSum_8 (z01 (by omega) (by omega)) (⟨by omega, fun h9 => absurd h9 (by decide), fun h9 => absurd h9 (by decide), tk1⟩)

set_option maxRecDepth 100000 in
set_option maxHeartbeats 4000000 in
theorem c_X12_readTag (l : Launch) (D : DD) (G : Nat → Nat) (a0 : Nat) (ga0 : G a0 = 30) : CE l D G yX12_readTag cX12_readTag 2 (some .boolean) 5 [.ref a0] (fun H => (fI D H 11 a0 16).toInt + 3 ≤ (fI D H 11 a0 10).toInt) [(30, 10), (30, 12), (30, 16), (31, 0)] (xI (fun H r H1 => (0 ≤ r.toInt ∧ r.toInt ≤ 1) ∧ (r.toInt = 1 → (fI D H1 11 a0 16).toInt - (fI D H 11 a0 16).toInt ≤ (fI D H1 11 a0 10).toInt - (fI D H 11 a0 10).toInt ∧ (fI D H1 11 a0 13).toInt = (fI D H 11 a0 13).toInt ∧ (fI D H 11 a0 10).toInt ≤ (fI D H1 11 a0 10).toInt) ∧ (r.toInt = 1 → Ex (Cs D H1 a0) (fI D H 11 a0 16).toInt.toNat (fI D H1 11 a0 16).toInt.toNat) ∧ Lq D H H1 a0 ∧ (r.toInt = 0 → (fI D H1 11 a0 16).toInt = (fI D H 11 a0 16).toInt ∧ (fI D H1 11 a0 13).toInt = (fI D H 11 a0 13).toInt ∧ (fI D H 11 a0 10).toInt ≤ (fI D H1 11 a0 10).toInt))) := by
  refine enter (by decide) (Nat.le_of_ble_eq_true rfl) ?_
  intro p e s m args below meth c ls Q hA hQ C hr hO hpre hl
  have hx := C.1
  have hb := C.2.1
  have S : Sd D G [(30, 10), (30, 12), (30, 16), (31, 0)] s.heap s.heap [] := Sd.start hO
  have hl : lv_has ls 2 [(0, .ref a0)] := hl
  have rs0 : 0 ≤ (fI D s.heap 11 a0 16).toInt ∧ (fI D s.heap 11 a0 16).toInt ≤ 400 := hO.rng ga0 rfl (by decide) rfl
  have rp0 : 0 ≤ (fI D s.heap 11 a0 10).toInt ∧ (fI D s.heap 11 a0 10).toInt ≤ 400 := hO.rng ga0 rfl (by decide) rfl
  have tk0 : Lq D s.heap s.heap a0 := Lq.refl
  refine lv_aload_n hx hb dX12_readTag_0 rfl (lv_at hl 0 rfl) ?_
  refine callV_Ev C S (c_X12_letters_w l D G a0 ga0) kV_X12_102 ga0 (trivial) (by decide +kernel) dX12_readTag_1 hl.1 rfl rfl (by decide) cd_X12_letters ⟨Nat.le_of_ble_eq_true rfl, Nat.le_of_ble_eq_true rfl, Nat.le_of_ble_eq_true rfl, Nat.le_of_ble_eq_true rfl, Nat.le_of_ble_eq_true rfl⟩ (fun H1 L1 S1 K1 q1 => ?_)
  have y1_13 : (fI D H1 11 a0 13).toInt = (fI D s.heap 11 a0 13).toInt := congrArg Int32.toInt (K1.fI ga0 rfl (by decide) (by decide +kernel))
  have y1_16 : (fI D H1 11 a0 16).toInt = (fI D s.heap 11 a0 16).toInt := congrArg Int32.toInt (K1.fI ga0 rfl (by decide) (by decide +kernel))
  have lq1 : Lq D s.heap H1 a0 := Lq.keep S.1 ga0 K1 (by decide +kernel) (by decide +kernel) (by decide +kernel)
  have tk1 : Lq D s.heap H1 a0 := tk0.trans lq1
  refine lv_aload_n hx hb dX12_readTag_4 rfl (lv_at hl 0 rfl) ?_
  refine q_lds C ks_X12_118 dX12_readTag_5 (fun a2 ha2 => ?_)
  refine callV_Pi C S1.1 S1.2.1.2.1 (c_X12_isWord_w l D G a0 a2 5 ga0 ha2) kV_X12_105 ga0 (trivial) dX12_readTag_7 hl.1 rfl rfl (by decide) cd_X12_isWord ⟨Nat.le_of_ble_eq_true rfl, Nat.le_of_ble_eq_true rfl, Nat.le_of_ble_eq_true rfl, Nat.le_of_ble_eq_true rfl, Nat.le_of_ble_eq_true rfl⟩ (fun v3 q3 => ?_)
  have k_0 : (0 : Int32).toInt = 0 := by decide
  refine lv_if_eq (tgt := 18) hx hb dX12_readTag_10 (by decide) (fun c4 => ?_) (fun c4 => ?_)
  · have b4 : v3.toInt = (0 : Int32).toInt := i_eq.mp c4
    refine lv_aload_n hx hb dX12_readTag_18 rfl (lv_at hl 0 rfl) ?_
    refine q_lds C ks_X12_125 dX12_readTag_19 (fun a5 ha5 => ?_)
    refine callV_Pi C S1.1 S1.2.1.2.1 (c_X12_isWord_w l D G a0 a5 4 ga0 ha5) kV_X12_105 ga0 (trivial) dX12_readTag_21 hl.1 rfl rfl (by decide) cd_X12_isWord ⟨Nat.le_of_ble_eq_true rfl, Nat.le_of_ble_eq_true rfl, Nat.le_of_ble_eq_true rfl, Nat.le_of_ble_eq_true rfl, Nat.le_of_ble_eq_true rfl⟩ (fun v6 q6 => ?_)
    refine lv_if_eq (tgt := 32) hx hb dX12_readTag_24 (by decide) (fun c7 => ?_) (fun c7 => ?_)
    · have b7 : v6.toInt = (0 : Int32).toInt := i_eq.mp c7
      refine lv_aload_n hx hb dX12_readTag_32 rfl (lv_at hl 0 rfl) ?_
      refine q_lds C ks_X12_127 dX12_readTag_33 (fun a8 ha8 => ?_)
      refine callV_Pi C S1.1 S1.2.1.2.1 (c_X12_isWord_w l D G a0 a8 4 ga0 ha8) kV_X12_105 ga0 (trivial) dX12_readTag_35 hl.1 rfl rfl (by decide) cd_X12_isWord ⟨Nat.le_of_ble_eq_true rfl, Nat.le_of_ble_eq_true rfl, Nat.le_of_ble_eq_true rfl, Nat.le_of_ble_eq_true rfl, Nat.le_of_ble_eq_true rfl⟩ (fun v9 q9 => ?_)
      refine lv_if_eq (tgt := 46) hx hb dX12_readTag_38 (by decide) (fun c10 => ?_) (fun c10 => ?_)
      · have b10 : v9.toInt = (0 : Int32).toInt := i_eq.mp c10
        refine lv_aload_n hx hb dX12_readTag_46 rfl (lv_at hl 0 rfl) ?_
        refine q_lds C ks_X12_129 dX12_readTag_47 (fun a11 ha11 => ?_)
        refine callV_Pi C S1.1 S1.2.1.2.1 (c_X12_isWord_w l D G a0 a11 5 ga0 ha11) kV_X12_105 ga0 (trivial) dX12_readTag_49 hl.1 rfl rfl (by decide) cd_X12_isWord ⟨Nat.le_of_ble_eq_true rfl, Nat.le_of_ble_eq_true rfl, Nat.le_of_ble_eq_true rfl, Nat.le_of_ble_eq_true rfl, Nat.le_of_ble_eq_true rfl⟩ (fun v12 q12 => ?_)
        refine lv_if_eq (tgt := 60) hx hb dX12_readTag_52 (by decide) (fun c13 => ?_) (fun c13 => ?_)
        · have b13 : v12.toInt = (0 : Int32).toInt := i_eq.mp c13
          refine lv_aload_n hx hb dX12_readTag_60 rfl (lv_at hl 0 rfl) ?_
          refine q_lds C ks_X12_131 dX12_readTag_61 (fun a14 ha14 => ?_)
          refine callV_Pi C S1.1 S1.2.1.2.1 (c_X12_isWord_w l D G a0 a14 3 ga0 ha14) kV_X12_105 ga0 (trivial) dX12_readTag_63 hl.1 rfl rfl (by decide) cd_X12_isWord ⟨Nat.le_of_ble_eq_true rfl, Nat.le_of_ble_eq_true rfl, Nat.le_of_ble_eq_true rfl, Nat.le_of_ble_eq_true rfl, Nat.le_of_ble_eq_true rfl⟩ (fun v15 q15 => ?_)
          refine lv_if_eq (tgt := 74) hx hb dX12_readTag_66 (by decide) (fun c16 => ?_) (fun c16 => ?_)
          · have b16 : v15.toInt = (0 : Int32).toInt := i_eq.mp c16
            refine lv_iconst (v := -1) hx hb dX12_readTag_74 (by decide) ?_
            refine lv_istore_n (lv' := [(1, .int (-1 : Int32)), (0, .ref a0)]) hx hb dX12_readTag_75 rfl hl (by decide) rfl (fun ls hl => ?_)
            refine lv_iload_n hx hb dX12_readTag_76 rfl (lv_at hl 0 rfl) ?_
            have k_m1 : (-1 : Int32).toInt = -1 := by decide
            refine lv_if_lt (tgt := 89) hx hb dX12_readTag_77 (by decide) (fun c17 => ?_) (fun c17 => ?_)
            · have b17 : (-1 : Int32).toInt < (0 : Int32).toInt := i_lt.mp c17
              refine lv_aload_n hx hb dX12_readTag_89 rfl (lv_at hl 1 rfl) ?_
              refine lv_aload_n hx hb dX12_readTag_90 rfl (lv_at hl 1 rfl) ?_
              refine q_gi (T := TX12) C S1.1 ga0 12 kF_X12_87 dX12_readTag_91 rfl rfl (by decide) rfl (by decide) rfl ?_
              have r18 : 0 ≤ (fI D H1 11 a0 12).toInt ∧ (fI D H1 11 a0 12).toInt ≤ 400 := S1.1.rng ga0 rfl (by decide) rfl
              refine q_put (T := TX12) C S1 ga0 10 kF_X12_78 dX12_readTag_94 rfl rfl (by decide) (by decide) rfl rfl rfl rfl rfl (vok_i rfl (by omega) (by omega)) (by decide +kernel) (fun H19 L19 S19 P19 => ?_)
              have y19_10 : (fI D H19 11 a0 10).toInt = (fI D H1 11 a0 12).toInt := congrArg Int32.toInt (Pt.i P19)
              have y19_12 : (fI D H19 11 a0 12).toInt = (fI D H1 11 a0 12).toInt := congrArg Int32.toInt (Pt.o P19 (by decide) (by decide))
              have y19_13 : (fI D H19 11 a0 13).toInt = (fI D H1 11 a0 13).toInt := congrArg Int32.toInt (Pt.o P19 (by decide) (by decide))
              have y19_16 : (fI D H19 11 a0 16).toInt = (fI D H1 11 a0 16).toInt := congrArg Int32.toInt (Pt.o P19 (by decide) (by decide))
              have lq19 : Lq D H1 H19 a0 := Lq.put S1.1 ga0 P19 (by decide) (by decide)
              have tk19 : Lq D s.heap H19 a0 := tk1.trans lq19
              refine lv_iload_n hx hb dX12_readTag_97 rfl (lv_at hl 0 rfl) ?_
              refine lv_if_lt (tgt := 105) hx hb dX12_readTag_98 (by decide) (fun c20 => ?_) (fun c20 => ?_)
              · have b20 : (-1 : Int32).toInt < (0 : Int32).toInt := i_lt.mp c20
                refine lv_iconst (v := 0) hx hb dX12_readTag_105 (by decide) ?_
                exact retE_z hQ C S19 hr dX12_readTag_106 (z01 (by omega) (by omega)) (⟨by omega, fun h9 => absurd h9 (by decide), fun h9 => absurd h9 (by decide), tk19, fun _ => ⟨by omega, by omega, by omega⟩⟩)
              · have b20 : ¬ (-1 : Int32).toInt < (0 : Int32).toInt := fun z9 => c20 (i_lt.mpr z9)
                exact absurd b20 (by omega)
            · have b17 : ¬ (-1 : Int32).toInt < (0 : Int32).toInt := fun z9 => c17 (i_lt.mpr z9)
              exact absurd b17 (by omega)
          · have b16 : ¬ v15.toInt = (0 : Int32).toInt := fun z9 => c16 (i_eq.mpr z9)
            refine lv_bipush (v := 10) hx hb dX12_readTag_69 (by decide) ?_
            refine lv_goto (tgt := 75) hx hb dX12_readTag_71 (by decide) ?_
            refine lv_istore_n (lv' := [(1, .int (10 : Int32)), (0, .ref a0)]) hx hb dX12_readTag_75 rfl hl (by decide) rfl (fun ls hl => ?_)
            refine lv_iload_n hx hb dX12_readTag_76 rfl (lv_at hl 0 rfl) ?_
            have k_10 : (10 : Int32).toInt = 10 := by decide
            refine lv_if_lt (tgt := 89) hx hb dX12_readTag_77 (by decide) (fun c21 => ?_) (fun c21 => ?_)
            · have b21 : (10 : Int32).toInt < (0 : Int32).toInt := i_lt.mp c21
              exact absurd b21 (by omega)
            · have b21 : ¬ (10 : Int32).toInt < (0 : Int32).toInt := fun z9 => c21 (i_lt.mpr z9)
              refine lv_aload_n hx hb dX12_readTag_80 rfl (lv_at hl 1 rfl) ?_
              refine lv_iload_n hx hb dX12_readTag_81 rfl (lv_at hl 0 rfl) ?_
              refine lv_iconst (v := 0) hx hb dX12_readTag_82 (by decide) ?_
              have rs9 : 0 ≤ (fI D H1 11 a0 16).toInt ∧ (fI D H1 11 a0 16).toInt ≤ 400 := S1.1.rng ga0 rfl (by decide) rfl
              have rp9 : 0 ≤ (fI D H1 11 a0 10).toInt ∧ (fI D H1 11 a0 10).toInt ≤ 400 := S1.1.rng ga0 rfl (by decide) rfl
              refine callV_Ev C S1 (c_X12_emits l D G a0 (10 : Int32) (0 : Int32) ga0) kV_X12_185 ga0 (by omega) (by decide +kernel) dX12_readTag_83 hl.1 rfl rfl (by decide) cd_X12_emits ⟨Nat.le_of_ble_eq_true rfl, Nat.le_of_ble_eq_true rfl, Nat.le_of_ble_eq_true rfl, Nat.le_of_ble_eq_true rfl, Nat.le_of_ble_eq_true rfl⟩ (fun H22 L22 S22 K22 q22 => ?_)
              obtain ⟨qa22, qb22, tq22⟩ := q22
              have y22_10 : (fI D H22 11 a0 10).toInt = (fI D H1 11 a0 10).toInt := congrArg Int32.toInt (K22.fI ga0 rfl (by decide) (by decide +kernel))
              have y22_12 : (fI D H22 11 a0 12).toInt = (fI D H1 11 a0 12).toInt := congrArg Int32.toInt (K22.fI ga0 rfl (by decide) (by decide +kernel))
              have y22_13 : (fI D H22 11 a0 13).toInt = (fI D H1 11 a0 13).toInt := congrArg Int32.toInt (K22.fI ga0 rfl (by decide) (by decide +kernel))
              have lq22 : Lq D H1 H22 a0 := tq22
              have tk22 : Lq D s.heap H22 a0 := tk1.trans lq22
              refine lv_goto (tgt := 97) hx hb dX12_readTag_86 (by decide) ?_
              refine lv_iload_n hx hb dX12_readTag_97 rfl (lv_at hl 0 rfl) ?_
              refine lv_if_lt (tgt := 105) hx hb dX12_readTag_98 (by decide) (fun c23 => ?_) (fun c23 => ?_)
              · have b23 : (10 : Int32).toInt < (0 : Int32).toInt := i_lt.mp c23
                exact absurd b23 (by omega)
              · have b23 : ¬ (10 : Int32).toInt < (0 : Int32).toInt := fun z9 => c23 (i_lt.mpr z9)
                refine lv_iconst (v := 1) hx hb dX12_readTag_101 (by decide) ?_
                refine lv_goto (tgt := 106) hx hb dX12_readTag_102 (by decide) ?_
                have k_1 : (1 : Int32).toInt = 1 := by decide
                exact retE_z hQ C S22 hr dX12_readTag_106 (z01 (by omega) (by omega)) (⟨by omega, fun _ => by omega, fun _ => (Ex.one (i := (fI D H1 11 a0 16).toInt.toNat) (by rw [qb22]; omega) rfl).at (by omega) (by omega), tk22, fun h9 => absurd h9 (by decide)⟩)
        · have b13 : ¬ v12.toInt = (0 : Int32).toInt := fun z9 => c13 (i_eq.mpr z9)
          refine lv_bipush (v := 9) hx hb dX12_readTag_55 (by decide) ?_
          refine lv_goto (tgt := 75) hx hb dX12_readTag_57 (by decide) ?_
          refine lv_istore_n (lv' := [(1, .int (9 : Int32)), (0, .ref a0)]) hx hb dX12_readTag_75 rfl hl (by decide) rfl (fun ls hl => ?_)
          refine lv_iload_n hx hb dX12_readTag_76 rfl (lv_at hl 0 rfl) ?_
          have k_9 : (9 : Int32).toInt = 9 := by decide
          refine lv_if_lt (tgt := 89) hx hb dX12_readTag_77 (by decide) (fun c24 => ?_) (fun c24 => ?_)
          · have b24 : (9 : Int32).toInt < (0 : Int32).toInt := i_lt.mp c24
            exact absurd b24 (by omega)
          · have b24 : ¬ (9 : Int32).toInt < (0 : Int32).toInt := fun z9 => c24 (i_lt.mpr z9)
            refine lv_aload_n hx hb dX12_readTag_80 rfl (lv_at hl 1 rfl) ?_
            refine lv_iload_n hx hb dX12_readTag_81 rfl (lv_at hl 0 rfl) ?_
            refine lv_iconst (v := 0) hx hb dX12_readTag_82 (by decide) ?_
            have rs9 : 0 ≤ (fI D H1 11 a0 16).toInt ∧ (fI D H1 11 a0 16).toInt ≤ 400 := S1.1.rng ga0 rfl (by decide) rfl
            have rp9 : 0 ≤ (fI D H1 11 a0 10).toInt ∧ (fI D H1 11 a0 10).toInt ≤ 400 := S1.1.rng ga0 rfl (by decide) rfl
            refine callV_Ev C S1 (c_X12_emits l D G a0 (9 : Int32) (0 : Int32) ga0) kV_X12_185 ga0 (by omega) (by decide +kernel) dX12_readTag_83 hl.1 rfl rfl (by decide) cd_X12_emits ⟨Nat.le_of_ble_eq_true rfl, Nat.le_of_ble_eq_true rfl, Nat.le_of_ble_eq_true rfl, Nat.le_of_ble_eq_true rfl, Nat.le_of_ble_eq_true rfl⟩ (fun H25 L25 S25 K25 q25 => ?_)
            obtain ⟨qa25, qb25, tq25⟩ := q25
            have y25_10 : (fI D H25 11 a0 10).toInt = (fI D H1 11 a0 10).toInt := congrArg Int32.toInt (K25.fI ga0 rfl (by decide) (by decide +kernel))
            have y25_12 : (fI D H25 11 a0 12).toInt = (fI D H1 11 a0 12).toInt := congrArg Int32.toInt (K25.fI ga0 rfl (by decide) (by decide +kernel))
            have y25_13 : (fI D H25 11 a0 13).toInt = (fI D H1 11 a0 13).toInt := congrArg Int32.toInt (K25.fI ga0 rfl (by decide) (by decide +kernel))
            have lq25 : Lq D H1 H25 a0 := tq25
            have tk25 : Lq D s.heap H25 a0 := tk1.trans lq25
            refine lv_goto (tgt := 97) hx hb dX12_readTag_86 (by decide) ?_
            refine lv_iload_n hx hb dX12_readTag_97 rfl (lv_at hl 0 rfl) ?_
            refine lv_if_lt (tgt := 105) hx hb dX12_readTag_98 (by decide) (fun c26 => ?_) (fun c26 => ?_)
            · have b26 : (9 : Int32).toInt < (0 : Int32).toInt := i_lt.mp c26
              exact absurd b26 (by omega)
            · have b26 : ¬ (9 : Int32).toInt < (0 : Int32).toInt := fun z9 => c26 (i_lt.mpr z9)
              refine lv_iconst (v := 1) hx hb dX12_readTag_101 (by decide) ?_
              refine lv_goto (tgt := 106) hx hb dX12_readTag_102 (by decide) ?_
              have k_1 : (1 : Int32).toInt = 1 := by decide
              exact retE_z hQ C S25 hr dX12_readTag_106 (z01 (by omega) (by omega)) (⟨by omega, fun _ => by omega, fun _ => (Ex.one (i := (fI D H1 11 a0 16).toInt.toNat) (by rw [qb25]; omega) rfl).at (by omega) (by omega), tk25, fun h9 => absurd h9 (by decide)⟩)
      · have b10 : ¬ v9.toInt = (0 : Int32).toInt := fun z9 => c10 (i_eq.mpr z9)
        refine lv_bipush (v := 8) hx hb dX12_readTag_41 (by decide) ?_
        refine lv_goto (tgt := 75) hx hb dX12_readTag_43 (by decide) ?_
        refine lv_istore_n (lv' := [(1, .int (8 : Int32)), (0, .ref a0)]) hx hb dX12_readTag_75 rfl hl (by decide) rfl (fun ls hl => ?_)
        refine lv_iload_n hx hb dX12_readTag_76 rfl (lv_at hl 0 rfl) ?_
        have k_8 : (8 : Int32).toInt = 8 := by decide
        refine lv_if_lt (tgt := 89) hx hb dX12_readTag_77 (by decide) (fun c27 => ?_) (fun c27 => ?_)
        · have b27 : (8 : Int32).toInt < (0 : Int32).toInt := i_lt.mp c27
          exact absurd b27 (by omega)
        · have b27 : ¬ (8 : Int32).toInt < (0 : Int32).toInt := fun z9 => c27 (i_lt.mpr z9)
          refine lv_aload_n hx hb dX12_readTag_80 rfl (lv_at hl 1 rfl) ?_
          refine lv_iload_n hx hb dX12_readTag_81 rfl (lv_at hl 0 rfl) ?_
          refine lv_iconst (v := 0) hx hb dX12_readTag_82 (by decide) ?_
          have rs9 : 0 ≤ (fI D H1 11 a0 16).toInt ∧ (fI D H1 11 a0 16).toInt ≤ 400 := S1.1.rng ga0 rfl (by decide) rfl
          have rp9 : 0 ≤ (fI D H1 11 a0 10).toInt ∧ (fI D H1 11 a0 10).toInt ≤ 400 := S1.1.rng ga0 rfl (by decide) rfl
          refine callV_Ev C S1 (c_X12_emits l D G a0 (8 : Int32) (0 : Int32) ga0) kV_X12_185 ga0 (by omega) (by decide +kernel) dX12_readTag_83 hl.1 rfl rfl (by decide) cd_X12_emits ⟨Nat.le_of_ble_eq_true rfl, Nat.le_of_ble_eq_true rfl, Nat.le_of_ble_eq_true rfl, Nat.le_of_ble_eq_true rfl, Nat.le_of_ble_eq_true rfl⟩ (fun H28 L28 S28 K28 q28 => ?_)
          obtain ⟨qa28, qb28, tq28⟩ := q28
          have y28_10 : (fI D H28 11 a0 10).toInt = (fI D H1 11 a0 10).toInt := congrArg Int32.toInt (K28.fI ga0 rfl (by decide) (by decide +kernel))
          have y28_12 : (fI D H28 11 a0 12).toInt = (fI D H1 11 a0 12).toInt := congrArg Int32.toInt (K28.fI ga0 rfl (by decide) (by decide +kernel))
          have y28_13 : (fI D H28 11 a0 13).toInt = (fI D H1 11 a0 13).toInt := congrArg Int32.toInt (K28.fI ga0 rfl (by decide) (by decide +kernel))
          have lq28 : Lq D H1 H28 a0 := tq28
          have tk28 : Lq D s.heap H28 a0 := tk1.trans lq28
          refine lv_goto (tgt := 97) hx hb dX12_readTag_86 (by decide) ?_
          refine lv_iload_n hx hb dX12_readTag_97 rfl (lv_at hl 0 rfl) ?_
          refine lv_if_lt (tgt := 105) hx hb dX12_readTag_98 (by decide) (fun c29 => ?_) (fun c29 => ?_)
          · have b29 : (8 : Int32).toInt < (0 : Int32).toInt := i_lt.mp c29
            exact absurd b29 (by omega)
          · have b29 : ¬ (8 : Int32).toInt < (0 : Int32).toInt := fun z9 => c29 (i_lt.mpr z9)
            refine lv_iconst (v := 1) hx hb dX12_readTag_101 (by decide) ?_
            refine lv_goto (tgt := 106) hx hb dX12_readTag_102 (by decide) ?_
            have k_1 : (1 : Int32).toInt = 1 := by decide
            exact retE_z hQ C S28 hr dX12_readTag_106 (z01 (by omega) (by omega)) (⟨by omega, fun _ => by omega, fun _ => (Ex.one (i := (fI D H1 11 a0 16).toInt.toNat) (by rw [qb28]; omega) rfl).at (by omega) (by omega), tk28, fun h9 => absurd h9 (by decide)⟩)
    · have b7 : ¬ v6.toInt = (0 : Int32).toInt := fun z9 => c7 (i_eq.mpr z9)
      refine lv_bipush (v := 7) hx hb dX12_readTag_27 (by decide) ?_
      refine lv_goto (tgt := 75) hx hb dX12_readTag_29 (by decide) ?_
      refine lv_istore_n (lv' := [(1, .int (7 : Int32)), (0, .ref a0)]) hx hb dX12_readTag_75 rfl hl (by decide) rfl (fun ls hl => ?_)
      refine lv_iload_n hx hb dX12_readTag_76 rfl (lv_at hl 0 rfl) ?_
      have k_7 : (7 : Int32).toInt = 7 := by decide
      refine lv_if_lt (tgt := 89) hx hb dX12_readTag_77 (by decide) (fun c30 => ?_) (fun c30 => ?_)
      · have b30 : (7 : Int32).toInt < (0 : Int32).toInt := i_lt.mp c30
        exact absurd b30 (by omega)
      · have b30 : ¬ (7 : Int32).toInt < (0 : Int32).toInt := fun z9 => c30 (i_lt.mpr z9)
        refine lv_aload_n hx hb dX12_readTag_80 rfl (lv_at hl 1 rfl) ?_
        refine lv_iload_n hx hb dX12_readTag_81 rfl (lv_at hl 0 rfl) ?_
        refine lv_iconst (v := 0) hx hb dX12_readTag_82 (by decide) ?_
        have rs9 : 0 ≤ (fI D H1 11 a0 16).toInt ∧ (fI D H1 11 a0 16).toInt ≤ 400 := S1.1.rng ga0 rfl (by decide) rfl
        have rp9 : 0 ≤ (fI D H1 11 a0 10).toInt ∧ (fI D H1 11 a0 10).toInt ≤ 400 := S1.1.rng ga0 rfl (by decide) rfl
        refine callV_Ev C S1 (c_X12_emits l D G a0 (7 : Int32) (0 : Int32) ga0) kV_X12_185 ga0 (by omega) (by decide +kernel) dX12_readTag_83 hl.1 rfl rfl (by decide) cd_X12_emits ⟨Nat.le_of_ble_eq_true rfl, Nat.le_of_ble_eq_true rfl, Nat.le_of_ble_eq_true rfl, Nat.le_of_ble_eq_true rfl, Nat.le_of_ble_eq_true rfl⟩ (fun H31 L31 S31 K31 q31 => ?_)
        obtain ⟨qa31, qb31, tq31⟩ := q31
        have y31_10 : (fI D H31 11 a0 10).toInt = (fI D H1 11 a0 10).toInt := congrArg Int32.toInt (K31.fI ga0 rfl (by decide) (by decide +kernel))
        have y31_12 : (fI D H31 11 a0 12).toInt = (fI D H1 11 a0 12).toInt := congrArg Int32.toInt (K31.fI ga0 rfl (by decide) (by decide +kernel))
        have y31_13 : (fI D H31 11 a0 13).toInt = (fI D H1 11 a0 13).toInt := congrArg Int32.toInt (K31.fI ga0 rfl (by decide) (by decide +kernel))
        have lq31 : Lq D H1 H31 a0 := tq31
        have tk31 : Lq D s.heap H31 a0 := tk1.trans lq31
        refine lv_goto (tgt := 97) hx hb dX12_readTag_86 (by decide) ?_
        refine lv_iload_n hx hb dX12_readTag_97 rfl (lv_at hl 0 rfl) ?_
        refine lv_if_lt (tgt := 105) hx hb dX12_readTag_98 (by decide) (fun c32 => ?_) (fun c32 => ?_)
        · have b32 : (7 : Int32).toInt < (0 : Int32).toInt := i_lt.mp c32
          exact absurd b32 (by omega)
        · have b32 : ¬ (7 : Int32).toInt < (0 : Int32).toInt := fun z9 => c32 (i_lt.mpr z9)
          refine lv_iconst (v := 1) hx hb dX12_readTag_101 (by decide) ?_
          refine lv_goto (tgt := 106) hx hb dX12_readTag_102 (by decide) ?_
          have k_1 : (1 : Int32).toInt = 1 := by decide
          exact retE_z hQ C S31 hr dX12_readTag_106 (z01 (by omega) (by omega)) (⟨by omega, fun _ => by omega, fun _ => (Ex.one (i := (fI D H1 11 a0 16).toInt.toNat) (by rw [qb31]; omega) rfl).at (by omega) (by omega), tk31, fun h9 => absurd h9 (by decide)⟩)
  · have b4 : ¬ v3.toInt = (0 : Int32).toInt := fun z9 => c4 (i_eq.mpr z9)
    refine lv_bipush (v := 6) hx hb dX12_readTag_13 (by decide) ?_
    refine lv_goto (tgt := 75) hx hb dX12_readTag_15 (by decide) ?_
    refine lv_istore_n (lv' := [(1, .int (6 : Int32)), (0, .ref a0)]) hx hb dX12_readTag_75 rfl hl (by decide) rfl (fun ls hl => ?_)
    refine lv_iload_n hx hb dX12_readTag_76 rfl (lv_at hl 0 rfl) ?_
    have k_6 : (6 : Int32).toInt = 6 := by decide
    refine lv_if_lt (tgt := 89) hx hb dX12_readTag_77 (by decide) (fun c33 => ?_) (fun c33 => ?_)
    · have b33 : (6 : Int32).toInt < (0 : Int32).toInt := i_lt.mp c33
      exact absurd b33 (by omega)
    · have b33 : ¬ (6 : Int32).toInt < (0 : Int32).toInt := fun z9 => c33 (i_lt.mpr z9)
      refine lv_aload_n hx hb dX12_readTag_80 rfl (lv_at hl 1 rfl) ?_
      refine lv_iload_n hx hb dX12_readTag_81 rfl (lv_at hl 0 rfl) ?_
      refine lv_iconst (v := 0) hx hb dX12_readTag_82 (by decide) ?_
      have rs9 : 0 ≤ (fI D H1 11 a0 16).toInt ∧ (fI D H1 11 a0 16).toInt ≤ 400 := S1.1.rng ga0 rfl (by decide) rfl
      have rp9 : 0 ≤ (fI D H1 11 a0 10).toInt ∧ (fI D H1 11 a0 10).toInt ≤ 400 := S1.1.rng ga0 rfl (by decide) rfl
      refine callV_Ev C S1 (c_X12_emits l D G a0 (6 : Int32) (0 : Int32) ga0) kV_X12_185 ga0 (by omega) (by decide +kernel) dX12_readTag_83 hl.1 rfl rfl (by decide) cd_X12_emits ⟨Nat.le_of_ble_eq_true rfl, Nat.le_of_ble_eq_true rfl, Nat.le_of_ble_eq_true rfl, Nat.le_of_ble_eq_true rfl, Nat.le_of_ble_eq_true rfl⟩ (fun H34 L34 S34 K34 q34 => ?_)
      obtain ⟨qa34, qb34, tq34⟩ := q34
      have y34_10 : (fI D H34 11 a0 10).toInt = (fI D H1 11 a0 10).toInt := congrArg Int32.toInt (K34.fI ga0 rfl (by decide) (by decide +kernel))
      have y34_12 : (fI D H34 11 a0 12).toInt = (fI D H1 11 a0 12).toInt := congrArg Int32.toInt (K34.fI ga0 rfl (by decide) (by decide +kernel))
      have y34_13 : (fI D H34 11 a0 13).toInt = (fI D H1 11 a0 13).toInt := congrArg Int32.toInt (K34.fI ga0 rfl (by decide) (by decide +kernel))
      have lq34 : Lq D H1 H34 a0 := tq34
      have tk34 : Lq D s.heap H34 a0 := tk1.trans lq34
      refine lv_goto (tgt := 97) hx hb dX12_readTag_86 (by decide) ?_
      refine lv_iload_n hx hb dX12_readTag_97 rfl (lv_at hl 0 rfl) ?_
      refine lv_if_lt (tgt := 105) hx hb dX12_readTag_98 (by decide) (fun c35 => ?_) (fun c35 => ?_)
      · have b35 : (6 : Int32).toInt < (0 : Int32).toInt := i_lt.mp c35
        exact absurd b35 (by omega)
      · have b35 : ¬ (6 : Int32).toInt < (0 : Int32).toInt := fun z9 => c35 (i_lt.mpr z9)
        refine lv_iconst (v := 1) hx hb dX12_readTag_101 (by decide) ?_
        refine lv_goto (tgt := 106) hx hb dX12_readTag_102 (by decide) ?_
        have k_1 : (1 : Int32).toInt = 1 := by decide
        exact retE_z hQ C S34 hr dX12_readTag_106 (z01 (by omega) (by omega)) (⟨by omega, fun _ => by omega, fun _ => (Ex.one (i := (fI D H1 11 a0 16).toInt.toNat) (by rw [qb34]; omega) rfl).at (by omega) (by omega), tk34, fun h9 => absurd h9 (by decide)⟩)

set_option maxRecDepth 100000 in
set_option maxHeartbeats 4000000 in
theorem c_X12_readAtom_d6 (l : Launch) (D : DD) (G : Nat → Nat) (a0 : Nat) (ga0 : G a0 = 30) : CE l D G yX12_readAtom cX12_readAtom 2 (some .boolean) 7 [.ref a0] (fun H => (fI D H 11 a0 13).toInt = 6 ∧ (fI D H 11 a0 16).toInt + 3 ≤ (fI D H 11 a0 10).toInt) [(30, 10), (30, 12), (30, 16), (31, 0), (30, 13)] (xI (fun H r H1 => (0 ≤ r.toInt ∧ r.toInt ≤ 1) ∧ (r.toInt = 1 → (fI D H1 11 a0 16).toInt - (fI D H 11 a0 16).toInt ≤ (fI D H1 11 a0 10).toInt - (fI D H 11 a0 10).toInt ∧ (fI D H1 11 a0 13).toInt = (fI D H 11 a0 13).toInt ∧ (fI D H 11 a0 10).toInt ≤ (fI D H1 11 a0 10).toInt) ∧ (r.toInt = 1 → Ex (Cs D H1 a0) (fI D H 11 a0 16).toInt.toNat (fI D H1 11 a0 16).toInt.toNat) ∧ Lq D H H1 a0)) := by
  refine enter (by decide) (Nat.le_of_ble_eq_true rfl) ?_
  intro p e s m args below meth c ls Q hA hQ C hr hO hpre hl
  have hx := C.1
  have hb := C.2.1
  have S : Sd D G [(30, 10), (30, 12), (30, 16), (31, 0), (30, 13)] s.heap s.heap [] := Sd.start hO
  have hl : lv_has ls 2 [(0, .ref a0)] := hl
  have rs0 : 0 ≤ (fI D s.heap 11 a0 16).toInt ∧ (fI D s.heap 11 a0 16).toInt ≤ 400 := hO.rng ga0 rfl (by decide) rfl
  have rp0 : 0 ≤ (fI D s.heap 11 a0 10).toInt ∧ (fI D s.heap 11 a0 10).toInt ≤ 400 := hO.rng ga0 rfl (by decide) rfl
  have tk0 : Lq D s.heap s.heap a0 := Lq.refl
  refine lv_aload_n hx hb dX12_readAtom_0 rfl (lv_at hl 0 rfl) ?_
  refine lv_bipush (v := 40) hx hb dX12_readAtom_1 (by decide) ?_
  have k_40 : (40 : Int32).toInt = 40 := by decide
  refine callV_Ei C S (c_X12_sign l D G a0 (40 : Int32) ga0) kV_X12_193 ga0 (trivial) (by decide +kernel) dX12_readAtom_3 hl.1 rfl rfl (by decide) cd_X12_sign ⟨Nat.le_of_ble_eq_true rfl, Nat.le_of_ble_eq_true rfl, Nat.le_of_ble_eq_true rfl, Nat.le_of_ble_eq_true rfl, Nat.le_of_ble_eq_true rfl⟩ (fun v1 H1 L1 S1 K1 q1 => ?_)
  have y1_13 : (fI D H1 11 a0 13).toInt = (fI D s.heap 11 a0 13).toInt := congrArg Int32.toInt (K1.fI ga0 rfl (by decide) (by decide +kernel))
  have y1_16 : (fI D H1 11 a0 16).toInt = (fI D s.heap 11 a0 16).toInt := congrArg Int32.toInt (K1.fI ga0 rfl (by decide) (by decide +kernel))
  have lq1 : Lq D s.heap H1 a0 := Lq.keep S.1 ga0 K1 (by decide +kernel) (by decide +kernel) (by decide +kernel)
  have tk1 : Lq D s.heap H1 a0 := tk0.trans lq1
  rcases q1 with q1 | q1
  · skip
    have k_0 : (0 : Int32).toInt = 0 := by decide
    refine lv_if_eq (tgt := 56) hx hb dX12_readAtom_6 (by decide) (fun c2 => ?_) (fun c2 => ?_)
    · have b2 : v1.toInt = (0 : Int32).toInt := i_eq.mp c2
      exact absurd b2 (by omega)
    · have b2 : ¬ v1.toInt = (0 : Int32).toInt := fun z9 => c2 (i_eq.mpr z9)
      refine lv_aload_n hx hb dX12_readAtom_9 rfl (lv_at hl 0 rfl) ?_
      have dd : (fI D H1 11 a0 13).toInt = 6 := by omega
      refine q_gi (T := TX12) C S1.1 ga0 13 kF_X12_197 dX12_readAtom_10 rfl rfl (by decide) rfl (by decide) rfl ?_
      have r3 : 0 ≤ (fI D H1 11 a0 13).toInt ∧ (fI D H1 11 a0 13).toInt ≤ 6 := S1.1.rng ga0 rfl (by decide) rfl
      refine lv_bipush (v := 6) hx hb dX12_readAtom_13 (by decide) ?_
      have k_6 : (6 : Int32).toInt = 6 := by decide
      refine lv_icmp_ne (tgt := 20) hx hb dX12_readAtom_15 (by decide) (fun c4 => ?_) (fun c4 => ?_)
      · have b4 : ¬ (fI D H1 11 a0 13).toInt = (6 : Int32).toInt := fun z9 => c4 (i_eq.mpr z9)
        exact absurd b4 (by omega)
      · have b4 : (fI D H1 11 a0 13).toInt = (6 : Int32).toInt := i_eq.mp c4
        refine lv_iconst (v := 0) hx hb dX12_readAtom_18 (by decide) ?_
        exact retE_z hQ C S1 hr dX12_readAtom_19 (z01 (by omega) (by omega)) (⟨by omega, fun h9 => absurd h9 (by decide), fun h9 => absurd h9 (by decide), tk1⟩)
  · skip
    have k_0 : (0 : Int32).toInt = 0 := by decide
    refine lv_if_eq (tgt := 56) hx hb dX12_readAtom_6 (by decide) (fun c5 => ?_) (fun c5 => ?_)
    · have b5 : v1.toInt = (0 : Int32).toInt := i_eq.mp c5
      refine lv_aload_n hx hb dX12_readAtom_56 rfl (lv_at hl 0 rfl) ?_
      refine q_lds C ks_X12_203 dX12_readAtom_57 (fun a6 ha6 => ?_)
      refine callV_Ei C S1 (c_X12_passes_w l D G a0 a6 3 ga0 ha6) kV_X12_120 ga0 (trivial) (by decide +kernel) dX12_readAtom_59 hl.1 rfl rfl (by decide) cd_X12_passes ⟨Nat.le_of_ble_eq_true rfl, Nat.le_of_ble_eq_true rfl, Nat.le_of_ble_eq_true rfl, Nat.le_of_ble_eq_true rfl, Nat.le_of_ble_eq_true rfl⟩ (fun v7 H7 L7 S7 K7 q7 => ?_)
      have y7_13 : (fI D H7 11 a0 13).toInt = (fI D H1 11 a0 13).toInt := congrArg Int32.toInt (K7.fI ga0 rfl (by decide) (by decide +kernel))
      have y7_16 : (fI D H7 11 a0 16).toInt = (fI D H1 11 a0 16).toInt := congrArg Int32.toInt (K7.fI ga0 rfl (by decide) (by decide +kernel))
      have lq7 : Lq D H1 H7 a0 := Lq.keep S1.1 ga0 K7 (by decide +kernel) (by decide +kernel) (by decide +kernel)
      have tk7 : Lq D s.heap H7 a0 := tk1.trans lq7
      rcases q7 with q7 | q7
      · skip
        refine lv_if_eq (tgt := 114) hx hb dX12_readAtom_62 (by decide) (fun c8 => ?_) (fun c8 => ?_)
        · have b8 : v7.toInt = (0 : Int32).toInt := i_eq.mp c8
          exact absurd b8 (by omega)
        · have b8 : ¬ v7.toInt = (0 : Int32).toInt := fun z9 => c8 (i_eq.mpr z9)
          refine lv_aload_n hx hb dX12_readAtom_65 rfl (lv_at hl 0 rfl) ?_
          have dd : (fI D H7 11 a0 13).toInt = 6 := by omega
          refine q_gi (T := TX12) C S7.1 ga0 13 kF_X12_197 dX12_readAtom_66 rfl rfl (by decide) rfl (by decide) rfl ?_
          have r9 : 0 ≤ (fI D H7 11 a0 13).toInt ∧ (fI D H7 11 a0 13).toInt ≤ 6 := S7.1.rng ga0 rfl (by decide) rfl
          refine lv_bipush (v := 6) hx hb dX12_readAtom_69 (by decide) ?_
          have k_6 : (6 : Int32).toInt = 6 := by decide
          refine lv_icmp_ne (tgt := 76) hx hb dX12_readAtom_71 (by decide) (fun c10 => ?_) (fun c10 => ?_)
          · have b10 : ¬ (fI D H7 11 a0 13).toInt = (6 : Int32).toInt := fun z9 => c10 (i_eq.mpr z9)
            exact absurd b10 (by omega)
          · have b10 : (fI D H7 11 a0 13).toInt = (6 : Int32).toInt := i_eq.mp c10
            refine lv_iconst (v := 0) hx hb dX12_readAtom_74 (by decide) ?_
            exact retE_z hQ C S7 hr dX12_readAtom_75 (z01 (by omega) (by omega)) (⟨by omega, fun h9 => absurd h9 (by decide), fun h9 => absurd h9 (by decide), tk7⟩)
      · skip
        refine lv_if_eq (tgt := 114) hx hb dX12_readAtom_62 (by decide) (fun c11 => ?_) (fun c11 => ?_)
        · have b11 : v7.toInt = (0 : Int32).toInt := i_eq.mp c11
          refine lv_aload_n hx hb dX12_readAtom_114 rfl (lv_at hl 0 rfl) ?_
          have rs9 : 0 ≤ (fI D H7 11 a0 16).toInt ∧ (fI D H7 11 a0 16).toInt ≤ 400 := S7.1.rng ga0 rfl (by decide) rfl
          have rp9 : 0 ≤ (fI D H7 11 a0 10).toInt ∧ (fI D H7 11 a0 10).toInt ≤ 400 := S7.1.rng ga0 rfl (by decide) rfl
          refine callV_Ei C S7 (c_X12_readTag l D G a0 ga0) kV_X12_208 ga0 (by omega) (by decide +kernel) dX12_readAtom_115 hl.1 rfl rfl (by decide) cd_X12_readTag ⟨Nat.le_of_ble_eq_true rfl, Nat.le_of_ble_eq_true rfl, Nat.le_of_ble_eq_true rfl, Nat.le_of_ble_eq_true rfl, Nat.le_of_ble_eq_true rfl⟩ (fun v12 H12 L12 S12 K12 q12 => ?_)
          obtain ⟨q12, sa12, sx12, tq12, sf12⟩ := q12
          have y12_13 : (fI D H12 11 a0 13).toInt = (fI D H7 11 a0 13).toInt := congrArg Int32.toInt (K12.fI ga0 rfl (by decide) (by decide +kernel))
          have lq12 : Lq D H7 H12 a0 := tq12
          have tk12 : Lq D s.heap H12 a0 := tk7.trans lq12
          refine lv_if_eq (tgt := 123) hx hb dX12_readAtom_118 (by decide) (fun c13 => ?_) (fun c13 => ?_)
          · have b13 : v12.toInt = (0 : Int32).toInt := i_eq.mp c13
            refine lv_aload_n hx hb dX12_readAtom_123 rfl (lv_at hl 0 rfl) ?_
            have rs9 : 0 ≤ (fI D H12 11 a0 16).toInt ∧ (fI D H12 11 a0 16).toInt ≤ 400 := S12.1.rng ga0 rfl (by decide) rfl
            have rp9 : 0 ≤ (fI D H12 11 a0 10).toInt ∧ (fI D H12 11 a0 10).toInt ≤ 400 := S12.1.rng ga0 rfl (by decide) rfl
            refine callV_Ei C S12 (c_X12_readSum l D G a0 ga0) kV_X12_211 ga0 (by omega) (by decide +kernel) dX12_readAtom_124 hl.1 rfl rfl (by decide) cd_X12_readSum ⟨Nat.le_of_ble_eq_true rfl, Nat.le_of_ble_eq_true rfl, Nat.le_of_ble_eq_true rfl, Nat.le_of_ble_eq_true rfl, Nat.le_of_ble_eq_true rfl⟩ (fun v14 H14 L14 S14 K14 q14 => ?_)
            obtain ⟨q14, sa14, sx14, tq14⟩ := q14
            have y14_13 : (fI D H14 11 a0 13).toInt = (fI D H12 11 a0 13).toInt := congrArg Int32.toInt (K14.fI ga0 rfl (by decide) (by decide +kernel))
            have lq14 : Lq D H12 H14 a0 := tq14
            have tk14 : Lq D s.heap H14 a0 := tk12.trans lq14
            refine lv_if_ne (tgt := 132) hx hb dX12_readAtom_127 (by decide) (fun c15 => ?_) (fun c15 => ?_)
            · have b15 : ¬ v14.toInt = (0 : Int32).toInt := fun z9 => c15 (i_eq.mpr z9)
              refine lv_aload_n hx hb dX12_readAtom_132 rfl (lv_at hl 0 rfl) ?_
              refine lv_bipush (v := 60) hx hb dX12_readAtom_133 (by decide) ?_
              have k_60 : (60 : Int32).toInt = 60 := by decide
              refine callV_Ei C S14 (c_X12_sign l D G a0 (60 : Int32) ga0) kV_X12_193 ga0 (trivial) (by decide +kernel) dX12_readAtom_135 hl.1 rfl rfl (by decide) cd_X12_sign ⟨Nat.le_of_ble_eq_true rfl, Nat.le_of_ble_eq_true rfl, Nat.le_of_ble_eq_true rfl, Nat.le_of_ble_eq_true rfl, Nat.le_of_ble_eq_true rfl⟩ (fun v16 H16 L16 S16 K16 q16 => ?_)
              have y16_13 : (fI D H16 11 a0 13).toInt = (fI D H14 11 a0 13).toInt := congrArg Int32.toInt (K16.fI ga0 rfl (by decide) (by decide +kernel))
              have y16_16 : (fI D H16 11 a0 16).toInt = (fI D H14 11 a0 16).toInt := congrArg Int32.toInt (K16.fI ga0 rfl (by decide) (by decide +kernel))
              have lq16 : Lq D H14 H16 a0 := Lq.keep S14.1 ga0 K16 (by decide +kernel) (by decide +kernel) (by decide +kernel)
              have tk16 : Lq D s.heap H16 a0 := tk14.trans lq16
              rcases q16 with q16 | q16
              · skip
                refine lv_istore_n (lv' := [(1, .int v16), (0, .ref a0)]) hx hb dX12_readAtom_138 rfl hl (by decide) rfl (fun ls hl => ?_)
                refine lv_iload_n hx hb dX12_readAtom_139 rfl (lv_at hl 0 rfl) ?_
                refine lv_if_ne (tgt := 152) hx hb dX12_readAtom_140 (by decide) (fun c17 => ?_) (fun c17 => ?_)
                · have b17 : ¬ v16.toInt = (0 : Int32).toInt := fun z9 => c17 (i_eq.mpr z9)
                  refine lv_aload_n hx hb dX12_readAtom_152 rfl (lv_at hl 1 rfl) ?_
                  have rs9 : 0 ≤ (fI D H16 11 a0 16).toInt ∧ (fI D H16 11 a0 16).toInt ≤ 400 := S16.1.rng ga0 rfl (by decide) rfl
                  have rp9 : 0 ≤ (fI D H16 11 a0 10).toInt ∧ (fI D H16 11 a0 10).toInt ≤ 400 := S16.1.rng ga0 rfl (by decide) rfl
                  refine callV_Ei C S16 (c_X12_readSum l D G a0 ga0) kV_X12_211 ga0 (by omega) (by decide +kernel) dX12_readAtom_153 hl.1 rfl rfl (by decide) cd_X12_readSum ⟨Nat.le_of_ble_eq_true rfl, Nat.le_of_ble_eq_true rfl, Nat.le_of_ble_eq_true rfl, Nat.le_of_ble_eq_true rfl, Nat.le_of_ble_eq_true rfl⟩ (fun v18 H18 L18 S18 K18 q18 => ?_)
                  obtain ⟨q18, sa18, sx18, tq18⟩ := q18
                  have y18_13 : (fI D H18 11 a0 13).toInt = (fI D H16 11 a0 13).toInt := congrArg Int32.toInt (K18.fI ga0 rfl (by decide) (by decide +kernel))
                  have lq18 : Lq D H16 H18 a0 := tq18
                  have tk18 : Lq D s.heap H18 a0 := tk16.trans lq18
                  refine lv_if_ne (tgt := 161) hx hb dX12_readAtom_156 (by decide) (fun c19 => ?_) (fun c19 => ?_)
                  · have b19 : ¬ v18.toInt = (0 : Int32).toInt := fun z9 => c19 (i_eq.mpr z9)
                    refine lv_aload_n hx hb dX12_readAtom_161 rfl (lv_at hl 1 rfl) ?_
                    refine lv_iload_n hx hb dX12_readAtom_162 rfl (lv_at hl 0 rfl) ?_
                    refine lv_if_eq (tgt := 171) hx hb dX12_readAtom_163 (by decide) (fun c20 => ?_) (fun c20 => ?_)
                    · have b20 : v16.toInt = (0 : Int32).toInt := i_eq.mp c20
                      exact absurd b20 (by omega)
                    · have b20 : ¬ v16.toInt = (0 : Int32).toInt := fun z9 => c20 (i_eq.mpr z9)
                      refine lv_bipush (v := 13) hx hb dX12_readAtom_166 (by decide) ?_
                      refine lv_goto (tgt := 173) hx hb dX12_readAtom_168 (by decide) ?_
                      refine lv_iconst (v := 0) hx hb dX12_readAtom_173 (by decide) ?_
                      have rs9 : 0 ≤ (fI D H18 11 a0 16).toInt ∧ (fI D H18 11 a0 16).toInt ≤ 400 := S18.1.rng ga0 rfl (by decide) rfl
                      have rp9 : 0 ≤ (fI D H18 11 a0 10).toInt ∧ (fI D H18 11 a0 10).toInt ≤ 400 := S18.1.rng ga0 rfl (by decide) rfl
                      have k_13 : (13 : Int32).toInt = 13 := by decide
                      refine callV_Ev C S18 (c_X12_emits l D G a0 (13 : Int32) (0 : Int32) ga0) kV_X12_185 ga0 (by omega) (by decide +kernel) dX12_readAtom_174 hl.1 rfl rfl (by decide) cd_X12_emits ⟨Nat.le_of_ble_eq_true rfl, Nat.le_of_ble_eq_true rfl, Nat.le_of_ble_eq_true rfl, Nat.le_of_ble_eq_true rfl, Nat.le_of_ble_eq_true rfl⟩ (fun H21 L21 S21 K21 q21 => ?_)
                      obtain ⟨qa21, qb21, tq21⟩ := q21
                      have y21_10 : (fI D H21 11 a0 10).toInt = (fI D H18 11 a0 10).toInt := congrArg Int32.toInt (K21.fI ga0 rfl (by decide) (by decide +kernel))
                      have y21_12 : (fI D H21 11 a0 12).toInt = (fI D H18 11 a0 12).toInt := congrArg Int32.toInt (K21.fI ga0 rfl (by decide) (by decide +kernel))
                      have y21_13 : (fI D H21 11 a0 13).toInt = (fI D H18 11 a0 13).toInt := congrArg Int32.toInt (K21.fI ga0 rfl (by decide) (by decide +kernel))
                      have lq21 : Lq D H18 H21 a0 := tq21
                      have tk21 : Lq D s.heap H21 a0 := tk18.trans lq21
                      refine lv_iconst (v := 1) hx hb dX12_readAtom_177 (by decide) ?_
                      have k_1 : (1 : Int32).toInt = 1 := by decide
                      exact retE_z hQ C S21 hr dX12_readAtom_178 (z01 (by omega) (by omega)) (⟨by omega, fun _ => by omega, fun _ => (Ex.bin (((lq16.trans lq18).trans lq21).ex (sx14 (by omega)) (by omega)) ((lq21.ex (sx18 (by omega)) (by omega)).at (i' := (fI D H14 11 a0 16).toInt.toNat) (by omega) rfl) (by rw [qb21]; decide) rfl).at (by omega) (by omega), tk21⟩)
                  · have b19 : v18.toInt = (0 : Int32).toInt := i_eq.mp c19
                    refine lv_iconst (v := 0) hx hb dX12_readAtom_159 (by decide) ?_
                    exact retE_z hQ C S18 hr dX12_readAtom_160 (z01 (by omega) (by omega)) (⟨by omega, fun h9 => absurd h9 (by decide), fun h9 => absurd h9 (by decide), tk18⟩)
                · have b17 : v16.toInt = (0 : Int32).toInt := i_eq.mp c17
                  exact absurd b17 (by omega)
              · skip
                refine lv_istore_n (lv' := [(1, .int v16), (0, .ref a0)]) hx hb dX12_readAtom_138 rfl hl (by decide) rfl (fun ls hl => ?_)
                refine lv_iload_n hx hb dX12_readAtom_139 rfl (lv_at hl 0 rfl) ?_
                refine lv_if_ne (tgt := 152) hx hb dX12_readAtom_140 (by decide) (fun c22 => ?_) (fun c22 => ?_)
                · have b22 : ¬ v16.toInt = (0 : Int32).toInt := fun z9 => c22 (i_eq.mpr z9)
                  exact absurd b22 (by omega)
                · have b22 : v16.toInt = (0 : Int32).toInt := i_eq.mp c22
                  refine lv_aload_n hx hb dX12_readAtom_143 rfl (lv_at hl 1 rfl) ?_
                  refine lv_bipush (v := 62) hx hb dX12_readAtom_144 (by decide) ?_
                  have k_62 : (62 : Int32).toInt = 62 := by decide
                  refine callV_Ei C S16 (c_X12_sign l D G a0 (62 : Int32) ga0) kV_X12_193 ga0 (trivial) (by decide +kernel) dX12_readAtom_146 hl.1 rfl rfl (by decide) cd_X12_sign ⟨Nat.le_of_ble_eq_true rfl, Nat.le_of_ble_eq_true rfl, Nat.le_of_ble_eq_true rfl, Nat.le_of_ble_eq_true rfl, Nat.le_of_ble_eq_true rfl⟩ (fun v23 H23 L23 S23 K23 q23 => ?_)
                  have y23_13 : (fI D H23 11 a0 13).toInt = (fI D H16 11 a0 13).toInt := congrArg Int32.toInt (K23.fI ga0 rfl (by decide) (by decide +kernel))
                  have y23_16 : (fI D H23 11 a0 16).toInt = (fI D H16 11 a0 16).toInt := congrArg Int32.toInt (K23.fI ga0 rfl (by decide) (by decide +kernel))
                  have lq23 : Lq D H16 H23 a0 := Lq.keep S16.1 ga0 K23 (by decide +kernel) (by decide +kernel) (by decide +kernel)
                  have tk23 : Lq D s.heap H23 a0 := tk16.trans lq23
                  rcases q23 with q23 | q23
                  · skip
                    refine lv_if_eq (tgt := 159) hx hb dX12_readAtom_149 (by decide) (fun c24 => ?_) (fun c24 => ?_)
                    · have b24 : v23.toInt = (0 : Int32).toInt := i_eq.mp c24
                      exact absurd b24 (by omega)
                    · have b24 : ¬ v23.toInt = (0 : Int32).toInt := fun z9 => c24 (i_eq.mpr z9)
                      refine lv_aload_n hx hb dX12_readAtom_152 rfl (lv_at hl 1 rfl) ?_
                      have rs9 : 0 ≤ (fI D H23 11 a0 16).toInt ∧ (fI D H23 11 a0 16).toInt ≤ 400 := S23.1.rng ga0 rfl (by decide) rfl
                      have rp9 : 0 ≤ (fI D H23 11 a0 10).toInt ∧ (fI D H23 11 a0 10).toInt ≤ 400 := S23.1.rng ga0 rfl (by decide) rfl
                      refine callV_Ei C S23 (c_X12_readSum l D G a0 ga0) kV_X12_211 ga0 (by omega) (by decide +kernel) dX12_readAtom_153 hl.1 rfl rfl (by decide) cd_X12_readSum ⟨Nat.le_of_ble_eq_true rfl, Nat.le_of_ble_eq_true rfl, Nat.le_of_ble_eq_true rfl, Nat.le_of_ble_eq_true rfl, Nat.le_of_ble_eq_true rfl⟩ (fun v25 H25 L25 S25 K25 q25 => ?_)
                      obtain ⟨q25, sa25, sx25, tq25⟩ := q25
                      have y25_13 : (fI D H25 11 a0 13).toInt = (fI D H23 11 a0 13).toInt := congrArg Int32.toInt (K25.fI ga0 rfl (by decide) (by decide +kernel))
                      have lq25 : Lq D H23 H25 a0 := tq25
                      have tk25 : Lq D s.heap H25 a0 := tk23.trans lq25
                      refine lv_if_ne (tgt := 161) hx hb dX12_readAtom_156 (by decide) (fun c26 => ?_) (fun c26 => ?_)
                      · have b26 : ¬ v25.toInt = (0 : Int32).toInt := fun z9 => c26 (i_eq.mpr z9)
                        refine lv_aload_n hx hb dX12_readAtom_161 rfl (lv_at hl 1 rfl) ?_
                        refine lv_iload_n hx hb dX12_readAtom_162 rfl (lv_at hl 0 rfl) ?_
                        refine lv_if_eq (tgt := 171) hx hb dX12_readAtom_163 (by decide) (fun c27 => ?_) (fun c27 => ?_)
                        · have b27 : v16.toInt = (0 : Int32).toInt := i_eq.mp c27
                          refine lv_bipush (v := 14) hx hb dX12_readAtom_171 (by decide) ?_
                          refine lv_iconst (v := 0) hx hb dX12_readAtom_173 (by decide) ?_
                          have rs9 : 0 ≤ (fI D H25 11 a0 16).toInt ∧ (fI D H25 11 a0 16).toInt ≤ 400 := S25.1.rng ga0 rfl (by decide) rfl
                          have rp9 : 0 ≤ (fI D H25 11 a0 10).toInt ∧ (fI D H25 11 a0 10).toInt ≤ 400 := S25.1.rng ga0 rfl (by decide) rfl
                          have k_14 : (14 : Int32).toInt = 14 := by decide
                          refine callV_Ev C S25 (c_X12_emits l D G a0 (14 : Int32) (0 : Int32) ga0) kV_X12_185 ga0 (by omega) (by decide +kernel) dX12_readAtom_174 hl.1 rfl rfl (by decide) cd_X12_emits ⟨Nat.le_of_ble_eq_true rfl, Nat.le_of_ble_eq_true rfl, Nat.le_of_ble_eq_true rfl, Nat.le_of_ble_eq_true rfl, Nat.le_of_ble_eq_true rfl⟩ (fun H28 L28 S28 K28 q28 => ?_)
                          obtain ⟨qa28, qb28, tq28⟩ := q28
                          have y28_10 : (fI D H28 11 a0 10).toInt = (fI D H25 11 a0 10).toInt := congrArg Int32.toInt (K28.fI ga0 rfl (by decide) (by decide +kernel))
                          have y28_12 : (fI D H28 11 a0 12).toInt = (fI D H25 11 a0 12).toInt := congrArg Int32.toInt (K28.fI ga0 rfl (by decide) (by decide +kernel))
                          have y28_13 : (fI D H28 11 a0 13).toInt = (fI D H25 11 a0 13).toInt := congrArg Int32.toInt (K28.fI ga0 rfl (by decide) (by decide +kernel))
                          have lq28 : Lq D H25 H28 a0 := tq28
                          have tk28 : Lq D s.heap H28 a0 := tk25.trans lq28
                          refine lv_iconst (v := 1) hx hb dX12_readAtom_177 (by decide) ?_
                          have k_1 : (1 : Int32).toInt = 1 := by decide
                          exact retE_z hQ C S28 hr dX12_readAtom_178 (z01 (by omega) (by omega)) (⟨by omega, fun _ => by omega, fun _ => (Ex.bin ((((lq16.trans lq23).trans lq25).trans lq28).ex (sx14 (by omega)) (by omega)) ((lq28.ex (sx25 (by omega)) (by omega)).at (i' := (fI D H14 11 a0 16).toInt.toNat) (by omega) rfl) (by rw [qb28]; decide) rfl).at (by omega) (by omega), tk28⟩)
                        · have b27 : ¬ v16.toInt = (0 : Int32).toInt := fun z9 => c27 (i_eq.mpr z9)
                          exact absurd b27 (by omega)
                      · have b26 : v25.toInt = (0 : Int32).toInt := i_eq.mp c26
                        refine lv_iconst (v := 0) hx hb dX12_readAtom_159 (by decide) ?_
                        exact retE_z hQ C S25 hr dX12_readAtom_160 (z01 (by omega) (by omega)) (⟨by omega, fun h9 => absurd h9 (by decide), fun h9 => absurd h9 (by decide), tk25⟩)
                  · skip
                    refine lv_if_eq (tgt := 159) hx hb dX12_readAtom_149 (by decide) (fun c29 => ?_) (fun c29 => ?_)
                    · have b29 : v23.toInt = (0 : Int32).toInt := i_eq.mp c29
                      refine lv_iconst (v := 0) hx hb dX12_readAtom_159 (by decide) ?_
                      exact retE_z hQ C S23 hr dX12_readAtom_160 (z01 (by omega) (by omega)) (⟨by omega, fun h9 => absurd h9 (by decide), fun h9 => absurd h9 (by decide), tk23⟩)
                    · have b29 : ¬ v23.toInt = (0 : Int32).toInt := fun z9 => c29 (i_eq.mpr z9)
                      exact absurd b29 (by omega)
            · have b15 : v14.toInt = (0 : Int32).toInt := i_eq.mp c15
              refine lv_iconst (v := 0) hx hb dX12_readAtom_130 (by decide) ?_
              exact retE_z hQ C S14 hr dX12_readAtom_131 (z01 (by omega) (by omega)) (⟨by omega, fun h9 => absurd h9 (by decide), fun h9 => absurd h9 (by decide), tk14⟩)
          · have b13 : ¬ v12.toInt = (0 : Int32).toInt := fun z9 => c13 (i_eq.mpr z9)
            refine lv_iconst (v := 1) hx hb dX12_readAtom_121 (by decide) ?_
            have k_1 : (1 : Int32).toInt = 1 := by decide
            exact retE_z hQ C S12 hr dX12_readAtom_122 (z01 (by omega) (by omega)) (⟨by omega, fun _ => by omega, fun _ => (sx12 (by omega)).at (by omega) rfl, tk12⟩)
        · have b11 : ¬ v7.toInt = (0 : Int32).toInt := fun z9 => c11 (i_eq.mpr z9)
          exact absurd b11 (by omega)
    · have b5 : ¬ v1.toInt = (0 : Int32).toInt := fun z9 => c5 (i_eq.mpr z9)
      exact absurd b5 (by omega)

set_option maxRecDepth 100000 in
set_option maxHeartbeats 4000000 in
theorem c_X12_readAllOf_d6 (l : Launch) (D : DD) (G : Nat → Nat) (a0 : Nat) (ga0 : G a0 = 30) : CE l D G yX12_readAllOf cX12_readAllOf 1 (some .boolean) 8 [.ref a0] (fun H => (fI D H 11 a0 13).toInt = 6 ∧ (fI D H 11 a0 16).toInt + 3 ≤ (fI D H 11 a0 10).toInt) [(30, 10), (30, 12), (30, 16), (31, 0), (30, 13)] (xI (fun H r H1 => (0 ≤ r.toInt ∧ r.toInt ≤ 1) ∧ (r.toInt = 1 → (fI D H1 11 a0 16).toInt - (fI D H 11 a0 16).toInt ≤ (fI D H1 11 a0 10).toInt - (fI D H 11 a0 10).toInt ∧ (fI D H1 11 a0 13).toInt = (fI D H 11 a0 13).toInt ∧ (fI D H 11 a0 10).toInt ≤ (fI D H1 11 a0 10).toInt) ∧ (r.toInt = 1 → Ex (Cs D H1 a0) (fI D H 11 a0 16).toInt.toNat (fI D H1 11 a0 16).toInt.toNat) ∧ Lq D H H1 a0)) := by
  refine enter (by decide) (Nat.le_of_ble_eq_true rfl) ?_
  intro p e s m args below meth c ls Q hA hQ C hr hO hpre hl
  have hx := C.1
  have hb := C.2.1
  have S : Sd D G [(30, 10), (30, 12), (30, 16), (31, 0), (30, 13)] s.heap s.heap [] := Sd.start hO
  have hl : lv_has ls 1 [(0, .ref a0)] := hl
  have rs0 : 0 ≤ (fI D s.heap 11 a0 16).toInt ∧ (fI D s.heap 11 a0 16).toInt ≤ 400 := hO.rng ga0 rfl (by decide) rfl
  have rp0 : 0 ≤ (fI D s.heap 11 a0 10).toInt ∧ (fI D s.heap 11 a0 10).toInt ≤ 400 := hO.rng ga0 rfl (by decide) rfl
  have tk0 : Lq D s.heap s.heap a0 := Lq.refl
  refine lv_aload_n hx hb dX12_readAllOf_0 rfl (lv_at hl 0 rfl) ?_
  refine callV_Ei C S (c_X12_readAtom_d6 l D G a0 ga0) kV_X12_205 ga0 (hpre) (by decide +kernel) dX12_readAllOf_1 hl.1 rfl rfl (by decide) cd_X12_readAtom ⟨Nat.le_of_ble_eq_true rfl, Nat.le_of_ble_eq_true rfl, Nat.le_of_ble_eq_true rfl, Nat.le_of_ble_eq_true rfl, Nat.le_of_ble_eq_true rfl⟩ (fun v1 H1 L1 S1 K1 q1 => ?_)
  obtain ⟨q1, sa1, sx1, tq1⟩ := q1
  have lq1 : Lq D s.heap H1 a0 := tq1
  have tk1 : Lq D s.heap H1 a0 := tk0.trans lq1
  have k_0 : (0 : Int32).toInt = 0 := by decide
  refine lv_if_ne (tgt := 9) hx hb dX12_readAllOf_4 (by decide) (fun c2 => ?_) (fun c2 => ?_)
  · have b2 : ¬ v1.toInt = (0 : Int32).toInt := fun z9 => c2 (i_eq.mpr z9)
    have Lp9 : ∀ (n : Nat)  (H_9 : Heap) (L_9 : List Loc) (ls : Array Slot), (Sd D G [(30, 10), (30, 12), (30, 16), (31, 0), (30, 13)] s.heap H_9 L_9) → (Ex (Cs D H_9 a0) (fI D s.heap 11 a0 16).toInt.toNat (fI D H_9 11 a0 16).toInt.toNat) → ((fI D H_9 11 a0 16).toInt - (fI D s.heap 11 a0 16).toInt ≤ (fI D H_9 11 a0 10).toInt - (fI D s.heap 11 a0 10).toInt ∧ (fI D H_9 11 a0 13).toInt = (fI D s.heap 11 a0 13).toInt ∧ (fI D s.heap 11 a0 10).toInt ≤ (fI D H_9 11 a0 10).toInt) → (Lq D s.heap H_9 a0) → 401 - (fI D H_9 11 a0 10).toInt ≤ (n : Int) → lv_has ls 1 [(0, .ref a0)] → W p l e (rmU 8 0 0) s m args below meth c H_9 L_9 0 0 Q (F0 m 9 ls []) := by
      intro n
      induction n with
      | zero =>
        intro H_9 L_9 ls S_9 u9_0 u9_1 u9_2 hn hl
        have rz : 0 ≤ (fI D H_9 11 a0 10).toInt ∧ (fI D H_9 11 a0 10).toInt ≤ 400 := S_9.1.rng ga0 rfl (by decide) rfl
        exact absurd hn (by omega)
      | succ n ih9 =>
        intro H_9 L_9 ls S_9 u9_0 u9_1 u9_2 hn hl
        have rs9 : 0 ≤ (fI D H_9 11 a0 16).toInt ∧ (fI D H_9 11 a0 16).toInt ≤ 400 := S_9.1.rng ga0 rfl (by decide) rfl
        have rp9 : 0 ≤ (fI D H_9 11 a0 10).toInt ∧ (fI D H_9 11 a0 10).toInt ≤ 400 := S_9.1.rng ga0 rfl (by decide) rfl
        refine lv_aload_n hx hb dX12_readAllOf_9 rfl (lv_at hl 0 rfl) ?_
        refine q_lds C ks_X12_214 dX12_readAllOf_10 (fun a3 ha3 => ?_)
        refine callV_Ei C S_9 (c_X12_passes_w l D G a0 a3 3 ga0 ha3) kV_X12_120 ga0 (trivial) (by decide +kernel) dX12_readAllOf_12 hl.1 rfl rfl (by decide) cd_X12_passes ⟨Nat.le_of_ble_eq_true rfl, Nat.le_of_ble_eq_true rfl, Nat.le_of_ble_eq_true rfl, Nat.le_of_ble_eq_true rfl, Nat.le_of_ble_eq_true rfl⟩ (fun v4 H4 L4 S4 K4 q4 => ?_)
        have y4_13 : (fI D H4 11 a0 13).toInt = (fI D H_9 11 a0 13).toInt := congrArg Int32.toInt (K4.fI ga0 rfl (by decide) (by decide +kernel))
        have y4_16 : (fI D H4 11 a0 16).toInt = (fI D H_9 11 a0 16).toInt := congrArg Int32.toInt (K4.fI ga0 rfl (by decide) (by decide +kernel))
        have lq4 : Lq D H_9 H4 a0 := Lq.keep S_9.1 ga0 K4 (by decide +kernel) (by decide +kernel) (by decide +kernel)
        have tk4 : Lq D s.heap H4 a0 := u9_2.trans lq4
        rcases q4 with q4 | q4
        · skip
          refine lv_if_eq (tgt := 37) hx hb dX12_readAllOf_15 (by decide) (fun c5 => ?_) (fun c5 => ?_)
          · have b5 : v4.toInt = (0 : Int32).toInt := i_eq.mp c5
            exact absurd b5 (by omega)
          · have b5 : ¬ v4.toInt = (0 : Int32).toInt := fun z9 => c5 (i_eq.mpr z9)
            refine lv_aload_n hx hb dX12_readAllOf_18 rfl (lv_at hl 0 rfl) ?_
            have rs9 : 0 ≤ (fI D H4 11 a0 16).toInt ∧ (fI D H4 11 a0 16).toInt ≤ 400 := S4.1.rng ga0 rfl (by decide) rfl
            have rp9 : 0 ≤ (fI D H4 11 a0 10).toInt ∧ (fI D H4 11 a0 10).toInt ≤ 400 := S4.1.rng ga0 rfl (by decide) rfl
            refine callV_Ei C S4 (c_X12_readAtom_d6 l D G a0 ga0) kV_X12_205 ga0 (⟨by omega, by omega⟩) (by decide +kernel) dX12_readAllOf_19 hl.1 rfl rfl (by decide) cd_X12_readAtom ⟨Nat.le_of_ble_eq_true rfl, Nat.le_of_ble_eq_true rfl, Nat.le_of_ble_eq_true rfl, Nat.le_of_ble_eq_true rfl, Nat.le_of_ble_eq_true rfl⟩ (fun v6 H6 L6 S6 K6 q6 => ?_)
            obtain ⟨q6, sa6, sx6, tq6⟩ := q6
            have lq6 : Lq D H4 H6 a0 := tq6
            have tk6 : Lq D s.heap H6 a0 := tk4.trans lq6
            refine lv_if_ne (tgt := 27) hx hb dX12_readAllOf_22 (by decide) (fun c7 => ?_) (fun c7 => ?_)
            · have b7 : ¬ v6.toInt = (0 : Int32).toInt := fun z9 => c7 (i_eq.mpr z9)
              refine lv_aload_n hx hb dX12_readAllOf_27 rfl (lv_at hl 0 rfl) ?_
              refine lv_bipush (v := 16) hx hb dX12_readAllOf_28 (by decide) ?_
              refine lv_iconst (v := 0) hx hb dX12_readAllOf_30 (by decide) ?_
              have rs9 : 0 ≤ (fI D H6 11 a0 16).toInt ∧ (fI D H6 11 a0 16).toInt ≤ 400 := S6.1.rng ga0 rfl (by decide) rfl
              have rp9 : 0 ≤ (fI D H6 11 a0 10).toInt ∧ (fI D H6 11 a0 10).toInt ≤ 400 := S6.1.rng ga0 rfl (by decide) rfl
              have k_16 : (16 : Int32).toInt = 16 := by decide
              refine callV_Ev C S6 (c_X12_emits l D G a0 (16 : Int32) (0 : Int32) ga0) kV_X12_185 ga0 (by omega) (by decide +kernel) dX12_readAllOf_31 hl.1 rfl rfl (by decide) cd_X12_emits ⟨Nat.le_of_ble_eq_true rfl, Nat.le_of_ble_eq_true rfl, Nat.le_of_ble_eq_true rfl, Nat.le_of_ble_eq_true rfl, Nat.le_of_ble_eq_true rfl⟩ (fun H8 L8 S8 K8 q8 => ?_)
              obtain ⟨qa8, qb8, tq8⟩ := q8
              have y8_10 : (fI D H8 11 a0 10).toInt = (fI D H6 11 a0 10).toInt := congrArg Int32.toInt (K8.fI ga0 rfl (by decide) (by decide +kernel))
              have y8_12 : (fI D H8 11 a0 12).toInt = (fI D H6 11 a0 12).toInt := congrArg Int32.toInt (K8.fI ga0 rfl (by decide) (by decide +kernel))
              have y8_13 : (fI D H8 11 a0 13).toInt = (fI D H6 11 a0 13).toInt := congrArg Int32.toInt (K8.fI ga0 rfl (by decide) (by decide +kernel))
              have lq8 : Lq D H6 H8 a0 := tq8
              have tk8 : Lq D s.heap H8 a0 := tk6.trans lq8
              refine lv_goto (tgt := 9) hx hb dX12_readAllOf_34 (by decide) ?_
              have e9 : Ex (Cs D H8 a0) (fI D s.heap 11 a0 16).toInt.toNat (fI D H8 11 a0 16).toInt.toNat := (Ex.bin (((lq4.trans lq6).trans lq8).ex u9_0 (by omega)) ((lq8.ex (sx6 (by omega)) (by omega)).at (i' := (fI D H_9 11 a0 16).toInt.toNat) (by omega) rfl) (by rw [qb8]; decide) rfl).at (by omega) (by omega)
              exact ih9  H8 L8 ls S8 e9 (by omega) tk8 (by omega) (lv_sub hl [0] rfl)
            · have b7 : v6.toInt = (0 : Int32).toInt := i_eq.mp c7
              refine lv_iconst (v := 0) hx hb dX12_readAllOf_25 (by decide) ?_
              exact retE_z hQ C S6 hr dX12_readAllOf_26 (z01 (by omega) (by omega)) (⟨by omega, fun h9 => absurd h9 (by decide), fun h9 => absurd h9 (by decide), tk6⟩)
        · skip
          refine lv_if_eq (tgt := 37) hx hb dX12_readAllOf_15 (by decide) (fun c9 => ?_) (fun c9 => ?_)
          · have b9 : v4.toInt = (0 : Int32).toInt := i_eq.mp c9
            refine lv_iconst (v := 1) hx hb dX12_readAllOf_37 (by decide) ?_
            have k_1 : (1 : Int32).toInt = 1 := by decide
            exact retE_z hQ C S4 hr dX12_readAllOf_38 (z01 (by omega) (by omega)) (⟨by omega, fun _ => by omega, fun _ => (lq4.ex u9_0 (by omega)).at (by omega) (by omega), tk4⟩)
          · have b9 : ¬ v4.toInt = (0 : Int32).toInt := fun z9 => c9 (i_eq.mpr z9)
            exact absurd b9 (by omega)
    have ex0 := sx1 (by omega)
    have rn : 0 ≤ (fI D H1 11 a0 10).toInt ∧ (fI D H1 11 a0 10).toInt ≤ 400 := S1.1.rng ga0 rfl (by decide) rfl
    exact Lp9 402  H1 L1 ls S1 (ex0.at (by omega) rfl) (by omega) tk1  (by omega) (lv_sub hl [0] rfl)
  · have b2 : v1.toInt = (0 : Int32).toInt := i_eq.mp c2
    refine lv_iconst (v := 0) hx hb dX12_readAllOf_7 (by decide) ?_
    exact retE_z hQ C S1 hr dX12_readAllOf_8 (z01 (by omega) (by omega)) (⟨by omega, fun h9 => absurd h9 (by decide), fun h9 => absurd h9 (by decide), tk1⟩)

set_option maxRecDepth 100000 in
set_option maxHeartbeats 4000000 in
theorem c_X12_readCond_d6 (l : Launch) (D : DD) (G : Nat → Nat) (a0 : Nat) (ga0 : G a0 = 30) : CE l D G yX12_readCond cX12_readCond 1 (some .boolean) 9 [.ref a0] (fun H => (fI D H 11 a0 13).toInt = 6 ∧ (fI D H 11 a0 16).toInt + 3 ≤ (fI D H 11 a0 10).toInt) [(30, 10), (30, 12), (30, 16), (31, 0), (30, 13)] (xI (fun H r H1 => (0 ≤ r.toInt ∧ r.toInt ≤ 1) ∧ (r.toInt = 1 → (fI D H1 11 a0 16).toInt - (fI D H 11 a0 16).toInt ≤ (fI D H1 11 a0 10).toInt - (fI D H 11 a0 10).toInt ∧ (fI D H1 11 a0 13).toInt = (fI D H 11 a0 13).toInt ∧ (fI D H 11 a0 10).toInt ≤ (fI D H1 11 a0 10).toInt) ∧ (r.toInt = 1 → Ex (Cs D H1 a0) (fI D H 11 a0 16).toInt.toNat (fI D H1 11 a0 16).toInt.toNat) ∧ Lq D H H1 a0)) := by
  refine enter (by decide) (Nat.le_of_ble_eq_true rfl) ?_
  intro p e s m args below meth c ls Q hA hQ C hr hO hpre hl
  have hx := C.1
  have hb := C.2.1
  have S : Sd D G [(30, 10), (30, 12), (30, 16), (31, 0), (30, 13)] s.heap s.heap [] := Sd.start hO
  have hl : lv_has ls 1 [(0, .ref a0)] := hl
  have rs0 : 0 ≤ (fI D s.heap 11 a0 16).toInt ∧ (fI D s.heap 11 a0 16).toInt ≤ 400 := hO.rng ga0 rfl (by decide) rfl
  have rp0 : 0 ≤ (fI D s.heap 11 a0 10).toInt ∧ (fI D s.heap 11 a0 10).toInt ≤ 400 := hO.rng ga0 rfl (by decide) rfl
  have tk0 : Lq D s.heap s.heap a0 := Lq.refl
  refine lv_aload_n hx hb dX12_readCond_0 rfl (lv_at hl 0 rfl) ?_
  refine callV_Ei C S (c_X12_readAllOf_d6 l D G a0 ga0) kV_X12_216 ga0 (hpre) (by decide +kernel) dX12_readCond_1 hl.1 rfl rfl (by decide) cd_X12_readAllOf ⟨Nat.le_of_ble_eq_true rfl, Nat.le_of_ble_eq_true rfl, Nat.le_of_ble_eq_true rfl, Nat.le_of_ble_eq_true rfl, Nat.le_of_ble_eq_true rfl⟩ (fun v1 H1 L1 S1 K1 q1 => ?_)
  obtain ⟨q1, sa1, sx1, tq1⟩ := q1
  have lq1 : Lq D s.heap H1 a0 := tq1
  have tk1 : Lq D s.heap H1 a0 := tk0.trans lq1
  have k_0 : (0 : Int32).toInt = 0 := by decide
  refine lv_if_ne (tgt := 9) hx hb dX12_readCond_4 (by decide) (fun c2 => ?_) (fun c2 => ?_)
  · have b2 : ¬ v1.toInt = (0 : Int32).toInt := fun z9 => c2 (i_eq.mpr z9)
    have Lp9 : ∀ (n : Nat)  (H_9 : Heap) (L_9 : List Loc) (ls : Array Slot), (Sd D G [(30, 10), (30, 12), (30, 16), (31, 0), (30, 13)] s.heap H_9 L_9) → (Ex (Cs D H_9 a0) (fI D s.heap 11 a0 16).toInt.toNat (fI D H_9 11 a0 16).toInt.toNat) → ((fI D H_9 11 a0 16).toInt - (fI D s.heap 11 a0 16).toInt ≤ (fI D H_9 11 a0 10).toInt - (fI D s.heap 11 a0 10).toInt ∧ (fI D H_9 11 a0 13).toInt = (fI D s.heap 11 a0 13).toInt ∧ (fI D s.heap 11 a0 10).toInt ≤ (fI D H_9 11 a0 10).toInt) → (Lq D s.heap H_9 a0) → 401 - (fI D H_9 11 a0 10).toInt ≤ (n : Int) → lv_has ls 1 [(0, .ref a0)] → W p l e (rmU 9 0 0) s m args below meth c H_9 L_9 0 0 Q (F0 m 9 ls []) := by
      intro n
      induction n with
      | zero =>
        intro H_9 L_9 ls S_9 u9_0 u9_1 u9_2 hn hl
        have rz : 0 ≤ (fI D H_9 11 a0 10).toInt ∧ (fI D H_9 11 a0 10).toInt ≤ 400 := S_9.1.rng ga0 rfl (by decide) rfl
        exact absurd hn (by omega)
      | succ n ih9 =>
        intro H_9 L_9 ls S_9 u9_0 u9_1 u9_2 hn hl
        have rs9 : 0 ≤ (fI D H_9 11 a0 16).toInt ∧ (fI D H_9 11 a0 16).toInt ≤ 400 := S_9.1.rng ga0 rfl (by decide) rfl
        have rp9 : 0 ≤ (fI D H_9 11 a0 10).toInt ∧ (fI D H_9 11 a0 10).toInt ≤ 400 := S_9.1.rng ga0 rfl (by decide) rfl
        refine lv_aload_n hx hb dX12_readCond_9 rfl (lv_at hl 0 rfl) ?_
        refine q_lds C ks_X12_219 dX12_readCond_10 (fun a3 ha3 => ?_)
        refine callV_Ei C S_9 (c_X12_passes_w l D G a0 a3 2 ga0 ha3) kV_X12_120 ga0 (trivial) (by decide +kernel) dX12_readCond_12 hl.1 rfl rfl (by decide) cd_X12_passes ⟨Nat.le_of_ble_eq_true rfl, Nat.le_of_ble_eq_true rfl, Nat.le_of_ble_eq_true rfl, Nat.le_of_ble_eq_true rfl, Nat.le_of_ble_eq_true rfl⟩ (fun v4 H4 L4 S4 K4 q4 => ?_)
        have y4_13 : (fI D H4 11 a0 13).toInt = (fI D H_9 11 a0 13).toInt := congrArg Int32.toInt (K4.fI ga0 rfl (by decide) (by decide +kernel))
        have y4_16 : (fI D H4 11 a0 16).toInt = (fI D H_9 11 a0 16).toInt := congrArg Int32.toInt (K4.fI ga0 rfl (by decide) (by decide +kernel))
        have lq4 : Lq D H_9 H4 a0 := Lq.keep S_9.1 ga0 K4 (by decide +kernel) (by decide +kernel) (by decide +kernel)
        have tk4 : Lq D s.heap H4 a0 := u9_2.trans lq4
        rcases q4 with q4 | q4
        · skip
          refine lv_if_eq (tgt := 37) hx hb dX12_readCond_15 (by decide) (fun c5 => ?_) (fun c5 => ?_)
          · have b5 : v4.toInt = (0 : Int32).toInt := i_eq.mp c5
            exact absurd b5 (by omega)
          · have b5 : ¬ v4.toInt = (0 : Int32).toInt := fun z9 => c5 (i_eq.mpr z9)
            refine lv_aload_n hx hb dX12_readCond_18 rfl (lv_at hl 0 rfl) ?_
            have rs9 : 0 ≤ (fI D H4 11 a0 16).toInt ∧ (fI D H4 11 a0 16).toInt ≤ 400 := S4.1.rng ga0 rfl (by decide) rfl
            have rp9 : 0 ≤ (fI D H4 11 a0 10).toInt ∧ (fI D H4 11 a0 10).toInt ≤ 400 := S4.1.rng ga0 rfl (by decide) rfl
            refine callV_Ei C S4 (c_X12_readAllOf_d6 l D G a0 ga0) kV_X12_216 ga0 (⟨by omega, by omega⟩) (by decide +kernel) dX12_readCond_19 hl.1 rfl rfl (by decide) cd_X12_readAllOf ⟨Nat.le_of_ble_eq_true rfl, Nat.le_of_ble_eq_true rfl, Nat.le_of_ble_eq_true rfl, Nat.le_of_ble_eq_true rfl, Nat.le_of_ble_eq_true rfl⟩ (fun v6 H6 L6 S6 K6 q6 => ?_)
            obtain ⟨q6, sa6, sx6, tq6⟩ := q6
            have lq6 : Lq D H4 H6 a0 := tq6
            have tk6 : Lq D s.heap H6 a0 := tk4.trans lq6
            refine lv_if_ne (tgt := 27) hx hb dX12_readCond_22 (by decide) (fun c7 => ?_) (fun c7 => ?_)
            · have b7 : ¬ v6.toInt = (0 : Int32).toInt := fun z9 => c7 (i_eq.mpr z9)
              refine lv_aload_n hx hb dX12_readCond_27 rfl (lv_at hl 0 rfl) ?_
              refine lv_bipush (v := 17) hx hb dX12_readCond_28 (by decide) ?_
              refine lv_iconst (v := 0) hx hb dX12_readCond_30 (by decide) ?_
              have rs9 : 0 ≤ (fI D H6 11 a0 16).toInt ∧ (fI D H6 11 a0 16).toInt ≤ 400 := S6.1.rng ga0 rfl (by decide) rfl
              have rp9 : 0 ≤ (fI D H6 11 a0 10).toInt ∧ (fI D H6 11 a0 10).toInt ≤ 400 := S6.1.rng ga0 rfl (by decide) rfl
              have k_17 : (17 : Int32).toInt = 17 := by decide
              refine callV_Ev C S6 (c_X12_emits l D G a0 (17 : Int32) (0 : Int32) ga0) kV_X12_185 ga0 (by omega) (by decide +kernel) dX12_readCond_31 hl.1 rfl rfl (by decide) cd_X12_emits ⟨Nat.le_of_ble_eq_true rfl, Nat.le_of_ble_eq_true rfl, Nat.le_of_ble_eq_true rfl, Nat.le_of_ble_eq_true rfl, Nat.le_of_ble_eq_true rfl⟩ (fun H8 L8 S8 K8 q8 => ?_)
              obtain ⟨qa8, qb8, tq8⟩ := q8
              have y8_10 : (fI D H8 11 a0 10).toInt = (fI D H6 11 a0 10).toInt := congrArg Int32.toInt (K8.fI ga0 rfl (by decide) (by decide +kernel))
              have y8_12 : (fI D H8 11 a0 12).toInt = (fI D H6 11 a0 12).toInt := congrArg Int32.toInt (K8.fI ga0 rfl (by decide) (by decide +kernel))
              have y8_13 : (fI D H8 11 a0 13).toInt = (fI D H6 11 a0 13).toInt := congrArg Int32.toInt (K8.fI ga0 rfl (by decide) (by decide +kernel))
              have lq8 : Lq D H6 H8 a0 := tq8
              have tk8 : Lq D s.heap H8 a0 := tk6.trans lq8
              refine lv_goto (tgt := 9) hx hb dX12_readCond_34 (by decide) ?_
              have e9 : Ex (Cs D H8 a0) (fI D s.heap 11 a0 16).toInt.toNat (fI D H8 11 a0 16).toInt.toNat := (Ex.bin (((lq4.trans lq6).trans lq8).ex u9_0 (by omega)) ((lq8.ex (sx6 (by omega)) (by omega)).at (i' := (fI D H_9 11 a0 16).toInt.toNat) (by omega) rfl) (by rw [qb8]; decide) rfl).at (by omega) (by omega)
              exact ih9  H8 L8 ls S8 e9 (by omega) tk8 (by omega) (lv_sub hl [0] rfl)
            · have b7 : v6.toInt = (0 : Int32).toInt := i_eq.mp c7
              refine lv_iconst (v := 0) hx hb dX12_readCond_25 (by decide) ?_
              exact retE_z hQ C S6 hr dX12_readCond_26 (z01 (by omega) (by omega)) (⟨by omega, fun h9 => absurd h9 (by decide), fun h9 => absurd h9 (by decide), tk6⟩)
        · skip
          refine lv_if_eq (tgt := 37) hx hb dX12_readCond_15 (by decide) (fun c9 => ?_) (fun c9 => ?_)
          · have b9 : v4.toInt = (0 : Int32).toInt := i_eq.mp c9
            refine lv_iconst (v := 1) hx hb dX12_readCond_37 (by decide) ?_
            have k_1 : (1 : Int32).toInt = 1 := by decide
            exact retE_z hQ C S4 hr dX12_readCond_38 (z01 (by omega) (by omega)) (⟨by omega, fun _ => by omega, fun _ => (lq4.ex u9_0 (by omega)).at (by omega) (by omega), tk4⟩)
          · have b9 : ¬ v4.toInt = (0 : Int32).toInt := fun z9 => c9 (i_eq.mpr z9)
            exact absurd b9 (by omega)
    have ex0 := sx1 (by omega)
    have rn : 0 ≤ (fI D H1 11 a0 10).toInt ∧ (fI D H1 11 a0 10).toInt ≤ 400 := S1.1.rng ga0 rfl (by decide) rfl
    exact Lp9 402  H1 L1 ls S1 (ex0.at (by omega) rfl) (by omega) tk1  (by omega) (lv_sub hl [0] rfl)
  · have b2 : v1.toInt = (0 : Int32).toInt := i_eq.mp c2
    refine lv_iconst (v := 0) hx hb dX12_readCond_7 (by decide) ?_
    exact retE_z hQ C S1 hr dX12_readCond_8 (z01 (by omega) (by omega)) (⟨by omega, fun h9 => absurd h9 (by decide), fun h9 => absurd h9 (by decide), tk1⟩)

set_option maxRecDepth 100000 in
set_option maxHeartbeats 4000000 in
theorem c_X12_readAtom_d5 (l : Launch) (D : DD) (G : Nat → Nat) (a0 : Nat) (ga0 : G a0 = 30) : CE l D G yX12_readAtom cX12_readAtom 2 (some .boolean) 10 [.ref a0] (fun H => (fI D H 11 a0 13).toInt = 5 ∧ (fI D H 11 a0 16).toInt + 3 ≤ (fI D H 11 a0 10).toInt) [(30, 10), (30, 12), (30, 16), (31, 0), (30, 13)] (xI (fun H r H1 => (0 ≤ r.toInt ∧ r.toInt ≤ 1) ∧ (r.toInt = 1 → (fI D H1 11 a0 16).toInt - (fI D H 11 a0 16).toInt ≤ (fI D H1 11 a0 10).toInt - (fI D H 11 a0 10).toInt ∧ (fI D H1 11 a0 13).toInt = (fI D H 11 a0 13).toInt ∧ (fI D H 11 a0 10).toInt ≤ (fI D H1 11 a0 10).toInt) ∧ (r.toInt = 1 → Ex (Cs D H1 a0) (fI D H 11 a0 16).toInt.toNat (fI D H1 11 a0 16).toInt.toNat) ∧ Lq D H H1 a0)) := by
  refine enter (by decide) (Nat.le_of_ble_eq_true rfl) ?_
  intro p e s m args below meth c ls Q hA hQ C hr hO hpre hl
  have hx := C.1
  have hb := C.2.1
  have S : Sd D G [(30, 10), (30, 12), (30, 16), (31, 0), (30, 13)] s.heap s.heap [] := Sd.start hO
  have hl : lv_has ls 2 [(0, .ref a0)] := hl
  have rs0 : 0 ≤ (fI D s.heap 11 a0 16).toInt ∧ (fI D s.heap 11 a0 16).toInt ≤ 400 := hO.rng ga0 rfl (by decide) rfl
  have rp0 : 0 ≤ (fI D s.heap 11 a0 10).toInt ∧ (fI D s.heap 11 a0 10).toInt ≤ 400 := hO.rng ga0 rfl (by decide) rfl
  have tk0 : Lq D s.heap s.heap a0 := Lq.refl
  refine lv_aload_n hx hb dX12_readAtom_0 rfl (lv_at hl 0 rfl) ?_
  refine lv_bipush (v := 40) hx hb dX12_readAtom_1 (by decide) ?_
  have k_40 : (40 : Int32).toInt = 40 := by decide
  refine callV_Ei C S (c_X12_sign l D G a0 (40 : Int32) ga0) kV_X12_193 ga0 (trivial) (by decide +kernel) dX12_readAtom_3 hl.1 rfl rfl (by decide) cd_X12_sign ⟨Nat.le_of_ble_eq_true rfl, Nat.le_of_ble_eq_true rfl, Nat.le_of_ble_eq_true rfl, Nat.le_of_ble_eq_true rfl, Nat.le_of_ble_eq_true rfl⟩ (fun v1 H1 L1 S1 K1 q1 => ?_)
  have y1_13 : (fI D H1 11 a0 13).toInt = (fI D s.heap 11 a0 13).toInt := congrArg Int32.toInt (K1.fI ga0 rfl (by decide) (by decide +kernel))
  have y1_16 : (fI D H1 11 a0 16).toInt = (fI D s.heap 11 a0 16).toInt := congrArg Int32.toInt (K1.fI ga0 rfl (by decide) (by decide +kernel))
  have lq1 : Lq D s.heap H1 a0 := Lq.keep S.1 ga0 K1 (by decide +kernel) (by decide +kernel) (by decide +kernel)
  have tk1 : Lq D s.heap H1 a0 := tk0.trans lq1
  rcases q1 with q1 | q1
  · skip
    have k_0 : (0 : Int32).toInt = 0 := by decide
    refine lv_if_eq (tgt := 56) hx hb dX12_readAtom_6 (by decide) (fun c2 => ?_) (fun c2 => ?_)
    · have b2 : v1.toInt = (0 : Int32).toInt := i_eq.mp c2
      exact absurd b2 (by omega)
    · have b2 : ¬ v1.toInt = (0 : Int32).toInt := fun z9 => c2 (i_eq.mpr z9)
      refine lv_aload_n hx hb dX12_readAtom_9 rfl (lv_at hl 0 rfl) ?_
      have dd : (fI D H1 11 a0 13).toInt = 5 := by omega
      refine q_gi (T := TX12) C S1.1 ga0 13 kF_X12_197 dX12_readAtom_10 rfl rfl (by decide) rfl (by decide) rfl ?_
      have r3 : 0 ≤ (fI D H1 11 a0 13).toInt ∧ (fI D H1 11 a0 13).toInt ≤ 6 := S1.1.rng ga0 rfl (by decide) rfl
      refine lv_bipush (v := 6) hx hb dX12_readAtom_13 (by decide) ?_
      have k_6 : (6 : Int32).toInt = 6 := by decide
      refine lv_icmp_ne (tgt := 20) hx hb dX12_readAtom_15 (by decide) (fun c4 => ?_) (fun c4 => ?_)
      · have b4 : ¬ (fI D H1 11 a0 13).toInt = (6 : Int32).toInt := fun z9 => c4 (i_eq.mpr z9)
        refine lv_aload_n hx hb dX12_readAtom_20 rfl (lv_at hl 0 rfl) ?_
        refine lv_dup hx hb dX12_readAtom_21 rfl ?_
        refine q_gi (T := TX12) C S1.1 ga0 13 kF_X12_197 dX12_readAtom_22 rfl rfl (by decide) rfl (by decide) rfl ?_
        refine lv_iconst (v := 1) hx hb dX12_readAtom_25 (by decide) ?_
        have k_1 : (1 : Int32).toInt = 1 := by decide
        refine lv_iadd hx hb dX12_readAtom_26 ?_
        refine lv_topi (fun v5 ev5 => ?_)
        have f6 : v5.toInt = (fI D H1 11 a0 13).toInt + (1 : Int32).toInt := by rw [ev5]; exact i_add (by omega) (by omega)
        refine q_put (T := TX12) C S1 ga0 13 kF_X12_197 dX12_readAtom_27 rfl rfl (by decide) (by decide) rfl rfl rfl rfl rfl (vok_i rfl (by omega) (by omega)) (by decide +kernel) (fun H7 L7 S7 P7 => ?_)
        have y7_10 : (fI D H7 11 a0 10).toInt = (fI D H1 11 a0 10).toInt := congrArg Int32.toInt (Pt.o P7 (by decide) (by decide))
        have y7_12 : (fI D H7 11 a0 12).toInt = (fI D H1 11 a0 12).toInt := congrArg Int32.toInt (Pt.o P7 (by decide) (by decide))
        have y7_13 : (fI D H7 11 a0 13).toInt = v5.toInt := congrArg Int32.toInt (Pt.i P7)
        have y7_16 : (fI D H7 11 a0 16).toInt = (fI D H1 11 a0 16).toInt := congrArg Int32.toInt (Pt.o P7 (by decide) (by decide))
        have lq7 : Lq D H1 H7 a0 := Lq.put S1.1 ga0 P7 (by decide) (by decide)
        have tk7 : Lq D s.heap H7 a0 := tk1.trans lq7
        refine lv_aload_n hx hb dX12_readAtom_30 rfl (lv_at hl 0 rfl) ?_
        have rs9 : 0 ≤ (fI D H7 11 a0 16).toInt ∧ (fI D H7 11 a0 16).toInt ≤ 400 := S7.1.rng ga0 rfl (by decide) rfl
        have rp9 : 0 ≤ (fI D H7 11 a0 10).toInt ∧ (fI D H7 11 a0 10).toInt ≤ 400 := S7.1.rng ga0 rfl (by decide) rfl
        refine callV_Ei C S7 (c_X12_readCond_d6 l D G a0 ga0) kV_X12_200 ga0 (⟨by omega, by omega⟩) (by decide +kernel) dX12_readAtom_31 hl.1 rfl rfl (by decide) cd_X12_readCond ⟨Nat.le_of_ble_eq_true rfl, Nat.le_of_ble_eq_true rfl, Nat.le_of_ble_eq_true rfl, Nat.le_of_ble_eq_true rfl, Nat.le_of_ble_eq_true rfl⟩ (fun v8 H8 L8 S8 K8 q8 => ?_)
        obtain ⟨q8, sa8, sx8, tq8⟩ := q8
        have lq8 : Lq D H7 H8 a0 := tq8
        have tk8 : Lq D s.heap H8 a0 := tk7.trans lq8
        refine lv_if_ne (tgt := 39) hx hb dX12_readAtom_34 (by decide) (fun c9 => ?_) (fun c9 => ?_)
        · have b9 : ¬ v8.toInt = (0 : Int32).toInt := fun z9 => c9 (i_eq.mpr z9)
          refine lv_aload_n hx hb dX12_readAtom_39 rfl (lv_at hl 0 rfl) ?_
          refine lv_dup hx hb dX12_readAtom_40 rfl ?_
          refine q_gi (T := TX12) C S8.1 ga0 13 kF_X12_197 dX12_readAtom_41 rfl rfl (by decide) rfl (by decide) rfl ?_
          have r10 : 0 ≤ (fI D H8 11 a0 13).toInt ∧ (fI D H8 11 a0 13).toInt ≤ 6 := S8.1.rng ga0 rfl (by decide) rfl
          refine lv_iconst (v := 1) hx hb dX12_readAtom_44 (by decide) ?_
          refine lv_isub hx hb dX12_readAtom_45 ?_
          refine lv_topi (fun v11 ev11 => ?_)
          have f12 : v11.toInt = (fI D H8 11 a0 13).toInt - (1 : Int32).toInt := by rw [ev11]; exact i_sub (by omega) (by omega)
          refine q_put (T := TX12) C S8 ga0 13 kF_X12_197 dX12_readAtom_46 rfl rfl (by decide) (by decide) rfl rfl rfl rfl rfl (vok_i rfl (by omega) (by omega)) (by decide +kernel) (fun H13 L13 S13 P13 => ?_)
          have y13_10 : (fI D H13 11 a0 10).toInt = (fI D H8 11 a0 10).toInt := congrArg Int32.toInt (Pt.o P13 (by decide) (by decide))
          have y13_12 : (fI D H13 11 a0 12).toInt = (fI D H8 11 a0 12).toInt := congrArg Int32.toInt (Pt.o P13 (by decide) (by decide))
          have y13_13 : (fI D H13 11 a0 13).toInt = v11.toInt := congrArg Int32.toInt (Pt.i P13)
          have y13_16 : (fI D H13 11 a0 16).toInt = (fI D H8 11 a0 16).toInt := congrArg Int32.toInt (Pt.o P13 (by decide) (by decide))
          have lq13 : Lq D H8 H13 a0 := Lq.put S8.1 ga0 P13 (by decide) (by decide)
          have tk13 : Lq D s.heap H13 a0 := tk8.trans lq13
          have rs9 : 0 ≤ (fI D H13 11 a0 16).toInt ∧ (fI D H13 11 a0 16).toInt ≤ 400 := S13.1.rng ga0 rfl (by decide) rfl
          have rp9 : 0 ≤ (fI D H13 11 a0 10).toInt ∧ (fI D H13 11 a0 10).toInt ≤ 400 := S13.1.rng ga0 rfl (by decide) rfl
          refine lv_aload_n hx hb dX12_readAtom_49 rfl (lv_at hl 0 rfl) ?_
          refine lv_bipush (v := 41) hx hb dX12_readAtom_50 (by decide) ?_
          have k_41 : (41 : Int32).toInt = 41 := by decide
          refine callV_Ei C S13 (c_X12_sign l D G a0 (41 : Int32) ga0) kV_X12_193 ga0 (trivial) (by decide +kernel) dX12_readAtom_52 hl.1 rfl rfl (by decide) cd_X12_sign ⟨Nat.le_of_ble_eq_true rfl, Nat.le_of_ble_eq_true rfl, Nat.le_of_ble_eq_true rfl, Nat.le_of_ble_eq_true rfl, Nat.le_of_ble_eq_true rfl⟩ (fun v14 H14 L14 S14 K14 q14 => ?_)
          have y14_13 : (fI D H14 11 a0 13).toInt = (fI D H13 11 a0 13).toInt := congrArg Int32.toInt (K14.fI ga0 rfl (by decide) (by decide +kernel))
          have y14_16 : (fI D H14 11 a0 16).toInt = (fI D H13 11 a0 16).toInt := congrArg Int32.toInt (K14.fI ga0 rfl (by decide) (by decide +kernel))
          have lq14 : Lq D H13 H14 a0 := Lq.keep S13.1 ga0 K14 (by decide +kernel) (by decide +kernel) (by decide +kernel)
          have tk14 : Lq D s.heap H14 a0 := tk13.trans lq14
          rcases q14 with q14 | q14
          · skip
            exact retE_z hQ C S14 hr dX12_readAtom_55 (z01 (by omega) (by omega)) (⟨by omega, fun _ => by omega, fun _ => ((lq13.trans lq14).ex (sx8 (by omega)) (by omega)).at (by omega) (by omega), tk14⟩)
          · skip
            exact retE_z hQ C S14 hr dX12_readAtom_55 (z01 (by omega) (by omega)) (⟨by omega, fun _ => by omega, fun _ => ((lq13.trans lq14).ex (sx8 (by omega)) (by omega)).at (by omega) (by omega), tk14⟩)
        · have b9 : v8.toInt = (0 : Int32).toInt := i_eq.mp c9
          refine lv_iconst (v := 0) hx hb dX12_readAtom_37 (by decide) ?_
          exact retE_z hQ C S8 hr dX12_readAtom_38 (z01 (by omega) (by omega)) (⟨by omega, fun h9 => absurd h9 (by decide), fun h9 => absurd h9 (by decide), tk8⟩)
      · have b4 : (fI D H1 11 a0 13).toInt = (6 : Int32).toInt := i_eq.mp c4
        exact absurd b4 (by omega)
  · skip
    have k_0 : (0 : Int32).toInt = 0 := by decide
    refine lv_if_eq (tgt := 56) hx hb dX12_readAtom_6 (by decide) (fun c15 => ?_) (fun c15 => ?_)
    · have b15 : v1.toInt = (0 : Int32).toInt := i_eq.mp c15
      refine lv_aload_n hx hb dX12_readAtom_56 rfl (lv_at hl 0 rfl) ?_
      refine q_lds C ks_X12_203 dX12_readAtom_57 (fun a16 ha16 => ?_)
      refine callV_Ei C S1 (c_X12_passes_w l D G a0 a16 3 ga0 ha16) kV_X12_120 ga0 (trivial) (by decide +kernel) dX12_readAtom_59 hl.1 rfl rfl (by decide) cd_X12_passes ⟨Nat.le_of_ble_eq_true rfl, Nat.le_of_ble_eq_true rfl, Nat.le_of_ble_eq_true rfl, Nat.le_of_ble_eq_true rfl, Nat.le_of_ble_eq_true rfl⟩ (fun v17 H17 L17 S17 K17 q17 => ?_)
      have y17_13 : (fI D H17 11 a0 13).toInt = (fI D H1 11 a0 13).toInt := congrArg Int32.toInt (K17.fI ga0 rfl (by decide) (by decide +kernel))
      have y17_16 : (fI D H17 11 a0 16).toInt = (fI D H1 11 a0 16).toInt := congrArg Int32.toInt (K17.fI ga0 rfl (by decide) (by decide +kernel))
      have lq17 : Lq D H1 H17 a0 := Lq.keep S1.1 ga0 K17 (by decide +kernel) (by decide +kernel) (by decide +kernel)
      have tk17 : Lq D s.heap H17 a0 := tk1.trans lq17
      rcases q17 with q17 | q17
      · skip
        refine lv_if_eq (tgt := 114) hx hb dX12_readAtom_62 (by decide) (fun c18 => ?_) (fun c18 => ?_)
        · have b18 : v17.toInt = (0 : Int32).toInt := i_eq.mp c18
          exact absurd b18 (by omega)
        · have b18 : ¬ v17.toInt = (0 : Int32).toInt := fun z9 => c18 (i_eq.mpr z9)
          refine lv_aload_n hx hb dX12_readAtom_65 rfl (lv_at hl 0 rfl) ?_
          have dd : (fI D H17 11 a0 13).toInt = 5 := by omega
          refine q_gi (T := TX12) C S17.1 ga0 13 kF_X12_197 dX12_readAtom_66 rfl rfl (by decide) rfl (by decide) rfl ?_
          have r19 : 0 ≤ (fI D H17 11 a0 13).toInt ∧ (fI D H17 11 a0 13).toInt ≤ 6 := S17.1.rng ga0 rfl (by decide) rfl
          refine lv_bipush (v := 6) hx hb dX12_readAtom_69 (by decide) ?_
          have k_6 : (6 : Int32).toInt = 6 := by decide
          refine lv_icmp_ne (tgt := 76) hx hb dX12_readAtom_71 (by decide) (fun c20 => ?_) (fun c20 => ?_)
          · have b20 : ¬ (fI D H17 11 a0 13).toInt = (6 : Int32).toInt := fun z9 => c20 (i_eq.mpr z9)
            refine lv_aload_n hx hb dX12_readAtom_76 rfl (lv_at hl 0 rfl) ?_
            refine lv_dup hx hb dX12_readAtom_77 rfl ?_
            refine q_gi (T := TX12) C S17.1 ga0 13 kF_X12_197 dX12_readAtom_78 rfl rfl (by decide) rfl (by decide) rfl ?_
            refine lv_iconst (v := 1) hx hb dX12_readAtom_81 (by decide) ?_
            have k_1 : (1 : Int32).toInt = 1 := by decide
            refine lv_iadd hx hb dX12_readAtom_82 ?_
            refine lv_topi (fun v21 ev21 => ?_)
            have f22 : v21.toInt = (fI D H17 11 a0 13).toInt + (1 : Int32).toInt := by rw [ev21]; exact i_add (by omega) (by omega)
            refine q_put (T := TX12) C S17 ga0 13 kF_X12_197 dX12_readAtom_83 rfl rfl (by decide) (by decide) rfl rfl rfl rfl rfl (vok_i rfl (by omega) (by omega)) (by decide +kernel) (fun H23 L23 S23 P23 => ?_)
            have y23_10 : (fI D H23 11 a0 10).toInt = (fI D H17 11 a0 10).toInt := congrArg Int32.toInt (Pt.o P23 (by decide) (by decide))
            have y23_12 : (fI D H23 11 a0 12).toInt = (fI D H17 11 a0 12).toInt := congrArg Int32.toInt (Pt.o P23 (by decide) (by decide))
            have y23_13 : (fI D H23 11 a0 13).toInt = v21.toInt := congrArg Int32.toInt (Pt.i P23)
            have y23_16 : (fI D H23 11 a0 16).toInt = (fI D H17 11 a0 16).toInt := congrArg Int32.toInt (Pt.o P23 (by decide) (by decide))
            have lq23 : Lq D H17 H23 a0 := Lq.put S17.1 ga0 P23 (by decide) (by decide)
            have tk23 : Lq D s.heap H23 a0 := tk17.trans lq23
            refine lv_aload_n hx hb dX12_readAtom_86 rfl (lv_at hl 0 rfl) ?_
            have rs9 : 0 ≤ (fI D H23 11 a0 16).toInt ∧ (fI D H23 11 a0 16).toInt ≤ 400 := S23.1.rng ga0 rfl (by decide) rfl
            have rp9 : 0 ≤ (fI D H23 11 a0 10).toInt ∧ (fI D H23 11 a0 10).toInt ≤ 400 := S23.1.rng ga0 rfl (by decide) rfl
            refine callV_Ei C S23 (c_X12_readAtom_d6 l D G a0 ga0) kV_X12_205 ga0 (⟨by omega, by omega⟩) (by decide +kernel) dX12_readAtom_87 hl.1 rfl rfl (by decide) cd_X12_readAtom ⟨Nat.le_of_ble_eq_true rfl, Nat.le_of_ble_eq_true rfl, Nat.le_of_ble_eq_true rfl, Nat.le_of_ble_eq_true rfl, Nat.le_of_ble_eq_true rfl⟩ (fun v24 H24 L24 S24 K24 q24 => ?_)
            obtain ⟨q24, sa24, sx24, tq24⟩ := q24
            have lq24 : Lq D H23 H24 a0 := tq24
            have tk24 : Lq D s.heap H24 a0 := tk23.trans lq24
            refine lv_if_ne (tgt := 95) hx hb dX12_readAtom_90 (by decide) (fun c25 => ?_) (fun c25 => ?_)
            · have b25 : ¬ v24.toInt = (0 : Int32).toInt := fun z9 => c25 (i_eq.mpr z9)
              refine lv_aload_n hx hb dX12_readAtom_95 rfl (lv_at hl 0 rfl) ?_
              refine lv_dup hx hb dX12_readAtom_96 rfl ?_
              refine q_gi (T := TX12) C S24.1 ga0 13 kF_X12_197 dX12_readAtom_97 rfl rfl (by decide) rfl (by decide) rfl ?_
              have r26 : 0 ≤ (fI D H24 11 a0 13).toInt ∧ (fI D H24 11 a0 13).toInt ≤ 6 := S24.1.rng ga0 rfl (by decide) rfl
              refine lv_iconst (v := 1) hx hb dX12_readAtom_100 (by decide) ?_
              refine lv_isub hx hb dX12_readAtom_101 ?_
              refine lv_topi (fun v27 ev27 => ?_)
              have f28 : v27.toInt = (fI D H24 11 a0 13).toInt - (1 : Int32).toInt := by rw [ev27]; exact i_sub (by omega) (by omega)
              refine q_put (T := TX12) C S24 ga0 13 kF_X12_197 dX12_readAtom_102 rfl rfl (by decide) (by decide) rfl rfl rfl rfl rfl (vok_i rfl (by omega) (by omega)) (by decide +kernel) (fun H29 L29 S29 P29 => ?_)
              have y29_10 : (fI D H29 11 a0 10).toInt = (fI D H24 11 a0 10).toInt := congrArg Int32.toInt (Pt.o P29 (by decide) (by decide))
              have y29_12 : (fI D H29 11 a0 12).toInt = (fI D H24 11 a0 12).toInt := congrArg Int32.toInt (Pt.o P29 (by decide) (by decide))
              have y29_13 : (fI D H29 11 a0 13).toInt = v27.toInt := congrArg Int32.toInt (Pt.i P29)
              have y29_16 : (fI D H29 11 a0 16).toInt = (fI D H24 11 a0 16).toInt := congrArg Int32.toInt (Pt.o P29 (by decide) (by decide))
              have lq29 : Lq D H24 H29 a0 := Lq.put S24.1 ga0 P29 (by decide) (by decide)
              have tk29 : Lq D s.heap H29 a0 := tk24.trans lq29
              refine lv_aload_n hx hb dX12_readAtom_105 rfl (lv_at hl 0 rfl) ?_
              refine lv_bipush (v := 15) hx hb dX12_readAtom_106 (by decide) ?_
              refine lv_iconst (v := 0) hx hb dX12_readAtom_108 (by decide) ?_
              have rs9 : 0 ≤ (fI D H29 11 a0 16).toInt ∧ (fI D H29 11 a0 16).toInt ≤ 400 := S29.1.rng ga0 rfl (by decide) rfl
              have rp9 : 0 ≤ (fI D H29 11 a0 10).toInt ∧ (fI D H29 11 a0 10).toInt ≤ 400 := S29.1.rng ga0 rfl (by decide) rfl
              have k_15 : (15 : Int32).toInt = 15 := by decide
              refine callV_Ev C S29 (c_X12_emits l D G a0 (15 : Int32) (0 : Int32) ga0) kV_X12_185 ga0 (by omega) (by decide +kernel) dX12_readAtom_109 hl.1 rfl rfl (by decide) cd_X12_emits ⟨Nat.le_of_ble_eq_true rfl, Nat.le_of_ble_eq_true rfl, Nat.le_of_ble_eq_true rfl, Nat.le_of_ble_eq_true rfl, Nat.le_of_ble_eq_true rfl⟩ (fun H30 L30 S30 K30 q30 => ?_)
              obtain ⟨qa30, qb30, tq30⟩ := q30
              have y30_10 : (fI D H30 11 a0 10).toInt = (fI D H29 11 a0 10).toInt := congrArg Int32.toInt (K30.fI ga0 rfl (by decide) (by decide +kernel))
              have y30_12 : (fI D H30 11 a0 12).toInt = (fI D H29 11 a0 12).toInt := congrArg Int32.toInt (K30.fI ga0 rfl (by decide) (by decide +kernel))
              have y30_13 : (fI D H30 11 a0 13).toInt = (fI D H29 11 a0 13).toInt := congrArg Int32.toInt (K30.fI ga0 rfl (by decide) (by decide +kernel))
              have lq30 : Lq D H29 H30 a0 := tq30
              have tk30 : Lq D s.heap H30 a0 := tk29.trans lq30
              refine lv_iconst (v := 1) hx hb dX12_readAtom_112 (by decide) ?_
              exact retE_z hQ C S30 hr dX12_readAtom_113 (z01 (by omega) (by omega)) (⟨by omega, fun _ => by omega, fun _ => (Ex.un (((lq29.trans lq30).ex (sx24 (by omega)) (by omega)).at (j' := (fI D H29 11 a0 16).toInt.toNat) rfl (by omega)) (by rw [qb30]; decide) rfl).at (by omega) (by omega), tk30⟩)
            · have b25 : v24.toInt = (0 : Int32).toInt := i_eq.mp c25
              refine lv_iconst (v := 0) hx hb dX12_readAtom_93 (by decide) ?_
              exact retE_z hQ C S24 hr dX12_readAtom_94 (z01 (by omega) (by omega)) (⟨by omega, fun h9 => absurd h9 (by decide), fun h9 => absurd h9 (by decide), tk24⟩)
          · have b20 : (fI D H17 11 a0 13).toInt = (6 : Int32).toInt := i_eq.mp c20
            exact absurd b20 (by omega)
      · skip
        refine lv_if_eq (tgt := 114) hx hb dX12_readAtom_62 (by decide) (fun c31 => ?_) (fun c31 => ?_)
        · have b31 : v17.toInt = (0 : Int32).toInt := i_eq.mp c31
          refine lv_aload_n hx hb dX12_readAtom_114 rfl (lv_at hl 0 rfl) ?_
          have rs9 : 0 ≤ (fI D H17 11 a0 16).toInt ∧ (fI D H17 11 a0 16).toInt ≤ 400 := S17.1.rng ga0 rfl (by decide) rfl
          have rp9 : 0 ≤ (fI D H17 11 a0 10).toInt ∧ (fI D H17 11 a0 10).toInt ≤ 400 := S17.1.rng ga0 rfl (by decide) rfl
          refine callV_Ei C S17 (c_X12_readTag l D G a0 ga0) kV_X12_208 ga0 (by omega) (by decide +kernel) dX12_readAtom_115 hl.1 rfl rfl (by decide) cd_X12_readTag ⟨Nat.le_of_ble_eq_true rfl, Nat.le_of_ble_eq_true rfl, Nat.le_of_ble_eq_true rfl, Nat.le_of_ble_eq_true rfl, Nat.le_of_ble_eq_true rfl⟩ (fun v32 H32 L32 S32 K32 q32 => ?_)
          obtain ⟨q32, sa32, sx32, tq32, sf32⟩ := q32
          have y32_13 : (fI D H32 11 a0 13).toInt = (fI D H17 11 a0 13).toInt := congrArg Int32.toInt (K32.fI ga0 rfl (by decide) (by decide +kernel))
          have lq32 : Lq D H17 H32 a0 := tq32
          have tk32 : Lq D s.heap H32 a0 := tk17.trans lq32
          refine lv_if_eq (tgt := 123) hx hb dX12_readAtom_118 (by decide) (fun c33 => ?_) (fun c33 => ?_)
          · have b33 : v32.toInt = (0 : Int32).toInt := i_eq.mp c33
            refine lv_aload_n hx hb dX12_readAtom_123 rfl (lv_at hl 0 rfl) ?_
            have rs9 : 0 ≤ (fI D H32 11 a0 16).toInt ∧ (fI D H32 11 a0 16).toInt ≤ 400 := S32.1.rng ga0 rfl (by decide) rfl
            have rp9 : 0 ≤ (fI D H32 11 a0 10).toInt ∧ (fI D H32 11 a0 10).toInt ≤ 400 := S32.1.rng ga0 rfl (by decide) rfl
            refine callV_Ei C S32 (c_X12_readSum l D G a0 ga0) kV_X12_211 ga0 (by omega) (by decide +kernel) dX12_readAtom_124 hl.1 rfl rfl (by decide) cd_X12_readSum ⟨Nat.le_of_ble_eq_true rfl, Nat.le_of_ble_eq_true rfl, Nat.le_of_ble_eq_true rfl, Nat.le_of_ble_eq_true rfl, Nat.le_of_ble_eq_true rfl⟩ (fun v34 H34 L34 S34 K34 q34 => ?_)
            obtain ⟨q34, sa34, sx34, tq34⟩ := q34
            have y34_13 : (fI D H34 11 a0 13).toInt = (fI D H32 11 a0 13).toInt := congrArg Int32.toInt (K34.fI ga0 rfl (by decide) (by decide +kernel))
            have lq34 : Lq D H32 H34 a0 := tq34
            have tk34 : Lq D s.heap H34 a0 := tk32.trans lq34
            refine lv_if_ne (tgt := 132) hx hb dX12_readAtom_127 (by decide) (fun c35 => ?_) (fun c35 => ?_)
            · have b35 : ¬ v34.toInt = (0 : Int32).toInt := fun z9 => c35 (i_eq.mpr z9)
              refine lv_aload_n hx hb dX12_readAtom_132 rfl (lv_at hl 0 rfl) ?_
              refine lv_bipush (v := 60) hx hb dX12_readAtom_133 (by decide) ?_
              have k_60 : (60 : Int32).toInt = 60 := by decide
              refine callV_Ei C S34 (c_X12_sign l D G a0 (60 : Int32) ga0) kV_X12_193 ga0 (trivial) (by decide +kernel) dX12_readAtom_135 hl.1 rfl rfl (by decide) cd_X12_sign ⟨Nat.le_of_ble_eq_true rfl, Nat.le_of_ble_eq_true rfl, Nat.le_of_ble_eq_true rfl, Nat.le_of_ble_eq_true rfl, Nat.le_of_ble_eq_true rfl⟩ (fun v36 H36 L36 S36 K36 q36 => ?_)
              have y36_13 : (fI D H36 11 a0 13).toInt = (fI D H34 11 a0 13).toInt := congrArg Int32.toInt (K36.fI ga0 rfl (by decide) (by decide +kernel))
              have y36_16 : (fI D H36 11 a0 16).toInt = (fI D H34 11 a0 16).toInt := congrArg Int32.toInt (K36.fI ga0 rfl (by decide) (by decide +kernel))
              have lq36 : Lq D H34 H36 a0 := Lq.keep S34.1 ga0 K36 (by decide +kernel) (by decide +kernel) (by decide +kernel)
              have tk36 : Lq D s.heap H36 a0 := tk34.trans lq36
              rcases q36 with q36 | q36
              · skip
                refine lv_istore_n (lv' := [(1, .int v36), (0, .ref a0)]) hx hb dX12_readAtom_138 rfl hl (by decide) rfl (fun ls hl => ?_)
                refine lv_iload_n hx hb dX12_readAtom_139 rfl (lv_at hl 0 rfl) ?_
                refine lv_if_ne (tgt := 152) hx hb dX12_readAtom_140 (by decide) (fun c37 => ?_) (fun c37 => ?_)
                · have b37 : ¬ v36.toInt = (0 : Int32).toInt := fun z9 => c37 (i_eq.mpr z9)
                  refine lv_aload_n hx hb dX12_readAtom_152 rfl (lv_at hl 1 rfl) ?_
                  have rs9 : 0 ≤ (fI D H36 11 a0 16).toInt ∧ (fI D H36 11 a0 16).toInt ≤ 400 := S36.1.rng ga0 rfl (by decide) rfl
                  have rp9 : 0 ≤ (fI D H36 11 a0 10).toInt ∧ (fI D H36 11 a0 10).toInt ≤ 400 := S36.1.rng ga0 rfl (by decide) rfl
                  refine callV_Ei C S36 (c_X12_readSum l D G a0 ga0) kV_X12_211 ga0 (by omega) (by decide +kernel) dX12_readAtom_153 hl.1 rfl rfl (by decide) cd_X12_readSum ⟨Nat.le_of_ble_eq_true rfl, Nat.le_of_ble_eq_true rfl, Nat.le_of_ble_eq_true rfl, Nat.le_of_ble_eq_true rfl, Nat.le_of_ble_eq_true rfl⟩ (fun v38 H38 L38 S38 K38 q38 => ?_)
                  obtain ⟨q38, sa38, sx38, tq38⟩ := q38
                  have y38_13 : (fI D H38 11 a0 13).toInt = (fI D H36 11 a0 13).toInt := congrArg Int32.toInt (K38.fI ga0 rfl (by decide) (by decide +kernel))
                  have lq38 : Lq D H36 H38 a0 := tq38
                  have tk38 : Lq D s.heap H38 a0 := tk36.trans lq38
                  refine lv_if_ne (tgt := 161) hx hb dX12_readAtom_156 (by decide) (fun c39 => ?_) (fun c39 => ?_)
                  · have b39 : ¬ v38.toInt = (0 : Int32).toInt := fun z9 => c39 (i_eq.mpr z9)
                    refine lv_aload_n hx hb dX12_readAtom_161 rfl (lv_at hl 1 rfl) ?_
                    refine lv_iload_n hx hb dX12_readAtom_162 rfl (lv_at hl 0 rfl) ?_
                    refine lv_if_eq (tgt := 171) hx hb dX12_readAtom_163 (by decide) (fun c40 => ?_) (fun c40 => ?_)
                    · have b40 : v36.toInt = (0 : Int32).toInt := i_eq.mp c40
                      exact absurd b40 (by omega)
                    · have b40 : ¬ v36.toInt = (0 : Int32).toInt := fun z9 => c40 (i_eq.mpr z9)
                      refine lv_bipush (v := 13) hx hb dX12_readAtom_166 (by decide) ?_
                      refine lv_goto (tgt := 173) hx hb dX12_readAtom_168 (by decide) ?_
                      refine lv_iconst (v := 0) hx hb dX12_readAtom_173 (by decide) ?_
                      have rs9 : 0 ≤ (fI D H38 11 a0 16).toInt ∧ (fI D H38 11 a0 16).toInt ≤ 400 := S38.1.rng ga0 rfl (by decide) rfl
                      have rp9 : 0 ≤ (fI D H38 11 a0 10).toInt ∧ (fI D H38 11 a0 10).toInt ≤ 400 := S38.1.rng ga0 rfl (by decide) rfl
                      have k_13 : (13 : Int32).toInt = 13 := by decide
                      refine callV_Ev C S38 (c_X12_emits l D G a0 (13 : Int32) (0 : Int32) ga0) kV_X12_185 ga0 (by omega) (by decide +kernel) dX12_readAtom_174 hl.1 rfl rfl (by decide) cd_X12_emits ⟨Nat.le_of_ble_eq_true rfl, Nat.le_of_ble_eq_true rfl, Nat.le_of_ble_eq_true rfl, Nat.le_of_ble_eq_true rfl, Nat.le_of_ble_eq_true rfl⟩ (fun H41 L41 S41 K41 q41 => ?_)
                      obtain ⟨qa41, qb41, tq41⟩ := q41
                      have y41_10 : (fI D H41 11 a0 10).toInt = (fI D H38 11 a0 10).toInt := congrArg Int32.toInt (K41.fI ga0 rfl (by decide) (by decide +kernel))
                      have y41_12 : (fI D H41 11 a0 12).toInt = (fI D H38 11 a0 12).toInt := congrArg Int32.toInt (K41.fI ga0 rfl (by decide) (by decide +kernel))
                      have y41_13 : (fI D H41 11 a0 13).toInt = (fI D H38 11 a0 13).toInt := congrArg Int32.toInt (K41.fI ga0 rfl (by decide) (by decide +kernel))
                      have lq41 : Lq D H38 H41 a0 := tq41
                      have tk41 : Lq D s.heap H41 a0 := tk38.trans lq41
                      refine lv_iconst (v := 1) hx hb dX12_readAtom_177 (by decide) ?_
                      have k_1 : (1 : Int32).toInt = 1 := by decide
                      exact retE_z hQ C S41 hr dX12_readAtom_178 (z01 (by omega) (by omega)) (⟨by omega, fun _ => by omega, fun _ => (Ex.bin (((lq36.trans lq38).trans lq41).ex (sx34 (by omega)) (by omega)) ((lq41.ex (sx38 (by omega)) (by omega)).at (i' := (fI D H34 11 a0 16).toInt.toNat) (by omega) rfl) (by rw [qb41]; decide) rfl).at (by omega) (by omega), tk41⟩)
                  · have b39 : v38.toInt = (0 : Int32).toInt := i_eq.mp c39
                    refine lv_iconst (v := 0) hx hb dX12_readAtom_159 (by decide) ?_
                    exact retE_z hQ C S38 hr dX12_readAtom_160 (z01 (by omega) (by omega)) (⟨by omega, fun h9 => absurd h9 (by decide), fun h9 => absurd h9 (by decide), tk38⟩)
                · have b37 : v36.toInt = (0 : Int32).toInt := i_eq.mp c37
                  exact absurd b37 (by omega)
              · skip
                refine lv_istore_n (lv' := [(1, .int v36), (0, .ref a0)]) hx hb dX12_readAtom_138 rfl hl (by decide) rfl (fun ls hl => ?_)
                refine lv_iload_n hx hb dX12_readAtom_139 rfl (lv_at hl 0 rfl) ?_
                refine lv_if_ne (tgt := 152) hx hb dX12_readAtom_140 (by decide) (fun c42 => ?_) (fun c42 => ?_)
                · have b42 : ¬ v36.toInt = (0 : Int32).toInt := fun z9 => c42 (i_eq.mpr z9)
                  exact absurd b42 (by omega)
                · have b42 : v36.toInt = (0 : Int32).toInt := i_eq.mp c42
                  refine lv_aload_n hx hb dX12_readAtom_143 rfl (lv_at hl 1 rfl) ?_
                  refine lv_bipush (v := 62) hx hb dX12_readAtom_144 (by decide) ?_
                  have k_62 : (62 : Int32).toInt = 62 := by decide
                  refine callV_Ei C S36 (c_X12_sign l D G a0 (62 : Int32) ga0) kV_X12_193 ga0 (trivial) (by decide +kernel) dX12_readAtom_146 hl.1 rfl rfl (by decide) cd_X12_sign ⟨Nat.le_of_ble_eq_true rfl, Nat.le_of_ble_eq_true rfl, Nat.le_of_ble_eq_true rfl, Nat.le_of_ble_eq_true rfl, Nat.le_of_ble_eq_true rfl⟩ (fun v43 H43 L43 S43 K43 q43 => ?_)
                  have y43_13 : (fI D H43 11 a0 13).toInt = (fI D H36 11 a0 13).toInt := congrArg Int32.toInt (K43.fI ga0 rfl (by decide) (by decide +kernel))
                  have y43_16 : (fI D H43 11 a0 16).toInt = (fI D H36 11 a0 16).toInt := congrArg Int32.toInt (K43.fI ga0 rfl (by decide) (by decide +kernel))
                  have lq43 : Lq D H36 H43 a0 := Lq.keep S36.1 ga0 K43 (by decide +kernel) (by decide +kernel) (by decide +kernel)
                  have tk43 : Lq D s.heap H43 a0 := tk36.trans lq43
                  rcases q43 with q43 | q43
                  · skip
                    refine lv_if_eq (tgt := 159) hx hb dX12_readAtom_149 (by decide) (fun c44 => ?_) (fun c44 => ?_)
                    · have b44 : v43.toInt = (0 : Int32).toInt := i_eq.mp c44
                      exact absurd b44 (by omega)
                    · have b44 : ¬ v43.toInt = (0 : Int32).toInt := fun z9 => c44 (i_eq.mpr z9)
                      refine lv_aload_n hx hb dX12_readAtom_152 rfl (lv_at hl 1 rfl) ?_
                      have rs9 : 0 ≤ (fI D H43 11 a0 16).toInt ∧ (fI D H43 11 a0 16).toInt ≤ 400 := S43.1.rng ga0 rfl (by decide) rfl
                      have rp9 : 0 ≤ (fI D H43 11 a0 10).toInt ∧ (fI D H43 11 a0 10).toInt ≤ 400 := S43.1.rng ga0 rfl (by decide) rfl
                      refine callV_Ei C S43 (c_X12_readSum l D G a0 ga0) kV_X12_211 ga0 (by omega) (by decide +kernel) dX12_readAtom_153 hl.1 rfl rfl (by decide) cd_X12_readSum ⟨Nat.le_of_ble_eq_true rfl, Nat.le_of_ble_eq_true rfl, Nat.le_of_ble_eq_true rfl, Nat.le_of_ble_eq_true rfl, Nat.le_of_ble_eq_true rfl⟩ (fun v45 H45 L45 S45 K45 q45 => ?_)
                      obtain ⟨q45, sa45, sx45, tq45⟩ := q45
                      have y45_13 : (fI D H45 11 a0 13).toInt = (fI D H43 11 a0 13).toInt := congrArg Int32.toInt (K45.fI ga0 rfl (by decide) (by decide +kernel))
                      have lq45 : Lq D H43 H45 a0 := tq45
                      have tk45 : Lq D s.heap H45 a0 := tk43.trans lq45
                      refine lv_if_ne (tgt := 161) hx hb dX12_readAtom_156 (by decide) (fun c46 => ?_) (fun c46 => ?_)
                      · have b46 : ¬ v45.toInt = (0 : Int32).toInt := fun z9 => c46 (i_eq.mpr z9)
                        refine lv_aload_n hx hb dX12_readAtom_161 rfl (lv_at hl 1 rfl) ?_
                        refine lv_iload_n hx hb dX12_readAtom_162 rfl (lv_at hl 0 rfl) ?_
                        refine lv_if_eq (tgt := 171) hx hb dX12_readAtom_163 (by decide) (fun c47 => ?_) (fun c47 => ?_)
                        · have b47 : v36.toInt = (0 : Int32).toInt := i_eq.mp c47
                          refine lv_bipush (v := 14) hx hb dX12_readAtom_171 (by decide) ?_
                          refine lv_iconst (v := 0) hx hb dX12_readAtom_173 (by decide) ?_
                          have rs9 : 0 ≤ (fI D H45 11 a0 16).toInt ∧ (fI D H45 11 a0 16).toInt ≤ 400 := S45.1.rng ga0 rfl (by decide) rfl
                          have rp9 : 0 ≤ (fI D H45 11 a0 10).toInt ∧ (fI D H45 11 a0 10).toInt ≤ 400 := S45.1.rng ga0 rfl (by decide) rfl
                          have k_14 : (14 : Int32).toInt = 14 := by decide
                          refine callV_Ev C S45 (c_X12_emits l D G a0 (14 : Int32) (0 : Int32) ga0) kV_X12_185 ga0 (by omega) (by decide +kernel) dX12_readAtom_174 hl.1 rfl rfl (by decide) cd_X12_emits ⟨Nat.le_of_ble_eq_true rfl, Nat.le_of_ble_eq_true rfl, Nat.le_of_ble_eq_true rfl, Nat.le_of_ble_eq_true rfl, Nat.le_of_ble_eq_true rfl⟩ (fun H48 L48 S48 K48 q48 => ?_)
                          obtain ⟨qa48, qb48, tq48⟩ := q48
                          have y48_10 : (fI D H48 11 a0 10).toInt = (fI D H45 11 a0 10).toInt := congrArg Int32.toInt (K48.fI ga0 rfl (by decide) (by decide +kernel))
                          have y48_12 : (fI D H48 11 a0 12).toInt = (fI D H45 11 a0 12).toInt := congrArg Int32.toInt (K48.fI ga0 rfl (by decide) (by decide +kernel))
                          have y48_13 : (fI D H48 11 a0 13).toInt = (fI D H45 11 a0 13).toInt := congrArg Int32.toInt (K48.fI ga0 rfl (by decide) (by decide +kernel))
                          have lq48 : Lq D H45 H48 a0 := tq48
                          have tk48 : Lq D s.heap H48 a0 := tk45.trans lq48
                          refine lv_iconst (v := 1) hx hb dX12_readAtom_177 (by decide) ?_
                          have k_1 : (1 : Int32).toInt = 1 := by decide
                          exact retE_z hQ C S48 hr dX12_readAtom_178 (z01 (by omega) (by omega)) (⟨by omega, fun _ => by omega, fun _ => (Ex.bin ((((lq36.trans lq43).trans lq45).trans lq48).ex (sx34 (by omega)) (by omega)) ((lq48.ex (sx45 (by omega)) (by omega)).at (i' := (fI D H34 11 a0 16).toInt.toNat) (by omega) rfl) (by rw [qb48]; decide) rfl).at (by omega) (by omega), tk48⟩)
                        · have b47 : ¬ v36.toInt = (0 : Int32).toInt := fun z9 => c47 (i_eq.mpr z9)
                          exact absurd b47 (by omega)
                      · have b46 : v45.toInt = (0 : Int32).toInt := i_eq.mp c46
                        refine lv_iconst (v := 0) hx hb dX12_readAtom_159 (by decide) ?_
                        exact retE_z hQ C S45 hr dX12_readAtom_160 (z01 (by omega) (by omega)) (⟨by omega, fun h9 => absurd h9 (by decide), fun h9 => absurd h9 (by decide), tk45⟩)
                  · skip
                    refine lv_if_eq (tgt := 159) hx hb dX12_readAtom_149 (by decide) (fun c49 => ?_) (fun c49 => ?_)
                    · have b49 : v43.toInt = (0 : Int32).toInt := i_eq.mp c49
                      refine lv_iconst (v := 0) hx hb dX12_readAtom_159 (by decide) ?_
                      exact retE_z hQ C S43 hr dX12_readAtom_160 (z01 (by omega) (by omega)) (⟨by omega, fun h9 => absurd h9 (by decide), fun h9 => absurd h9 (by decide), tk43⟩)
                    · have b49 : ¬ v43.toInt = (0 : Int32).toInt := fun z9 => c49 (i_eq.mpr z9)
                      exact absurd b49 (by omega)
            · have b35 : v34.toInt = (0 : Int32).toInt := i_eq.mp c35
              refine lv_iconst (v := 0) hx hb dX12_readAtom_130 (by decide) ?_
              exact retE_z hQ C S34 hr dX12_readAtom_131 (z01 (by omega) (by omega)) (⟨by omega, fun h9 => absurd h9 (by decide), fun h9 => absurd h9 (by decide), tk34⟩)
          · have b33 : ¬ v32.toInt = (0 : Int32).toInt := fun z9 => c33 (i_eq.mpr z9)
            refine lv_iconst (v := 1) hx hb dX12_readAtom_121 (by decide) ?_
            have k_1 : (1 : Int32).toInt = 1 := by decide
            exact retE_z hQ C S32 hr dX12_readAtom_122 (z01 (by omega) (by omega)) (⟨by omega, fun _ => by omega, fun _ => (sx32 (by omega)).at (by omega) rfl, tk32⟩)
        · have b31 : ¬ v17.toInt = (0 : Int32).toInt := fun z9 => c31 (i_eq.mpr z9)
          exact absurd b31 (by omega)
    · have b15 : ¬ v1.toInt = (0 : Int32).toInt := fun z9 => c15 (i_eq.mpr z9)
      exact absurd b15 (by omega)

set_option maxRecDepth 100000 in
set_option maxHeartbeats 4000000 in
theorem c_X12_readAllOf_d5 (l : Launch) (D : DD) (G : Nat → Nat) (a0 : Nat) (ga0 : G a0 = 30) : CE l D G yX12_readAllOf cX12_readAllOf 1 (some .boolean) 11 [.ref a0] (fun H => (fI D H 11 a0 13).toInt = 5 ∧ (fI D H 11 a0 16).toInt + 3 ≤ (fI D H 11 a0 10).toInt) [(30, 10), (30, 12), (30, 16), (31, 0), (30, 13)] (xI (fun H r H1 => (0 ≤ r.toInt ∧ r.toInt ≤ 1) ∧ (r.toInt = 1 → (fI D H1 11 a0 16).toInt - (fI D H 11 a0 16).toInt ≤ (fI D H1 11 a0 10).toInt - (fI D H 11 a0 10).toInt ∧ (fI D H1 11 a0 13).toInt = (fI D H 11 a0 13).toInt ∧ (fI D H 11 a0 10).toInt ≤ (fI D H1 11 a0 10).toInt) ∧ (r.toInt = 1 → Ex (Cs D H1 a0) (fI D H 11 a0 16).toInt.toNat (fI D H1 11 a0 16).toInt.toNat) ∧ Lq D H H1 a0)) := by
  refine enter (by decide) (Nat.le_of_ble_eq_true rfl) ?_
  intro p e s m args below meth c ls Q hA hQ C hr hO hpre hl
  have hx := C.1
  have hb := C.2.1
  have S : Sd D G [(30, 10), (30, 12), (30, 16), (31, 0), (30, 13)] s.heap s.heap [] := Sd.start hO
  have hl : lv_has ls 1 [(0, .ref a0)] := hl
  have rs0 : 0 ≤ (fI D s.heap 11 a0 16).toInt ∧ (fI D s.heap 11 a0 16).toInt ≤ 400 := hO.rng ga0 rfl (by decide) rfl
  have rp0 : 0 ≤ (fI D s.heap 11 a0 10).toInt ∧ (fI D s.heap 11 a0 10).toInt ≤ 400 := hO.rng ga0 rfl (by decide) rfl
  have tk0 : Lq D s.heap s.heap a0 := Lq.refl
  refine lv_aload_n hx hb dX12_readAllOf_0 rfl (lv_at hl 0 rfl) ?_
  refine callV_Ei C S (c_X12_readAtom_d5 l D G a0 ga0) kV_X12_205 ga0 (hpre) (by decide +kernel) dX12_readAllOf_1 hl.1 rfl rfl (by decide) cd_X12_readAtom ⟨Nat.le_of_ble_eq_true rfl, Nat.le_of_ble_eq_true rfl, Nat.le_of_ble_eq_true rfl, Nat.le_of_ble_eq_true rfl, Nat.le_of_ble_eq_true rfl⟩ (fun v1 H1 L1 S1 K1 q1 => ?_)
  obtain ⟨q1, sa1, sx1, tq1⟩ := q1
  have lq1 : Lq D s.heap H1 a0 := tq1
  have tk1 : Lq D s.heap H1 a0 := tk0.trans lq1
  have k_0 : (0 : Int32).toInt = 0 := by decide
  refine lv_if_ne (tgt := 9) hx hb dX12_readAllOf_4 (by decide) (fun c2 => ?_) (fun c2 => ?_)
  · have b2 : ¬ v1.toInt = (0 : Int32).toInt := fun z9 => c2 (i_eq.mpr z9)
    have Lp9 : ∀ (n : Nat)  (H_9 : Heap) (L_9 : List Loc) (ls : Array Slot), (Sd D G [(30, 10), (30, 12), (30, 16), (31, 0), (30, 13)] s.heap H_9 L_9) → (Ex (Cs D H_9 a0) (fI D s.heap 11 a0 16).toInt.toNat (fI D H_9 11 a0 16).toInt.toNat) → ((fI D H_9 11 a0 16).toInt - (fI D s.heap 11 a0 16).toInt ≤ (fI D H_9 11 a0 10).toInt - (fI D s.heap 11 a0 10).toInt ∧ (fI D H_9 11 a0 13).toInt = (fI D s.heap 11 a0 13).toInt ∧ (fI D s.heap 11 a0 10).toInt ≤ (fI D H_9 11 a0 10).toInt) → (Lq D s.heap H_9 a0) → 401 - (fI D H_9 11 a0 10).toInt ≤ (n : Int) → lv_has ls 1 [(0, .ref a0)] → W p l e (rmU 11 0 0) s m args below meth c H_9 L_9 0 0 Q (F0 m 9 ls []) := by
      intro n
      induction n with
      | zero =>
        intro H_9 L_9 ls S_9 u9_0 u9_1 u9_2 hn hl
        have rz : 0 ≤ (fI D H_9 11 a0 10).toInt ∧ (fI D H_9 11 a0 10).toInt ≤ 400 := S_9.1.rng ga0 rfl (by decide) rfl
        exact absurd hn (by omega)
      | succ n ih9 =>
        intro H_9 L_9 ls S_9 u9_0 u9_1 u9_2 hn hl
        have rs9 : 0 ≤ (fI D H_9 11 a0 16).toInt ∧ (fI D H_9 11 a0 16).toInt ≤ 400 := S_9.1.rng ga0 rfl (by decide) rfl
        have rp9 : 0 ≤ (fI D H_9 11 a0 10).toInt ∧ (fI D H_9 11 a0 10).toInt ≤ 400 := S_9.1.rng ga0 rfl (by decide) rfl
        refine lv_aload_n hx hb dX12_readAllOf_9 rfl (lv_at hl 0 rfl) ?_
        refine q_lds C ks_X12_214 dX12_readAllOf_10 (fun a3 ha3 => ?_)
        refine callV_Ei C S_9 (c_X12_passes_w l D G a0 a3 3 ga0 ha3) kV_X12_120 ga0 (trivial) (by decide +kernel) dX12_readAllOf_12 hl.1 rfl rfl (by decide) cd_X12_passes ⟨Nat.le_of_ble_eq_true rfl, Nat.le_of_ble_eq_true rfl, Nat.le_of_ble_eq_true rfl, Nat.le_of_ble_eq_true rfl, Nat.le_of_ble_eq_true rfl⟩ (fun v4 H4 L4 S4 K4 q4 => ?_)
        have y4_13 : (fI D H4 11 a0 13).toInt = (fI D H_9 11 a0 13).toInt := congrArg Int32.toInt (K4.fI ga0 rfl (by decide) (by decide +kernel))
        have y4_16 : (fI D H4 11 a0 16).toInt = (fI D H_9 11 a0 16).toInt := congrArg Int32.toInt (K4.fI ga0 rfl (by decide) (by decide +kernel))
        have lq4 : Lq D H_9 H4 a0 := Lq.keep S_9.1 ga0 K4 (by decide +kernel) (by decide +kernel) (by decide +kernel)
        have tk4 : Lq D s.heap H4 a0 := u9_2.trans lq4
        rcases q4 with q4 | q4
        · skip
          refine lv_if_eq (tgt := 37) hx hb dX12_readAllOf_15 (by decide) (fun c5 => ?_) (fun c5 => ?_)
          · have b5 : v4.toInt = (0 : Int32).toInt := i_eq.mp c5
            exact absurd b5 (by omega)
          · have b5 : ¬ v4.toInt = (0 : Int32).toInt := fun z9 => c5 (i_eq.mpr z9)
            refine lv_aload_n hx hb dX12_readAllOf_18 rfl (lv_at hl 0 rfl) ?_
            have rs9 : 0 ≤ (fI D H4 11 a0 16).toInt ∧ (fI D H4 11 a0 16).toInt ≤ 400 := S4.1.rng ga0 rfl (by decide) rfl
            have rp9 : 0 ≤ (fI D H4 11 a0 10).toInt ∧ (fI D H4 11 a0 10).toInt ≤ 400 := S4.1.rng ga0 rfl (by decide) rfl
            refine callV_Ei C S4 (c_X12_readAtom_d5 l D G a0 ga0) kV_X12_205 ga0 (⟨by omega, by omega⟩) (by decide +kernel) dX12_readAllOf_19 hl.1 rfl rfl (by decide) cd_X12_readAtom ⟨Nat.le_of_ble_eq_true rfl, Nat.le_of_ble_eq_true rfl, Nat.le_of_ble_eq_true rfl, Nat.le_of_ble_eq_true rfl, Nat.le_of_ble_eq_true rfl⟩ (fun v6 H6 L6 S6 K6 q6 => ?_)
            obtain ⟨q6, sa6, sx6, tq6⟩ := q6
            have lq6 : Lq D H4 H6 a0 := tq6
            have tk6 : Lq D s.heap H6 a0 := tk4.trans lq6
            refine lv_if_ne (tgt := 27) hx hb dX12_readAllOf_22 (by decide) (fun c7 => ?_) (fun c7 => ?_)
            · have b7 : ¬ v6.toInt = (0 : Int32).toInt := fun z9 => c7 (i_eq.mpr z9)
              refine lv_aload_n hx hb dX12_readAllOf_27 rfl (lv_at hl 0 rfl) ?_
              refine lv_bipush (v := 16) hx hb dX12_readAllOf_28 (by decide) ?_
              refine lv_iconst (v := 0) hx hb dX12_readAllOf_30 (by decide) ?_
              have rs9 : 0 ≤ (fI D H6 11 a0 16).toInt ∧ (fI D H6 11 a0 16).toInt ≤ 400 := S6.1.rng ga0 rfl (by decide) rfl
              have rp9 : 0 ≤ (fI D H6 11 a0 10).toInt ∧ (fI D H6 11 a0 10).toInt ≤ 400 := S6.1.rng ga0 rfl (by decide) rfl
              have k_16 : (16 : Int32).toInt = 16 := by decide
              refine callV_Ev C S6 (c_X12_emits l D G a0 (16 : Int32) (0 : Int32) ga0) kV_X12_185 ga0 (by omega) (by decide +kernel) dX12_readAllOf_31 hl.1 rfl rfl (by decide) cd_X12_emits ⟨Nat.le_of_ble_eq_true rfl, Nat.le_of_ble_eq_true rfl, Nat.le_of_ble_eq_true rfl, Nat.le_of_ble_eq_true rfl, Nat.le_of_ble_eq_true rfl⟩ (fun H8 L8 S8 K8 q8 => ?_)
              obtain ⟨qa8, qb8, tq8⟩ := q8
              have y8_10 : (fI D H8 11 a0 10).toInt = (fI D H6 11 a0 10).toInt := congrArg Int32.toInt (K8.fI ga0 rfl (by decide) (by decide +kernel))
              have y8_12 : (fI D H8 11 a0 12).toInt = (fI D H6 11 a0 12).toInt := congrArg Int32.toInt (K8.fI ga0 rfl (by decide) (by decide +kernel))
              have y8_13 : (fI D H8 11 a0 13).toInt = (fI D H6 11 a0 13).toInt := congrArg Int32.toInt (K8.fI ga0 rfl (by decide) (by decide +kernel))
              have lq8 : Lq D H6 H8 a0 := tq8
              have tk8 : Lq D s.heap H8 a0 := tk6.trans lq8
              refine lv_goto (tgt := 9) hx hb dX12_readAllOf_34 (by decide) ?_
              have e9 : Ex (Cs D H8 a0) (fI D s.heap 11 a0 16).toInt.toNat (fI D H8 11 a0 16).toInt.toNat := (Ex.bin (((lq4.trans lq6).trans lq8).ex u9_0 (by omega)) ((lq8.ex (sx6 (by omega)) (by omega)).at (i' := (fI D H_9 11 a0 16).toInt.toNat) (by omega) rfl) (by rw [qb8]; decide) rfl).at (by omega) (by omega)
              exact ih9  H8 L8 ls S8 e9 (by omega) tk8 (by omega) (lv_sub hl [0] rfl)
            · have b7 : v6.toInt = (0 : Int32).toInt := i_eq.mp c7
              refine lv_iconst (v := 0) hx hb dX12_readAllOf_25 (by decide) ?_
              exact retE_z hQ C S6 hr dX12_readAllOf_26 (z01 (by omega) (by omega)) (⟨by omega, fun h9 => absurd h9 (by decide), fun h9 => absurd h9 (by decide), tk6⟩)
        · skip
          refine lv_if_eq (tgt := 37) hx hb dX12_readAllOf_15 (by decide) (fun c9 => ?_) (fun c9 => ?_)
          · have b9 : v4.toInt = (0 : Int32).toInt := i_eq.mp c9
            refine lv_iconst (v := 1) hx hb dX12_readAllOf_37 (by decide) ?_
            have k_1 : (1 : Int32).toInt = 1 := by decide
            exact retE_z hQ C S4 hr dX12_readAllOf_38 (z01 (by omega) (by omega)) (⟨by omega, fun _ => by omega, fun _ => (lq4.ex u9_0 (by omega)).at (by omega) (by omega), tk4⟩)
          · have b9 : ¬ v4.toInt = (0 : Int32).toInt := fun z9 => c9 (i_eq.mpr z9)
            exact absurd b9 (by omega)
    have ex0 := sx1 (by omega)
    have rn : 0 ≤ (fI D H1 11 a0 10).toInt ∧ (fI D H1 11 a0 10).toInt ≤ 400 := S1.1.rng ga0 rfl (by decide) rfl
    exact Lp9 402  H1 L1 ls S1 (ex0.at (by omega) rfl) (by omega) tk1  (by omega) (lv_sub hl [0] rfl)
  · have b2 : v1.toInt = (0 : Int32).toInt := i_eq.mp c2
    refine lv_iconst (v := 0) hx hb dX12_readAllOf_7 (by decide) ?_
    exact retE_z hQ C S1 hr dX12_readAllOf_8 (z01 (by omega) (by omega)) (⟨by omega, fun h9 => absurd h9 (by decide), fun h9 => absurd h9 (by decide), tk1⟩)

set_option maxRecDepth 100000 in
set_option maxHeartbeats 4000000 in
theorem c_X12_readCond_d5 (l : Launch) (D : DD) (G : Nat → Nat) (a0 : Nat) (ga0 : G a0 = 30) : CE l D G yX12_readCond cX12_readCond 1 (some .boolean) 12 [.ref a0] (fun H => (fI D H 11 a0 13).toInt = 5 ∧ (fI D H 11 a0 16).toInt + 3 ≤ (fI D H 11 a0 10).toInt) [(30, 10), (30, 12), (30, 16), (31, 0), (30, 13)] (xI (fun H r H1 => (0 ≤ r.toInt ∧ r.toInt ≤ 1) ∧ (r.toInt = 1 → (fI D H1 11 a0 16).toInt - (fI D H 11 a0 16).toInt ≤ (fI D H1 11 a0 10).toInt - (fI D H 11 a0 10).toInt ∧ (fI D H1 11 a0 13).toInt = (fI D H 11 a0 13).toInt ∧ (fI D H 11 a0 10).toInt ≤ (fI D H1 11 a0 10).toInt) ∧ (r.toInt = 1 → Ex (Cs D H1 a0) (fI D H 11 a0 16).toInt.toNat (fI D H1 11 a0 16).toInt.toNat) ∧ Lq D H H1 a0)) := by
  refine enter (by decide) (Nat.le_of_ble_eq_true rfl) ?_
  intro p e s m args below meth c ls Q hA hQ C hr hO hpre hl
  have hx := C.1
  have hb := C.2.1
  have S : Sd D G [(30, 10), (30, 12), (30, 16), (31, 0), (30, 13)] s.heap s.heap [] := Sd.start hO
  have hl : lv_has ls 1 [(0, .ref a0)] := hl
  have rs0 : 0 ≤ (fI D s.heap 11 a0 16).toInt ∧ (fI D s.heap 11 a0 16).toInt ≤ 400 := hO.rng ga0 rfl (by decide) rfl
  have rp0 : 0 ≤ (fI D s.heap 11 a0 10).toInt ∧ (fI D s.heap 11 a0 10).toInt ≤ 400 := hO.rng ga0 rfl (by decide) rfl
  have tk0 : Lq D s.heap s.heap a0 := Lq.refl
  refine lv_aload_n hx hb dX12_readCond_0 rfl (lv_at hl 0 rfl) ?_
  refine callV_Ei C S (c_X12_readAllOf_d5 l D G a0 ga0) kV_X12_216 ga0 (hpre) (by decide +kernel) dX12_readCond_1 hl.1 rfl rfl (by decide) cd_X12_readAllOf ⟨Nat.le_of_ble_eq_true rfl, Nat.le_of_ble_eq_true rfl, Nat.le_of_ble_eq_true rfl, Nat.le_of_ble_eq_true rfl, Nat.le_of_ble_eq_true rfl⟩ (fun v1 H1 L1 S1 K1 q1 => ?_)
  obtain ⟨q1, sa1, sx1, tq1⟩ := q1
  have lq1 : Lq D s.heap H1 a0 := tq1
  have tk1 : Lq D s.heap H1 a0 := tk0.trans lq1
  have k_0 : (0 : Int32).toInt = 0 := by decide
  refine lv_if_ne (tgt := 9) hx hb dX12_readCond_4 (by decide) (fun c2 => ?_) (fun c2 => ?_)
  · have b2 : ¬ v1.toInt = (0 : Int32).toInt := fun z9 => c2 (i_eq.mpr z9)
    have Lp9 : ∀ (n : Nat)  (H_9 : Heap) (L_9 : List Loc) (ls : Array Slot), (Sd D G [(30, 10), (30, 12), (30, 16), (31, 0), (30, 13)] s.heap H_9 L_9) → (Ex (Cs D H_9 a0) (fI D s.heap 11 a0 16).toInt.toNat (fI D H_9 11 a0 16).toInt.toNat) → ((fI D H_9 11 a0 16).toInt - (fI D s.heap 11 a0 16).toInt ≤ (fI D H_9 11 a0 10).toInt - (fI D s.heap 11 a0 10).toInt ∧ (fI D H_9 11 a0 13).toInt = (fI D s.heap 11 a0 13).toInt ∧ (fI D s.heap 11 a0 10).toInt ≤ (fI D H_9 11 a0 10).toInt) → (Lq D s.heap H_9 a0) → 401 - (fI D H_9 11 a0 10).toInt ≤ (n : Int) → lv_has ls 1 [(0, .ref a0)] → W p l e (rmU 12 0 0) s m args below meth c H_9 L_9 0 0 Q (F0 m 9 ls []) := by
      intro n
      induction n with
      | zero =>
        intro H_9 L_9 ls S_9 u9_0 u9_1 u9_2 hn hl
        have rz : 0 ≤ (fI D H_9 11 a0 10).toInt ∧ (fI D H_9 11 a0 10).toInt ≤ 400 := S_9.1.rng ga0 rfl (by decide) rfl
        exact absurd hn (by omega)
      | succ n ih9 =>
        intro H_9 L_9 ls S_9 u9_0 u9_1 u9_2 hn hl
        have rs9 : 0 ≤ (fI D H_9 11 a0 16).toInt ∧ (fI D H_9 11 a0 16).toInt ≤ 400 := S_9.1.rng ga0 rfl (by decide) rfl
        have rp9 : 0 ≤ (fI D H_9 11 a0 10).toInt ∧ (fI D H_9 11 a0 10).toInt ≤ 400 := S_9.1.rng ga0 rfl (by decide) rfl
        refine lv_aload_n hx hb dX12_readCond_9 rfl (lv_at hl 0 rfl) ?_
        refine q_lds C ks_X12_219 dX12_readCond_10 (fun a3 ha3 => ?_)
        refine callV_Ei C S_9 (c_X12_passes_w l D G a0 a3 2 ga0 ha3) kV_X12_120 ga0 (trivial) (by decide +kernel) dX12_readCond_12 hl.1 rfl rfl (by decide) cd_X12_passes ⟨Nat.le_of_ble_eq_true rfl, Nat.le_of_ble_eq_true rfl, Nat.le_of_ble_eq_true rfl, Nat.le_of_ble_eq_true rfl, Nat.le_of_ble_eq_true rfl⟩ (fun v4 H4 L4 S4 K4 q4 => ?_)
        have y4_13 : (fI D H4 11 a0 13).toInt = (fI D H_9 11 a0 13).toInt := congrArg Int32.toInt (K4.fI ga0 rfl (by decide) (by decide +kernel))
        have y4_16 : (fI D H4 11 a0 16).toInt = (fI D H_9 11 a0 16).toInt := congrArg Int32.toInt (K4.fI ga0 rfl (by decide) (by decide +kernel))
        have lq4 : Lq D H_9 H4 a0 := Lq.keep S_9.1 ga0 K4 (by decide +kernel) (by decide +kernel) (by decide +kernel)
        have tk4 : Lq D s.heap H4 a0 := u9_2.trans lq4
        rcases q4 with q4 | q4
        · skip
          refine lv_if_eq (tgt := 37) hx hb dX12_readCond_15 (by decide) (fun c5 => ?_) (fun c5 => ?_)
          · have b5 : v4.toInt = (0 : Int32).toInt := i_eq.mp c5
            exact absurd b5 (by omega)
          · have b5 : ¬ v4.toInt = (0 : Int32).toInt := fun z9 => c5 (i_eq.mpr z9)
            refine lv_aload_n hx hb dX12_readCond_18 rfl (lv_at hl 0 rfl) ?_
            have rs9 : 0 ≤ (fI D H4 11 a0 16).toInt ∧ (fI D H4 11 a0 16).toInt ≤ 400 := S4.1.rng ga0 rfl (by decide) rfl
            have rp9 : 0 ≤ (fI D H4 11 a0 10).toInt ∧ (fI D H4 11 a0 10).toInt ≤ 400 := S4.1.rng ga0 rfl (by decide) rfl
            refine callV_Ei C S4 (c_X12_readAllOf_d5 l D G a0 ga0) kV_X12_216 ga0 (⟨by omega, by omega⟩) (by decide +kernel) dX12_readCond_19 hl.1 rfl rfl (by decide) cd_X12_readAllOf ⟨Nat.le_of_ble_eq_true rfl, Nat.le_of_ble_eq_true rfl, Nat.le_of_ble_eq_true rfl, Nat.le_of_ble_eq_true rfl, Nat.le_of_ble_eq_true rfl⟩ (fun v6 H6 L6 S6 K6 q6 => ?_)
            obtain ⟨q6, sa6, sx6, tq6⟩ := q6
            have lq6 : Lq D H4 H6 a0 := tq6
            have tk6 : Lq D s.heap H6 a0 := tk4.trans lq6
            refine lv_if_ne (tgt := 27) hx hb dX12_readCond_22 (by decide) (fun c7 => ?_) (fun c7 => ?_)
            · have b7 : ¬ v6.toInt = (0 : Int32).toInt := fun z9 => c7 (i_eq.mpr z9)
              refine lv_aload_n hx hb dX12_readCond_27 rfl (lv_at hl 0 rfl) ?_
              refine lv_bipush (v := 17) hx hb dX12_readCond_28 (by decide) ?_
              refine lv_iconst (v := 0) hx hb dX12_readCond_30 (by decide) ?_
              have rs9 : 0 ≤ (fI D H6 11 a0 16).toInt ∧ (fI D H6 11 a0 16).toInt ≤ 400 := S6.1.rng ga0 rfl (by decide) rfl
              have rp9 : 0 ≤ (fI D H6 11 a0 10).toInt ∧ (fI D H6 11 a0 10).toInt ≤ 400 := S6.1.rng ga0 rfl (by decide) rfl
              have k_17 : (17 : Int32).toInt = 17 := by decide
              refine callV_Ev C S6 (c_X12_emits l D G a0 (17 : Int32) (0 : Int32) ga0) kV_X12_185 ga0 (by omega) (by decide +kernel) dX12_readCond_31 hl.1 rfl rfl (by decide) cd_X12_emits ⟨Nat.le_of_ble_eq_true rfl, Nat.le_of_ble_eq_true rfl, Nat.le_of_ble_eq_true rfl, Nat.le_of_ble_eq_true rfl, Nat.le_of_ble_eq_true rfl⟩ (fun H8 L8 S8 K8 q8 => ?_)
              obtain ⟨qa8, qb8, tq8⟩ := q8
              have y8_10 : (fI D H8 11 a0 10).toInt = (fI D H6 11 a0 10).toInt := congrArg Int32.toInt (K8.fI ga0 rfl (by decide) (by decide +kernel))
              have y8_12 : (fI D H8 11 a0 12).toInt = (fI D H6 11 a0 12).toInt := congrArg Int32.toInt (K8.fI ga0 rfl (by decide) (by decide +kernel))
              have y8_13 : (fI D H8 11 a0 13).toInt = (fI D H6 11 a0 13).toInt := congrArg Int32.toInt (K8.fI ga0 rfl (by decide) (by decide +kernel))
              have lq8 : Lq D H6 H8 a0 := tq8
              have tk8 : Lq D s.heap H8 a0 := tk6.trans lq8
              refine lv_goto (tgt := 9) hx hb dX12_readCond_34 (by decide) ?_
              have e9 : Ex (Cs D H8 a0) (fI D s.heap 11 a0 16).toInt.toNat (fI D H8 11 a0 16).toInt.toNat := (Ex.bin (((lq4.trans lq6).trans lq8).ex u9_0 (by omega)) ((lq8.ex (sx6 (by omega)) (by omega)).at (i' := (fI D H_9 11 a0 16).toInt.toNat) (by omega) rfl) (by rw [qb8]; decide) rfl).at (by omega) (by omega)
              exact ih9  H8 L8 ls S8 e9 (by omega) tk8 (by omega) (lv_sub hl [0] rfl)
            · have b7 : v6.toInt = (0 : Int32).toInt := i_eq.mp c7
              refine lv_iconst (v := 0) hx hb dX12_readCond_25 (by decide) ?_
              exact retE_z hQ C S6 hr dX12_readCond_26 (z01 (by omega) (by omega)) (⟨by omega, fun h9 => absurd h9 (by decide), fun h9 => absurd h9 (by decide), tk6⟩)
        · skip
          refine lv_if_eq (tgt := 37) hx hb dX12_readCond_15 (by decide) (fun c9 => ?_) (fun c9 => ?_)
          · have b9 : v4.toInt = (0 : Int32).toInt := i_eq.mp c9
            refine lv_iconst (v := 1) hx hb dX12_readCond_37 (by decide) ?_
            have k_1 : (1 : Int32).toInt = 1 := by decide
            exact retE_z hQ C S4 hr dX12_readCond_38 (z01 (by omega) (by omega)) (⟨by omega, fun _ => by omega, fun _ => (lq4.ex u9_0 (by omega)).at (by omega) (by omega), tk4⟩)
          · have b9 : ¬ v4.toInt = (0 : Int32).toInt := fun z9 => c9 (i_eq.mpr z9)
            exact absurd b9 (by omega)
    have ex0 := sx1 (by omega)
    have rn : 0 ≤ (fI D H1 11 a0 10).toInt ∧ (fI D H1 11 a0 10).toInt ≤ 400 := S1.1.rng ga0 rfl (by decide) rfl
    exact Lp9 402  H1 L1 ls S1 (ex0.at (by omega) rfl) (by omega) tk1  (by omega) (lv_sub hl [0] rfl)
  · have b2 : v1.toInt = (0 : Int32).toInt := i_eq.mp c2
    refine lv_iconst (v := 0) hx hb dX12_readCond_7 (by decide) ?_
    exact retE_z hQ C S1 hr dX12_readCond_8 (z01 (by omega) (by omega)) (⟨by omega, fun h9 => absurd h9 (by decide), fun h9 => absurd h9 (by decide), tk1⟩)

set_option maxRecDepth 100000 in
set_option maxHeartbeats 4000000 in
theorem c_X12_readAtom_d4 (l : Launch) (D : DD) (G : Nat → Nat) (a0 : Nat) (ga0 : G a0 = 30) : CE l D G yX12_readAtom cX12_readAtom 2 (some .boolean) 13 [.ref a0] (fun H => (fI D H 11 a0 13).toInt = 4 ∧ (fI D H 11 a0 16).toInt + 3 ≤ (fI D H 11 a0 10).toInt) [(30, 10), (30, 12), (30, 16), (31, 0), (30, 13)] (xI (fun H r H1 => (0 ≤ r.toInt ∧ r.toInt ≤ 1) ∧ (r.toInt = 1 → (fI D H1 11 a0 16).toInt - (fI D H 11 a0 16).toInt ≤ (fI D H1 11 a0 10).toInt - (fI D H 11 a0 10).toInt ∧ (fI D H1 11 a0 13).toInt = (fI D H 11 a0 13).toInt ∧ (fI D H 11 a0 10).toInt ≤ (fI D H1 11 a0 10).toInt) ∧ (r.toInt = 1 → Ex (Cs D H1 a0) (fI D H 11 a0 16).toInt.toNat (fI D H1 11 a0 16).toInt.toNat) ∧ Lq D H H1 a0)) := by
  refine enter (by decide) (Nat.le_of_ble_eq_true rfl) ?_
  intro p e s m args below meth c ls Q hA hQ C hr hO hpre hl
  have hx := C.1
  have hb := C.2.1
  have S : Sd D G [(30, 10), (30, 12), (30, 16), (31, 0), (30, 13)] s.heap s.heap [] := Sd.start hO
  have hl : lv_has ls 2 [(0, .ref a0)] := hl
  have rs0 : 0 ≤ (fI D s.heap 11 a0 16).toInt ∧ (fI D s.heap 11 a0 16).toInt ≤ 400 := hO.rng ga0 rfl (by decide) rfl
  have rp0 : 0 ≤ (fI D s.heap 11 a0 10).toInt ∧ (fI D s.heap 11 a0 10).toInt ≤ 400 := hO.rng ga0 rfl (by decide) rfl
  have tk0 : Lq D s.heap s.heap a0 := Lq.refl
  refine lv_aload_n hx hb dX12_readAtom_0 rfl (lv_at hl 0 rfl) ?_
  refine lv_bipush (v := 40) hx hb dX12_readAtom_1 (by decide) ?_
  have k_40 : (40 : Int32).toInt = 40 := by decide
  refine callV_Ei C S (c_X12_sign l D G a0 (40 : Int32) ga0) kV_X12_193 ga0 (trivial) (by decide +kernel) dX12_readAtom_3 hl.1 rfl rfl (by decide) cd_X12_sign ⟨Nat.le_of_ble_eq_true rfl, Nat.le_of_ble_eq_true rfl, Nat.le_of_ble_eq_true rfl, Nat.le_of_ble_eq_true rfl, Nat.le_of_ble_eq_true rfl⟩ (fun v1 H1 L1 S1 K1 q1 => ?_)
  have y1_13 : (fI D H1 11 a0 13).toInt = (fI D s.heap 11 a0 13).toInt := congrArg Int32.toInt (K1.fI ga0 rfl (by decide) (by decide +kernel))
  have y1_16 : (fI D H1 11 a0 16).toInt = (fI D s.heap 11 a0 16).toInt := congrArg Int32.toInt (K1.fI ga0 rfl (by decide) (by decide +kernel))
  have lq1 : Lq D s.heap H1 a0 := Lq.keep S.1 ga0 K1 (by decide +kernel) (by decide +kernel) (by decide +kernel)
  have tk1 : Lq D s.heap H1 a0 := tk0.trans lq1
  rcases q1 with q1 | q1
  · skip
    have k_0 : (0 : Int32).toInt = 0 := by decide
    refine lv_if_eq (tgt := 56) hx hb dX12_readAtom_6 (by decide) (fun c2 => ?_) (fun c2 => ?_)
    · have b2 : v1.toInt = (0 : Int32).toInt := i_eq.mp c2
      exact absurd b2 (by omega)
    · have b2 : ¬ v1.toInt = (0 : Int32).toInt := fun z9 => c2 (i_eq.mpr z9)
      refine lv_aload_n hx hb dX12_readAtom_9 rfl (lv_at hl 0 rfl) ?_
      have dd : (fI D H1 11 a0 13).toInt = 4 := by omega
      refine q_gi (T := TX12) C S1.1 ga0 13 kF_X12_197 dX12_readAtom_10 rfl rfl (by decide) rfl (by decide) rfl ?_
      have r3 : 0 ≤ (fI D H1 11 a0 13).toInt ∧ (fI D H1 11 a0 13).toInt ≤ 6 := S1.1.rng ga0 rfl (by decide) rfl
      refine lv_bipush (v := 6) hx hb dX12_readAtom_13 (by decide) ?_
      have k_6 : (6 : Int32).toInt = 6 := by decide
      refine lv_icmp_ne (tgt := 20) hx hb dX12_readAtom_15 (by decide) (fun c4 => ?_) (fun c4 => ?_)
      · have b4 : ¬ (fI D H1 11 a0 13).toInt = (6 : Int32).toInt := fun z9 => c4 (i_eq.mpr z9)
        refine lv_aload_n hx hb dX12_readAtom_20 rfl (lv_at hl 0 rfl) ?_
        refine lv_dup hx hb dX12_readAtom_21 rfl ?_
        refine q_gi (T := TX12) C S1.1 ga0 13 kF_X12_197 dX12_readAtom_22 rfl rfl (by decide) rfl (by decide) rfl ?_
        refine lv_iconst (v := 1) hx hb dX12_readAtom_25 (by decide) ?_
        have k_1 : (1 : Int32).toInt = 1 := by decide
        refine lv_iadd hx hb dX12_readAtom_26 ?_
        refine lv_topi (fun v5 ev5 => ?_)
        have f6 : v5.toInt = (fI D H1 11 a0 13).toInt + (1 : Int32).toInt := by rw [ev5]; exact i_add (by omega) (by omega)
        refine q_put (T := TX12) C S1 ga0 13 kF_X12_197 dX12_readAtom_27 rfl rfl (by decide) (by decide) rfl rfl rfl rfl rfl (vok_i rfl (by omega) (by omega)) (by decide +kernel) (fun H7 L7 S7 P7 => ?_)
        have y7_10 : (fI D H7 11 a0 10).toInt = (fI D H1 11 a0 10).toInt := congrArg Int32.toInt (Pt.o P7 (by decide) (by decide))
        have y7_12 : (fI D H7 11 a0 12).toInt = (fI D H1 11 a0 12).toInt := congrArg Int32.toInt (Pt.o P7 (by decide) (by decide))
        have y7_13 : (fI D H7 11 a0 13).toInt = v5.toInt := congrArg Int32.toInt (Pt.i P7)
        have y7_16 : (fI D H7 11 a0 16).toInt = (fI D H1 11 a0 16).toInt := congrArg Int32.toInt (Pt.o P7 (by decide) (by decide))
        have lq7 : Lq D H1 H7 a0 := Lq.put S1.1 ga0 P7 (by decide) (by decide)
        have tk7 : Lq D s.heap H7 a0 := tk1.trans lq7
        refine lv_aload_n hx hb dX12_readAtom_30 rfl (lv_at hl 0 rfl) ?_
        have rs9 : 0 ≤ (fI D H7 11 a0 16).toInt ∧ (fI D H7 11 a0 16).toInt ≤ 400 := S7.1.rng ga0 rfl (by decide) rfl
        have rp9 : 0 ≤ (fI D H7 11 a0 10).toInt ∧ (fI D H7 11 a0 10).toInt ≤ 400 := S7.1.rng ga0 rfl (by decide) rfl
        refine callV_Ei C S7 (c_X12_readCond_d5 l D G a0 ga0) kV_X12_200 ga0 (⟨by omega, by omega⟩) (by decide +kernel) dX12_readAtom_31 hl.1 rfl rfl (by decide) cd_X12_readCond ⟨Nat.le_of_ble_eq_true rfl, Nat.le_of_ble_eq_true rfl, Nat.le_of_ble_eq_true rfl, Nat.le_of_ble_eq_true rfl, Nat.le_of_ble_eq_true rfl⟩ (fun v8 H8 L8 S8 K8 q8 => ?_)
        obtain ⟨q8, sa8, sx8, tq8⟩ := q8
        have lq8 : Lq D H7 H8 a0 := tq8
        have tk8 : Lq D s.heap H8 a0 := tk7.trans lq8
        refine lv_if_ne (tgt := 39) hx hb dX12_readAtom_34 (by decide) (fun c9 => ?_) (fun c9 => ?_)
        · have b9 : ¬ v8.toInt = (0 : Int32).toInt := fun z9 => c9 (i_eq.mpr z9)
          refine lv_aload_n hx hb dX12_readAtom_39 rfl (lv_at hl 0 rfl) ?_
          refine lv_dup hx hb dX12_readAtom_40 rfl ?_
          refine q_gi (T := TX12) C S8.1 ga0 13 kF_X12_197 dX12_readAtom_41 rfl rfl (by decide) rfl (by decide) rfl ?_
          have r10 : 0 ≤ (fI D H8 11 a0 13).toInt ∧ (fI D H8 11 a0 13).toInt ≤ 6 := S8.1.rng ga0 rfl (by decide) rfl
          refine lv_iconst (v := 1) hx hb dX12_readAtom_44 (by decide) ?_
          refine lv_isub hx hb dX12_readAtom_45 ?_
          refine lv_topi (fun v11 ev11 => ?_)
          have f12 : v11.toInt = (fI D H8 11 a0 13).toInt - (1 : Int32).toInt := by rw [ev11]; exact i_sub (by omega) (by omega)
          refine q_put (T := TX12) C S8 ga0 13 kF_X12_197 dX12_readAtom_46 rfl rfl (by decide) (by decide) rfl rfl rfl rfl rfl (vok_i rfl (by omega) (by omega)) (by decide +kernel) (fun H13 L13 S13 P13 => ?_)
          have y13_10 : (fI D H13 11 a0 10).toInt = (fI D H8 11 a0 10).toInt := congrArg Int32.toInt (Pt.o P13 (by decide) (by decide))
          have y13_12 : (fI D H13 11 a0 12).toInt = (fI D H8 11 a0 12).toInt := congrArg Int32.toInt (Pt.o P13 (by decide) (by decide))
          have y13_13 : (fI D H13 11 a0 13).toInt = v11.toInt := congrArg Int32.toInt (Pt.i P13)
          have y13_16 : (fI D H13 11 a0 16).toInt = (fI D H8 11 a0 16).toInt := congrArg Int32.toInt (Pt.o P13 (by decide) (by decide))
          have lq13 : Lq D H8 H13 a0 := Lq.put S8.1 ga0 P13 (by decide) (by decide)
          have tk13 : Lq D s.heap H13 a0 := tk8.trans lq13
          have rs9 : 0 ≤ (fI D H13 11 a0 16).toInt ∧ (fI D H13 11 a0 16).toInt ≤ 400 := S13.1.rng ga0 rfl (by decide) rfl
          have rp9 : 0 ≤ (fI D H13 11 a0 10).toInt ∧ (fI D H13 11 a0 10).toInt ≤ 400 := S13.1.rng ga0 rfl (by decide) rfl
          refine lv_aload_n hx hb dX12_readAtom_49 rfl (lv_at hl 0 rfl) ?_
          refine lv_bipush (v := 41) hx hb dX12_readAtom_50 (by decide) ?_
          have k_41 : (41 : Int32).toInt = 41 := by decide
          refine callV_Ei C S13 (c_X12_sign l D G a0 (41 : Int32) ga0) kV_X12_193 ga0 (trivial) (by decide +kernel) dX12_readAtom_52 hl.1 rfl rfl (by decide) cd_X12_sign ⟨Nat.le_of_ble_eq_true rfl, Nat.le_of_ble_eq_true rfl, Nat.le_of_ble_eq_true rfl, Nat.le_of_ble_eq_true rfl, Nat.le_of_ble_eq_true rfl⟩ (fun v14 H14 L14 S14 K14 q14 => ?_)
          have y14_13 : (fI D H14 11 a0 13).toInt = (fI D H13 11 a0 13).toInt := congrArg Int32.toInt (K14.fI ga0 rfl (by decide) (by decide +kernel))
          have y14_16 : (fI D H14 11 a0 16).toInt = (fI D H13 11 a0 16).toInt := congrArg Int32.toInt (K14.fI ga0 rfl (by decide) (by decide +kernel))
          have lq14 : Lq D H13 H14 a0 := Lq.keep S13.1 ga0 K14 (by decide +kernel) (by decide +kernel) (by decide +kernel)
          have tk14 : Lq D s.heap H14 a0 := tk13.trans lq14
          rcases q14 with q14 | q14
          · skip
            exact retE_z hQ C S14 hr dX12_readAtom_55 (z01 (by omega) (by omega)) (⟨by omega, fun _ => by omega, fun _ => ((lq13.trans lq14).ex (sx8 (by omega)) (by omega)).at (by omega) (by omega), tk14⟩)
          · skip
            exact retE_z hQ C S14 hr dX12_readAtom_55 (z01 (by omega) (by omega)) (⟨by omega, fun _ => by omega, fun _ => ((lq13.trans lq14).ex (sx8 (by omega)) (by omega)).at (by omega) (by omega), tk14⟩)
        · have b9 : v8.toInt = (0 : Int32).toInt := i_eq.mp c9
          refine lv_iconst (v := 0) hx hb dX12_readAtom_37 (by decide) ?_
          exact retE_z hQ C S8 hr dX12_readAtom_38 (z01 (by omega) (by omega)) (⟨by omega, fun h9 => absurd h9 (by decide), fun h9 => absurd h9 (by decide), tk8⟩)
      · have b4 : (fI D H1 11 a0 13).toInt = (6 : Int32).toInt := i_eq.mp c4
        exact absurd b4 (by omega)
  · skip
    have k_0 : (0 : Int32).toInt = 0 := by decide
    refine lv_if_eq (tgt := 56) hx hb dX12_readAtom_6 (by decide) (fun c15 => ?_) (fun c15 => ?_)
    · have b15 : v1.toInt = (0 : Int32).toInt := i_eq.mp c15
      refine lv_aload_n hx hb dX12_readAtom_56 rfl (lv_at hl 0 rfl) ?_
      refine q_lds C ks_X12_203 dX12_readAtom_57 (fun a16 ha16 => ?_)
      refine callV_Ei C S1 (c_X12_passes_w l D G a0 a16 3 ga0 ha16) kV_X12_120 ga0 (trivial) (by decide +kernel) dX12_readAtom_59 hl.1 rfl rfl (by decide) cd_X12_passes ⟨Nat.le_of_ble_eq_true rfl, Nat.le_of_ble_eq_true rfl, Nat.le_of_ble_eq_true rfl, Nat.le_of_ble_eq_true rfl, Nat.le_of_ble_eq_true rfl⟩ (fun v17 H17 L17 S17 K17 q17 => ?_)
      have y17_13 : (fI D H17 11 a0 13).toInt = (fI D H1 11 a0 13).toInt := congrArg Int32.toInt (K17.fI ga0 rfl (by decide) (by decide +kernel))
      have y17_16 : (fI D H17 11 a0 16).toInt = (fI D H1 11 a0 16).toInt := congrArg Int32.toInt (K17.fI ga0 rfl (by decide) (by decide +kernel))
      have lq17 : Lq D H1 H17 a0 := Lq.keep S1.1 ga0 K17 (by decide +kernel) (by decide +kernel) (by decide +kernel)
      have tk17 : Lq D s.heap H17 a0 := tk1.trans lq17
      rcases q17 with q17 | q17
      · skip
        refine lv_if_eq (tgt := 114) hx hb dX12_readAtom_62 (by decide) (fun c18 => ?_) (fun c18 => ?_)
        · have b18 : v17.toInt = (0 : Int32).toInt := i_eq.mp c18
          exact absurd b18 (by omega)
        · have b18 : ¬ v17.toInt = (0 : Int32).toInt := fun z9 => c18 (i_eq.mpr z9)
          refine lv_aload_n hx hb dX12_readAtom_65 rfl (lv_at hl 0 rfl) ?_
          have dd : (fI D H17 11 a0 13).toInt = 4 := by omega
          refine q_gi (T := TX12) C S17.1 ga0 13 kF_X12_197 dX12_readAtom_66 rfl rfl (by decide) rfl (by decide) rfl ?_
          have r19 : 0 ≤ (fI D H17 11 a0 13).toInt ∧ (fI D H17 11 a0 13).toInt ≤ 6 := S17.1.rng ga0 rfl (by decide) rfl
          refine lv_bipush (v := 6) hx hb dX12_readAtom_69 (by decide) ?_
          have k_6 : (6 : Int32).toInt = 6 := by decide
          refine lv_icmp_ne (tgt := 76) hx hb dX12_readAtom_71 (by decide) (fun c20 => ?_) (fun c20 => ?_)
          · have b20 : ¬ (fI D H17 11 a0 13).toInt = (6 : Int32).toInt := fun z9 => c20 (i_eq.mpr z9)
            refine lv_aload_n hx hb dX12_readAtom_76 rfl (lv_at hl 0 rfl) ?_
            refine lv_dup hx hb dX12_readAtom_77 rfl ?_
            refine q_gi (T := TX12) C S17.1 ga0 13 kF_X12_197 dX12_readAtom_78 rfl rfl (by decide) rfl (by decide) rfl ?_
            refine lv_iconst (v := 1) hx hb dX12_readAtom_81 (by decide) ?_
            have k_1 : (1 : Int32).toInt = 1 := by decide
            refine lv_iadd hx hb dX12_readAtom_82 ?_
            refine lv_topi (fun v21 ev21 => ?_)
            have f22 : v21.toInt = (fI D H17 11 a0 13).toInt + (1 : Int32).toInt := by rw [ev21]; exact i_add (by omega) (by omega)
            refine q_put (T := TX12) C S17 ga0 13 kF_X12_197 dX12_readAtom_83 rfl rfl (by decide) (by decide) rfl rfl rfl rfl rfl (vok_i rfl (by omega) (by omega)) (by decide +kernel) (fun H23 L23 S23 P23 => ?_)
            have y23_10 : (fI D H23 11 a0 10).toInt = (fI D H17 11 a0 10).toInt := congrArg Int32.toInt (Pt.o P23 (by decide) (by decide))
            have y23_12 : (fI D H23 11 a0 12).toInt = (fI D H17 11 a0 12).toInt := congrArg Int32.toInt (Pt.o P23 (by decide) (by decide))
            have y23_13 : (fI D H23 11 a0 13).toInt = v21.toInt := congrArg Int32.toInt (Pt.i P23)
            have y23_16 : (fI D H23 11 a0 16).toInt = (fI D H17 11 a0 16).toInt := congrArg Int32.toInt (Pt.o P23 (by decide) (by decide))
            have lq23 : Lq D H17 H23 a0 := Lq.put S17.1 ga0 P23 (by decide) (by decide)
            have tk23 : Lq D s.heap H23 a0 := tk17.trans lq23
            refine lv_aload_n hx hb dX12_readAtom_86 rfl (lv_at hl 0 rfl) ?_
            have rs9 : 0 ≤ (fI D H23 11 a0 16).toInt ∧ (fI D H23 11 a0 16).toInt ≤ 400 := S23.1.rng ga0 rfl (by decide) rfl
            have rp9 : 0 ≤ (fI D H23 11 a0 10).toInt ∧ (fI D H23 11 a0 10).toInt ≤ 400 := S23.1.rng ga0 rfl (by decide) rfl
            refine callV_Ei C S23 (c_X12_readAtom_d5 l D G a0 ga0) kV_X12_205 ga0 (⟨by omega, by omega⟩) (by decide +kernel) dX12_readAtom_87 hl.1 rfl rfl (by decide) cd_X12_readAtom ⟨Nat.le_of_ble_eq_true rfl, Nat.le_of_ble_eq_true rfl, Nat.le_of_ble_eq_true rfl, Nat.le_of_ble_eq_true rfl, Nat.le_of_ble_eq_true rfl⟩ (fun v24 H24 L24 S24 K24 q24 => ?_)
            obtain ⟨q24, sa24, sx24, tq24⟩ := q24
            have lq24 : Lq D H23 H24 a0 := tq24
            have tk24 : Lq D s.heap H24 a0 := tk23.trans lq24
            refine lv_if_ne (tgt := 95) hx hb dX12_readAtom_90 (by decide) (fun c25 => ?_) (fun c25 => ?_)
            · have b25 : ¬ v24.toInt = (0 : Int32).toInt := fun z9 => c25 (i_eq.mpr z9)
              refine lv_aload_n hx hb dX12_readAtom_95 rfl (lv_at hl 0 rfl) ?_
              refine lv_dup hx hb dX12_readAtom_96 rfl ?_
              refine q_gi (T := TX12) C S24.1 ga0 13 kF_X12_197 dX12_readAtom_97 rfl rfl (by decide) rfl (by decide) rfl ?_
              have r26 : 0 ≤ (fI D H24 11 a0 13).toInt ∧ (fI D H24 11 a0 13).toInt ≤ 6 := S24.1.rng ga0 rfl (by decide) rfl
              refine lv_iconst (v := 1) hx hb dX12_readAtom_100 (by decide) ?_
              refine lv_isub hx hb dX12_readAtom_101 ?_
              refine lv_topi (fun v27 ev27 => ?_)
              have f28 : v27.toInt = (fI D H24 11 a0 13).toInt - (1 : Int32).toInt := by rw [ev27]; exact i_sub (by omega) (by omega)
              refine q_put (T := TX12) C S24 ga0 13 kF_X12_197 dX12_readAtom_102 rfl rfl (by decide) (by decide) rfl rfl rfl rfl rfl (vok_i rfl (by omega) (by omega)) (by decide +kernel) (fun H29 L29 S29 P29 => ?_)
              have y29_10 : (fI D H29 11 a0 10).toInt = (fI D H24 11 a0 10).toInt := congrArg Int32.toInt (Pt.o P29 (by decide) (by decide))
              have y29_12 : (fI D H29 11 a0 12).toInt = (fI D H24 11 a0 12).toInt := congrArg Int32.toInt (Pt.o P29 (by decide) (by decide))
              have y29_13 : (fI D H29 11 a0 13).toInt = v27.toInt := congrArg Int32.toInt (Pt.i P29)
              have y29_16 : (fI D H29 11 a0 16).toInt = (fI D H24 11 a0 16).toInt := congrArg Int32.toInt (Pt.o P29 (by decide) (by decide))
              have lq29 : Lq D H24 H29 a0 := Lq.put S24.1 ga0 P29 (by decide) (by decide)
              have tk29 : Lq D s.heap H29 a0 := tk24.trans lq29
              refine lv_aload_n hx hb dX12_readAtom_105 rfl (lv_at hl 0 rfl) ?_
              refine lv_bipush (v := 15) hx hb dX12_readAtom_106 (by decide) ?_
              refine lv_iconst (v := 0) hx hb dX12_readAtom_108 (by decide) ?_
              have rs9 : 0 ≤ (fI D H29 11 a0 16).toInt ∧ (fI D H29 11 a0 16).toInt ≤ 400 := S29.1.rng ga0 rfl (by decide) rfl
              have rp9 : 0 ≤ (fI D H29 11 a0 10).toInt ∧ (fI D H29 11 a0 10).toInt ≤ 400 := S29.1.rng ga0 rfl (by decide) rfl
              have k_15 : (15 : Int32).toInt = 15 := by decide
              refine callV_Ev C S29 (c_X12_emits l D G a0 (15 : Int32) (0 : Int32) ga0) kV_X12_185 ga0 (by omega) (by decide +kernel) dX12_readAtom_109 hl.1 rfl rfl (by decide) cd_X12_emits ⟨Nat.le_of_ble_eq_true rfl, Nat.le_of_ble_eq_true rfl, Nat.le_of_ble_eq_true rfl, Nat.le_of_ble_eq_true rfl, Nat.le_of_ble_eq_true rfl⟩ (fun H30 L30 S30 K30 q30 => ?_)
              obtain ⟨qa30, qb30, tq30⟩ := q30
              have y30_10 : (fI D H30 11 a0 10).toInt = (fI D H29 11 a0 10).toInt := congrArg Int32.toInt (K30.fI ga0 rfl (by decide) (by decide +kernel))
              have y30_12 : (fI D H30 11 a0 12).toInt = (fI D H29 11 a0 12).toInt := congrArg Int32.toInt (K30.fI ga0 rfl (by decide) (by decide +kernel))
              have y30_13 : (fI D H30 11 a0 13).toInt = (fI D H29 11 a0 13).toInt := congrArg Int32.toInt (K30.fI ga0 rfl (by decide) (by decide +kernel))
              have lq30 : Lq D H29 H30 a0 := tq30
              have tk30 : Lq D s.heap H30 a0 := tk29.trans lq30
              refine lv_iconst (v := 1) hx hb dX12_readAtom_112 (by decide) ?_
              exact retE_z hQ C S30 hr dX12_readAtom_113 (z01 (by omega) (by omega)) (⟨by omega, fun _ => by omega, fun _ => (Ex.un (((lq29.trans lq30).ex (sx24 (by omega)) (by omega)).at (j' := (fI D H29 11 a0 16).toInt.toNat) rfl (by omega)) (by rw [qb30]; decide) rfl).at (by omega) (by omega), tk30⟩)
            · have b25 : v24.toInt = (0 : Int32).toInt := i_eq.mp c25
              refine lv_iconst (v := 0) hx hb dX12_readAtom_93 (by decide) ?_
              exact retE_z hQ C S24 hr dX12_readAtom_94 (z01 (by omega) (by omega)) (⟨by omega, fun h9 => absurd h9 (by decide), fun h9 => absurd h9 (by decide), tk24⟩)
          · have b20 : (fI D H17 11 a0 13).toInt = (6 : Int32).toInt := i_eq.mp c20
            exact absurd b20 (by omega)
      · skip
        refine lv_if_eq (tgt := 114) hx hb dX12_readAtom_62 (by decide) (fun c31 => ?_) (fun c31 => ?_)
        · have b31 : v17.toInt = (0 : Int32).toInt := i_eq.mp c31
          refine lv_aload_n hx hb dX12_readAtom_114 rfl (lv_at hl 0 rfl) ?_
          have rs9 : 0 ≤ (fI D H17 11 a0 16).toInt ∧ (fI D H17 11 a0 16).toInt ≤ 400 := S17.1.rng ga0 rfl (by decide) rfl
          have rp9 : 0 ≤ (fI D H17 11 a0 10).toInt ∧ (fI D H17 11 a0 10).toInt ≤ 400 := S17.1.rng ga0 rfl (by decide) rfl
          refine callV_Ei C S17 (c_X12_readTag l D G a0 ga0) kV_X12_208 ga0 (by omega) (by decide +kernel) dX12_readAtom_115 hl.1 rfl rfl (by decide) cd_X12_readTag ⟨Nat.le_of_ble_eq_true rfl, Nat.le_of_ble_eq_true rfl, Nat.le_of_ble_eq_true rfl, Nat.le_of_ble_eq_true rfl, Nat.le_of_ble_eq_true rfl⟩ (fun v32 H32 L32 S32 K32 q32 => ?_)
          obtain ⟨q32, sa32, sx32, tq32, sf32⟩ := q32
          have y32_13 : (fI D H32 11 a0 13).toInt = (fI D H17 11 a0 13).toInt := congrArg Int32.toInt (K32.fI ga0 rfl (by decide) (by decide +kernel))
          have lq32 : Lq D H17 H32 a0 := tq32
          have tk32 : Lq D s.heap H32 a0 := tk17.trans lq32
          refine lv_if_eq (tgt := 123) hx hb dX12_readAtom_118 (by decide) (fun c33 => ?_) (fun c33 => ?_)
          · have b33 : v32.toInt = (0 : Int32).toInt := i_eq.mp c33
            refine lv_aload_n hx hb dX12_readAtom_123 rfl (lv_at hl 0 rfl) ?_
            have rs9 : 0 ≤ (fI D H32 11 a0 16).toInt ∧ (fI D H32 11 a0 16).toInt ≤ 400 := S32.1.rng ga0 rfl (by decide) rfl
            have rp9 : 0 ≤ (fI D H32 11 a0 10).toInt ∧ (fI D H32 11 a0 10).toInt ≤ 400 := S32.1.rng ga0 rfl (by decide) rfl
            refine callV_Ei C S32 (c_X12_readSum l D G a0 ga0) kV_X12_211 ga0 (by omega) (by decide +kernel) dX12_readAtom_124 hl.1 rfl rfl (by decide) cd_X12_readSum ⟨Nat.le_of_ble_eq_true rfl, Nat.le_of_ble_eq_true rfl, Nat.le_of_ble_eq_true rfl, Nat.le_of_ble_eq_true rfl, Nat.le_of_ble_eq_true rfl⟩ (fun v34 H34 L34 S34 K34 q34 => ?_)
            obtain ⟨q34, sa34, sx34, tq34⟩ := q34
            have y34_13 : (fI D H34 11 a0 13).toInt = (fI D H32 11 a0 13).toInt := congrArg Int32.toInt (K34.fI ga0 rfl (by decide) (by decide +kernel))
            have lq34 : Lq D H32 H34 a0 := tq34
            have tk34 : Lq D s.heap H34 a0 := tk32.trans lq34
            refine lv_if_ne (tgt := 132) hx hb dX12_readAtom_127 (by decide) (fun c35 => ?_) (fun c35 => ?_)
            · have b35 : ¬ v34.toInt = (0 : Int32).toInt := fun z9 => c35 (i_eq.mpr z9)
              refine lv_aload_n hx hb dX12_readAtom_132 rfl (lv_at hl 0 rfl) ?_
              refine lv_bipush (v := 60) hx hb dX12_readAtom_133 (by decide) ?_
              have k_60 : (60 : Int32).toInt = 60 := by decide
              refine callV_Ei C S34 (c_X12_sign l D G a0 (60 : Int32) ga0) kV_X12_193 ga0 (trivial) (by decide +kernel) dX12_readAtom_135 hl.1 rfl rfl (by decide) cd_X12_sign ⟨Nat.le_of_ble_eq_true rfl, Nat.le_of_ble_eq_true rfl, Nat.le_of_ble_eq_true rfl, Nat.le_of_ble_eq_true rfl, Nat.le_of_ble_eq_true rfl⟩ (fun v36 H36 L36 S36 K36 q36 => ?_)
              have y36_13 : (fI D H36 11 a0 13).toInt = (fI D H34 11 a0 13).toInt := congrArg Int32.toInt (K36.fI ga0 rfl (by decide) (by decide +kernel))
              have y36_16 : (fI D H36 11 a0 16).toInt = (fI D H34 11 a0 16).toInt := congrArg Int32.toInt (K36.fI ga0 rfl (by decide) (by decide +kernel))
              have lq36 : Lq D H34 H36 a0 := Lq.keep S34.1 ga0 K36 (by decide +kernel) (by decide +kernel) (by decide +kernel)
              have tk36 : Lq D s.heap H36 a0 := tk34.trans lq36
              rcases q36 with q36 | q36
              · skip
                refine lv_istore_n (lv' := [(1, .int v36), (0, .ref a0)]) hx hb dX12_readAtom_138 rfl hl (by decide) rfl (fun ls hl => ?_)
                refine lv_iload_n hx hb dX12_readAtom_139 rfl (lv_at hl 0 rfl) ?_
                refine lv_if_ne (tgt := 152) hx hb dX12_readAtom_140 (by decide) (fun c37 => ?_) (fun c37 => ?_)
                · have b37 : ¬ v36.toInt = (0 : Int32).toInt := fun z9 => c37 (i_eq.mpr z9)
                  refine lv_aload_n hx hb dX12_readAtom_152 rfl (lv_at hl 1 rfl) ?_
                  have rs9 : 0 ≤ (fI D H36 11 a0 16).toInt ∧ (fI D H36 11 a0 16).toInt ≤ 400 := S36.1.rng ga0 rfl (by decide) rfl
                  have rp9 : 0 ≤ (fI D H36 11 a0 10).toInt ∧ (fI D H36 11 a0 10).toInt ≤ 400 := S36.1.rng ga0 rfl (by decide) rfl
                  refine callV_Ei C S36 (c_X12_readSum l D G a0 ga0) kV_X12_211 ga0 (by omega) (by decide +kernel) dX12_readAtom_153 hl.1 rfl rfl (by decide) cd_X12_readSum ⟨Nat.le_of_ble_eq_true rfl, Nat.le_of_ble_eq_true rfl, Nat.le_of_ble_eq_true rfl, Nat.le_of_ble_eq_true rfl, Nat.le_of_ble_eq_true rfl⟩ (fun v38 H38 L38 S38 K38 q38 => ?_)
                  obtain ⟨q38, sa38, sx38, tq38⟩ := q38
                  have y38_13 : (fI D H38 11 a0 13).toInt = (fI D H36 11 a0 13).toInt := congrArg Int32.toInt (K38.fI ga0 rfl (by decide) (by decide +kernel))
                  have lq38 : Lq D H36 H38 a0 := tq38
                  have tk38 : Lq D s.heap H38 a0 := tk36.trans lq38
                  refine lv_if_ne (tgt := 161) hx hb dX12_readAtom_156 (by decide) (fun c39 => ?_) (fun c39 => ?_)
                  · have b39 : ¬ v38.toInt = (0 : Int32).toInt := fun z9 => c39 (i_eq.mpr z9)
                    refine lv_aload_n hx hb dX12_readAtom_161 rfl (lv_at hl 1 rfl) ?_
                    refine lv_iload_n hx hb dX12_readAtom_162 rfl (lv_at hl 0 rfl) ?_
                    refine lv_if_eq (tgt := 171) hx hb dX12_readAtom_163 (by decide) (fun c40 => ?_) (fun c40 => ?_)
                    · have b40 : v36.toInt = (0 : Int32).toInt := i_eq.mp c40
                      exact absurd b40 (by omega)
                    · have b40 : ¬ v36.toInt = (0 : Int32).toInt := fun z9 => c40 (i_eq.mpr z9)
                      refine lv_bipush (v := 13) hx hb dX12_readAtom_166 (by decide) ?_
                      refine lv_goto (tgt := 173) hx hb dX12_readAtom_168 (by decide) ?_
                      refine lv_iconst (v := 0) hx hb dX12_readAtom_173 (by decide) ?_
                      have rs9 : 0 ≤ (fI D H38 11 a0 16).toInt ∧ (fI D H38 11 a0 16).toInt ≤ 400 := S38.1.rng ga0 rfl (by decide) rfl
                      have rp9 : 0 ≤ (fI D H38 11 a0 10).toInt ∧ (fI D H38 11 a0 10).toInt ≤ 400 := S38.1.rng ga0 rfl (by decide) rfl
                      have k_13 : (13 : Int32).toInt = 13 := by decide
                      refine callV_Ev C S38 (c_X12_emits l D G a0 (13 : Int32) (0 : Int32) ga0) kV_X12_185 ga0 (by omega) (by decide +kernel) dX12_readAtom_174 hl.1 rfl rfl (by decide) cd_X12_emits ⟨Nat.le_of_ble_eq_true rfl, Nat.le_of_ble_eq_true rfl, Nat.le_of_ble_eq_true rfl, Nat.le_of_ble_eq_true rfl, Nat.le_of_ble_eq_true rfl⟩ (fun H41 L41 S41 K41 q41 => ?_)
                      obtain ⟨qa41, qb41, tq41⟩ := q41
                      have y41_10 : (fI D H41 11 a0 10).toInt = (fI D H38 11 a0 10).toInt := congrArg Int32.toInt (K41.fI ga0 rfl (by decide) (by decide +kernel))
                      have y41_12 : (fI D H41 11 a0 12).toInt = (fI D H38 11 a0 12).toInt := congrArg Int32.toInt (K41.fI ga0 rfl (by decide) (by decide +kernel))
                      have y41_13 : (fI D H41 11 a0 13).toInt = (fI D H38 11 a0 13).toInt := congrArg Int32.toInt (K41.fI ga0 rfl (by decide) (by decide +kernel))
                      have lq41 : Lq D H38 H41 a0 := tq41
                      have tk41 : Lq D s.heap H41 a0 := tk38.trans lq41
                      refine lv_iconst (v := 1) hx hb dX12_readAtom_177 (by decide) ?_
                      have k_1 : (1 : Int32).toInt = 1 := by decide
                      exact retE_z hQ C S41 hr dX12_readAtom_178 (z01 (by omega) (by omega)) (⟨by omega, fun _ => by omega, fun _ => (Ex.bin (((lq36.trans lq38).trans lq41).ex (sx34 (by omega)) (by omega)) ((lq41.ex (sx38 (by omega)) (by omega)).at (i' := (fI D H34 11 a0 16).toInt.toNat) (by omega) rfl) (by rw [qb41]; decide) rfl).at (by omega) (by omega), tk41⟩)
                  · have b39 : v38.toInt = (0 : Int32).toInt := i_eq.mp c39
                    refine lv_iconst (v := 0) hx hb dX12_readAtom_159 (by decide) ?_
                    exact retE_z hQ C S38 hr dX12_readAtom_160 (z01 (by omega) (by omega)) (⟨by omega, fun h9 => absurd h9 (by decide), fun h9 => absurd h9 (by decide), tk38⟩)
                · have b37 : v36.toInt = (0 : Int32).toInt := i_eq.mp c37
                  exact absurd b37 (by omega)
              · skip
                refine lv_istore_n (lv' := [(1, .int v36), (0, .ref a0)]) hx hb dX12_readAtom_138 rfl hl (by decide) rfl (fun ls hl => ?_)
                refine lv_iload_n hx hb dX12_readAtom_139 rfl (lv_at hl 0 rfl) ?_
                refine lv_if_ne (tgt := 152) hx hb dX12_readAtom_140 (by decide) (fun c42 => ?_) (fun c42 => ?_)
                · have b42 : ¬ v36.toInt = (0 : Int32).toInt := fun z9 => c42 (i_eq.mpr z9)
                  exact absurd b42 (by omega)
                · have b42 : v36.toInt = (0 : Int32).toInt := i_eq.mp c42
                  refine lv_aload_n hx hb dX12_readAtom_143 rfl (lv_at hl 1 rfl) ?_
                  refine lv_bipush (v := 62) hx hb dX12_readAtom_144 (by decide) ?_
                  have k_62 : (62 : Int32).toInt = 62 := by decide
                  refine callV_Ei C S36 (c_X12_sign l D G a0 (62 : Int32) ga0) kV_X12_193 ga0 (trivial) (by decide +kernel) dX12_readAtom_146 hl.1 rfl rfl (by decide) cd_X12_sign ⟨Nat.le_of_ble_eq_true rfl, Nat.le_of_ble_eq_true rfl, Nat.le_of_ble_eq_true rfl, Nat.le_of_ble_eq_true rfl, Nat.le_of_ble_eq_true rfl⟩ (fun v43 H43 L43 S43 K43 q43 => ?_)
                  have y43_13 : (fI D H43 11 a0 13).toInt = (fI D H36 11 a0 13).toInt := congrArg Int32.toInt (K43.fI ga0 rfl (by decide) (by decide +kernel))
                  have y43_16 : (fI D H43 11 a0 16).toInt = (fI D H36 11 a0 16).toInt := congrArg Int32.toInt (K43.fI ga0 rfl (by decide) (by decide +kernel))
                  have lq43 : Lq D H36 H43 a0 := Lq.keep S36.1 ga0 K43 (by decide +kernel) (by decide +kernel) (by decide +kernel)
                  have tk43 : Lq D s.heap H43 a0 := tk36.trans lq43
                  rcases q43 with q43 | q43
                  · skip
                    refine lv_if_eq (tgt := 159) hx hb dX12_readAtom_149 (by decide) (fun c44 => ?_) (fun c44 => ?_)
                    · have b44 : v43.toInt = (0 : Int32).toInt := i_eq.mp c44
                      exact absurd b44 (by omega)
                    · have b44 : ¬ v43.toInt = (0 : Int32).toInt := fun z9 => c44 (i_eq.mpr z9)
                      refine lv_aload_n hx hb dX12_readAtom_152 rfl (lv_at hl 1 rfl) ?_
                      have rs9 : 0 ≤ (fI D H43 11 a0 16).toInt ∧ (fI D H43 11 a0 16).toInt ≤ 400 := S43.1.rng ga0 rfl (by decide) rfl
                      have rp9 : 0 ≤ (fI D H43 11 a0 10).toInt ∧ (fI D H43 11 a0 10).toInt ≤ 400 := S43.1.rng ga0 rfl (by decide) rfl
                      refine callV_Ei C S43 (c_X12_readSum l D G a0 ga0) kV_X12_211 ga0 (by omega) (by decide +kernel) dX12_readAtom_153 hl.1 rfl rfl (by decide) cd_X12_readSum ⟨Nat.le_of_ble_eq_true rfl, Nat.le_of_ble_eq_true rfl, Nat.le_of_ble_eq_true rfl, Nat.le_of_ble_eq_true rfl, Nat.le_of_ble_eq_true rfl⟩ (fun v45 H45 L45 S45 K45 q45 => ?_)
                      obtain ⟨q45, sa45, sx45, tq45⟩ := q45
                      have y45_13 : (fI D H45 11 a0 13).toInt = (fI D H43 11 a0 13).toInt := congrArg Int32.toInt (K45.fI ga0 rfl (by decide) (by decide +kernel))
                      have lq45 : Lq D H43 H45 a0 := tq45
                      have tk45 : Lq D s.heap H45 a0 := tk43.trans lq45
                      refine lv_if_ne (tgt := 161) hx hb dX12_readAtom_156 (by decide) (fun c46 => ?_) (fun c46 => ?_)
                      · have b46 : ¬ v45.toInt = (0 : Int32).toInt := fun z9 => c46 (i_eq.mpr z9)
                        refine lv_aload_n hx hb dX12_readAtom_161 rfl (lv_at hl 1 rfl) ?_
                        refine lv_iload_n hx hb dX12_readAtom_162 rfl (lv_at hl 0 rfl) ?_
                        refine lv_if_eq (tgt := 171) hx hb dX12_readAtom_163 (by decide) (fun c47 => ?_) (fun c47 => ?_)
                        · have b47 : v36.toInt = (0 : Int32).toInt := i_eq.mp c47
                          refine lv_bipush (v := 14) hx hb dX12_readAtom_171 (by decide) ?_
                          refine lv_iconst (v := 0) hx hb dX12_readAtom_173 (by decide) ?_
                          have rs9 : 0 ≤ (fI D H45 11 a0 16).toInt ∧ (fI D H45 11 a0 16).toInt ≤ 400 := S45.1.rng ga0 rfl (by decide) rfl
                          have rp9 : 0 ≤ (fI D H45 11 a0 10).toInt ∧ (fI D H45 11 a0 10).toInt ≤ 400 := S45.1.rng ga0 rfl (by decide) rfl
                          have k_14 : (14 : Int32).toInt = 14 := by decide
                          refine callV_Ev C S45 (c_X12_emits l D G a0 (14 : Int32) (0 : Int32) ga0) kV_X12_185 ga0 (by omega) (by decide +kernel) dX12_readAtom_174 hl.1 rfl rfl (by decide) cd_X12_emits ⟨Nat.le_of_ble_eq_true rfl, Nat.le_of_ble_eq_true rfl, Nat.le_of_ble_eq_true rfl, Nat.le_of_ble_eq_true rfl, Nat.le_of_ble_eq_true rfl⟩ (fun H48 L48 S48 K48 q48 => ?_)
                          obtain ⟨qa48, qb48, tq48⟩ := q48
                          have y48_10 : (fI D H48 11 a0 10).toInt = (fI D H45 11 a0 10).toInt := congrArg Int32.toInt (K48.fI ga0 rfl (by decide) (by decide +kernel))
                          have y48_12 : (fI D H48 11 a0 12).toInt = (fI D H45 11 a0 12).toInt := congrArg Int32.toInt (K48.fI ga0 rfl (by decide) (by decide +kernel))
                          have y48_13 : (fI D H48 11 a0 13).toInt = (fI D H45 11 a0 13).toInt := congrArg Int32.toInt (K48.fI ga0 rfl (by decide) (by decide +kernel))
                          have lq48 : Lq D H45 H48 a0 := tq48
                          have tk48 : Lq D s.heap H48 a0 := tk45.trans lq48
                          refine lv_iconst (v := 1) hx hb dX12_readAtom_177 (by decide) ?_
                          have k_1 : (1 : Int32).toInt = 1 := by decide
                          exact retE_z hQ C S48 hr dX12_readAtom_178 (z01 (by omega) (by omega)) (⟨by omega, fun _ => by omega, fun _ => (Ex.bin ((((lq36.trans lq43).trans lq45).trans lq48).ex (sx34 (by omega)) (by omega)) ((lq48.ex (sx45 (by omega)) (by omega)).at (i' := (fI D H34 11 a0 16).toInt.toNat) (by omega) rfl) (by rw [qb48]; decide) rfl).at (by omega) (by omega), tk48⟩)
                        · have b47 : ¬ v36.toInt = (0 : Int32).toInt := fun z9 => c47 (i_eq.mpr z9)
                          exact absurd b47 (by omega)
                      · have b46 : v45.toInt = (0 : Int32).toInt := i_eq.mp c46
                        refine lv_iconst (v := 0) hx hb dX12_readAtom_159 (by decide) ?_
                        exact retE_z hQ C S45 hr dX12_readAtom_160 (z01 (by omega) (by omega)) (⟨by omega, fun h9 => absurd h9 (by decide), fun h9 => absurd h9 (by decide), tk45⟩)
                  · skip
                    refine lv_if_eq (tgt := 159) hx hb dX12_readAtom_149 (by decide) (fun c49 => ?_) (fun c49 => ?_)
                    · have b49 : v43.toInt = (0 : Int32).toInt := i_eq.mp c49
                      refine lv_iconst (v := 0) hx hb dX12_readAtom_159 (by decide) ?_
                      exact retE_z hQ C S43 hr dX12_readAtom_160 (z01 (by omega) (by omega)) (⟨by omega, fun h9 => absurd h9 (by decide), fun h9 => absurd h9 (by decide), tk43⟩)
                    · have b49 : ¬ v43.toInt = (0 : Int32).toInt := fun z9 => c49 (i_eq.mpr z9)
                      exact absurd b49 (by omega)
            · have b35 : v34.toInt = (0 : Int32).toInt := i_eq.mp c35
              refine lv_iconst (v := 0) hx hb dX12_readAtom_130 (by decide) ?_
              exact retE_z hQ C S34 hr dX12_readAtom_131 (z01 (by omega) (by omega)) (⟨by omega, fun h9 => absurd h9 (by decide), fun h9 => absurd h9 (by decide), tk34⟩)
          · have b33 : ¬ v32.toInt = (0 : Int32).toInt := fun z9 => c33 (i_eq.mpr z9)
            refine lv_iconst (v := 1) hx hb dX12_readAtom_121 (by decide) ?_
            have k_1 : (1 : Int32).toInt = 1 := by decide
            exact retE_z hQ C S32 hr dX12_readAtom_122 (z01 (by omega) (by omega)) (⟨by omega, fun _ => by omega, fun _ => (sx32 (by omega)).at (by omega) rfl, tk32⟩)
        · have b31 : ¬ v17.toInt = (0 : Int32).toInt := fun z9 => c31 (i_eq.mpr z9)
          exact absurd b31 (by omega)
    · have b15 : ¬ v1.toInt = (0 : Int32).toInt := fun z9 => c15 (i_eq.mpr z9)
      exact absurd b15 (by omega)

set_option maxRecDepth 100000 in
set_option maxHeartbeats 4000000 in
theorem c_X12_readAllOf_d4 (l : Launch) (D : DD) (G : Nat → Nat) (a0 : Nat) (ga0 : G a0 = 30) : CE l D G yX12_readAllOf cX12_readAllOf 1 (some .boolean) 14 [.ref a0] (fun H => (fI D H 11 a0 13).toInt = 4 ∧ (fI D H 11 a0 16).toInt + 3 ≤ (fI D H 11 a0 10).toInt) [(30, 10), (30, 12), (30, 16), (31, 0), (30, 13)] (xI (fun H r H1 => (0 ≤ r.toInt ∧ r.toInt ≤ 1) ∧ (r.toInt = 1 → (fI D H1 11 a0 16).toInt - (fI D H 11 a0 16).toInt ≤ (fI D H1 11 a0 10).toInt - (fI D H 11 a0 10).toInt ∧ (fI D H1 11 a0 13).toInt = (fI D H 11 a0 13).toInt ∧ (fI D H 11 a0 10).toInt ≤ (fI D H1 11 a0 10).toInt) ∧ (r.toInt = 1 → Ex (Cs D H1 a0) (fI D H 11 a0 16).toInt.toNat (fI D H1 11 a0 16).toInt.toNat) ∧ Lq D H H1 a0)) := by
  refine enter (by decide) (Nat.le_of_ble_eq_true rfl) ?_
  intro p e s m args below meth c ls Q hA hQ C hr hO hpre hl
  have hx := C.1
  have hb := C.2.1
  have S : Sd D G [(30, 10), (30, 12), (30, 16), (31, 0), (30, 13)] s.heap s.heap [] := Sd.start hO
  have hl : lv_has ls 1 [(0, .ref a0)] := hl
  have rs0 : 0 ≤ (fI D s.heap 11 a0 16).toInt ∧ (fI D s.heap 11 a0 16).toInt ≤ 400 := hO.rng ga0 rfl (by decide) rfl
  have rp0 : 0 ≤ (fI D s.heap 11 a0 10).toInt ∧ (fI D s.heap 11 a0 10).toInt ≤ 400 := hO.rng ga0 rfl (by decide) rfl
  have tk0 : Lq D s.heap s.heap a0 := Lq.refl
  refine lv_aload_n hx hb dX12_readAllOf_0 rfl (lv_at hl 0 rfl) ?_
  refine callV_Ei C S (c_X12_readAtom_d4 l D G a0 ga0) kV_X12_205 ga0 (hpre) (by decide +kernel) dX12_readAllOf_1 hl.1 rfl rfl (by decide) cd_X12_readAtom ⟨Nat.le_of_ble_eq_true rfl, Nat.le_of_ble_eq_true rfl, Nat.le_of_ble_eq_true rfl, Nat.le_of_ble_eq_true rfl, Nat.le_of_ble_eq_true rfl⟩ (fun v1 H1 L1 S1 K1 q1 => ?_)
  obtain ⟨q1, sa1, sx1, tq1⟩ := q1
  have lq1 : Lq D s.heap H1 a0 := tq1
  have tk1 : Lq D s.heap H1 a0 := tk0.trans lq1
  have k_0 : (0 : Int32).toInt = 0 := by decide
  refine lv_if_ne (tgt := 9) hx hb dX12_readAllOf_4 (by decide) (fun c2 => ?_) (fun c2 => ?_)
  · have b2 : ¬ v1.toInt = (0 : Int32).toInt := fun z9 => c2 (i_eq.mpr z9)
    have Lp9 : ∀ (n : Nat)  (H_9 : Heap) (L_9 : List Loc) (ls : Array Slot), (Sd D G [(30, 10), (30, 12), (30, 16), (31, 0), (30, 13)] s.heap H_9 L_9) → (Ex (Cs D H_9 a0) (fI D s.heap 11 a0 16).toInt.toNat (fI D H_9 11 a0 16).toInt.toNat) → ((fI D H_9 11 a0 16).toInt - (fI D s.heap 11 a0 16).toInt ≤ (fI D H_9 11 a0 10).toInt - (fI D s.heap 11 a0 10).toInt ∧ (fI D H_9 11 a0 13).toInt = (fI D s.heap 11 a0 13).toInt ∧ (fI D s.heap 11 a0 10).toInt ≤ (fI D H_9 11 a0 10).toInt) → (Lq D s.heap H_9 a0) → 401 - (fI D H_9 11 a0 10).toInt ≤ (n : Int) → lv_has ls 1 [(0, .ref a0)] → W p l e (rmU 14 0 0) s m args below meth c H_9 L_9 0 0 Q (F0 m 9 ls []) := by
      intro n
      induction n with
      | zero =>
        intro H_9 L_9 ls S_9 u9_0 u9_1 u9_2 hn hl
        have rz : 0 ≤ (fI D H_9 11 a0 10).toInt ∧ (fI D H_9 11 a0 10).toInt ≤ 400 := S_9.1.rng ga0 rfl (by decide) rfl
        exact absurd hn (by omega)
      | succ n ih9 =>
        intro H_9 L_9 ls S_9 u9_0 u9_1 u9_2 hn hl
        have rs9 : 0 ≤ (fI D H_9 11 a0 16).toInt ∧ (fI D H_9 11 a0 16).toInt ≤ 400 := S_9.1.rng ga0 rfl (by decide) rfl
        have rp9 : 0 ≤ (fI D H_9 11 a0 10).toInt ∧ (fI D H_9 11 a0 10).toInt ≤ 400 := S_9.1.rng ga0 rfl (by decide) rfl
        refine lv_aload_n hx hb dX12_readAllOf_9 rfl (lv_at hl 0 rfl) ?_
        refine q_lds C ks_X12_214 dX12_readAllOf_10 (fun a3 ha3 => ?_)
        refine callV_Ei C S_9 (c_X12_passes_w l D G a0 a3 3 ga0 ha3) kV_X12_120 ga0 (trivial) (by decide +kernel) dX12_readAllOf_12 hl.1 rfl rfl (by decide) cd_X12_passes ⟨Nat.le_of_ble_eq_true rfl, Nat.le_of_ble_eq_true rfl, Nat.le_of_ble_eq_true rfl, Nat.le_of_ble_eq_true rfl, Nat.le_of_ble_eq_true rfl⟩ (fun v4 H4 L4 S4 K4 q4 => ?_)
        have y4_13 : (fI D H4 11 a0 13).toInt = (fI D H_9 11 a0 13).toInt := congrArg Int32.toInt (K4.fI ga0 rfl (by decide) (by decide +kernel))
        have y4_16 : (fI D H4 11 a0 16).toInt = (fI D H_9 11 a0 16).toInt := congrArg Int32.toInt (K4.fI ga0 rfl (by decide) (by decide +kernel))
        have lq4 : Lq D H_9 H4 a0 := Lq.keep S_9.1 ga0 K4 (by decide +kernel) (by decide +kernel) (by decide +kernel)
        have tk4 : Lq D s.heap H4 a0 := u9_2.trans lq4
        rcases q4 with q4 | q4
        · skip
          refine lv_if_eq (tgt := 37) hx hb dX12_readAllOf_15 (by decide) (fun c5 => ?_) (fun c5 => ?_)
          · have b5 : v4.toInt = (0 : Int32).toInt := i_eq.mp c5
            exact absurd b5 (by omega)
          · have b5 : ¬ v4.toInt = (0 : Int32).toInt := fun z9 => c5 (i_eq.mpr z9)
            refine lv_aload_n hx hb dX12_readAllOf_18 rfl (lv_at hl 0 rfl) ?_
            have rs9 : 0 ≤ (fI D H4 11 a0 16).toInt ∧ (fI D H4 11 a0 16).toInt ≤ 400 := S4.1.rng ga0 rfl (by decide) rfl
            have rp9 : 0 ≤ (fI D H4 11 a0 10).toInt ∧ (fI D H4 11 a0 10).toInt ≤ 400 := S4.1.rng ga0 rfl (by decide) rfl
            refine callV_Ei C S4 (c_X12_readAtom_d4 l D G a0 ga0) kV_X12_205 ga0 (⟨by omega, by omega⟩) (by decide +kernel) dX12_readAllOf_19 hl.1 rfl rfl (by decide) cd_X12_readAtom ⟨Nat.le_of_ble_eq_true rfl, Nat.le_of_ble_eq_true rfl, Nat.le_of_ble_eq_true rfl, Nat.le_of_ble_eq_true rfl, Nat.le_of_ble_eq_true rfl⟩ (fun v6 H6 L6 S6 K6 q6 => ?_)
            obtain ⟨q6, sa6, sx6, tq6⟩ := q6
            have lq6 : Lq D H4 H6 a0 := tq6
            have tk6 : Lq D s.heap H6 a0 := tk4.trans lq6
            refine lv_if_ne (tgt := 27) hx hb dX12_readAllOf_22 (by decide) (fun c7 => ?_) (fun c7 => ?_)
            · have b7 : ¬ v6.toInt = (0 : Int32).toInt := fun z9 => c7 (i_eq.mpr z9)
              refine lv_aload_n hx hb dX12_readAllOf_27 rfl (lv_at hl 0 rfl) ?_
              refine lv_bipush (v := 16) hx hb dX12_readAllOf_28 (by decide) ?_
              refine lv_iconst (v := 0) hx hb dX12_readAllOf_30 (by decide) ?_
              have rs9 : 0 ≤ (fI D H6 11 a0 16).toInt ∧ (fI D H6 11 a0 16).toInt ≤ 400 := S6.1.rng ga0 rfl (by decide) rfl
              have rp9 : 0 ≤ (fI D H6 11 a0 10).toInt ∧ (fI D H6 11 a0 10).toInt ≤ 400 := S6.1.rng ga0 rfl (by decide) rfl
              have k_16 : (16 : Int32).toInt = 16 := by decide
              refine callV_Ev C S6 (c_X12_emits l D G a0 (16 : Int32) (0 : Int32) ga0) kV_X12_185 ga0 (by omega) (by decide +kernel) dX12_readAllOf_31 hl.1 rfl rfl (by decide) cd_X12_emits ⟨Nat.le_of_ble_eq_true rfl, Nat.le_of_ble_eq_true rfl, Nat.le_of_ble_eq_true rfl, Nat.le_of_ble_eq_true rfl, Nat.le_of_ble_eq_true rfl⟩ (fun H8 L8 S8 K8 q8 => ?_)
              obtain ⟨qa8, qb8, tq8⟩ := q8
              have y8_10 : (fI D H8 11 a0 10).toInt = (fI D H6 11 a0 10).toInt := congrArg Int32.toInt (K8.fI ga0 rfl (by decide) (by decide +kernel))
              have y8_12 : (fI D H8 11 a0 12).toInt = (fI D H6 11 a0 12).toInt := congrArg Int32.toInt (K8.fI ga0 rfl (by decide) (by decide +kernel))
              have y8_13 : (fI D H8 11 a0 13).toInt = (fI D H6 11 a0 13).toInt := congrArg Int32.toInt (K8.fI ga0 rfl (by decide) (by decide +kernel))
              have lq8 : Lq D H6 H8 a0 := tq8
              have tk8 : Lq D s.heap H8 a0 := tk6.trans lq8
              refine lv_goto (tgt := 9) hx hb dX12_readAllOf_34 (by decide) ?_
              have e9 : Ex (Cs D H8 a0) (fI D s.heap 11 a0 16).toInt.toNat (fI D H8 11 a0 16).toInt.toNat := (Ex.bin (((lq4.trans lq6).trans lq8).ex u9_0 (by omega)) ((lq8.ex (sx6 (by omega)) (by omega)).at (i' := (fI D H_9 11 a0 16).toInt.toNat) (by omega) rfl) (by rw [qb8]; decide) rfl).at (by omega) (by omega)
              exact ih9  H8 L8 ls S8 e9 (by omega) tk8 (by omega) (lv_sub hl [0] rfl)
            · have b7 : v6.toInt = (0 : Int32).toInt := i_eq.mp c7
              refine lv_iconst (v := 0) hx hb dX12_readAllOf_25 (by decide) ?_
              exact retE_z hQ C S6 hr dX12_readAllOf_26 (z01 (by omega) (by omega)) (⟨by omega, fun h9 => absurd h9 (by decide), fun h9 => absurd h9 (by decide), tk6⟩)
        · skip
          refine lv_if_eq (tgt := 37) hx hb dX12_readAllOf_15 (by decide) (fun c9 => ?_) (fun c9 => ?_)
          · have b9 : v4.toInt = (0 : Int32).toInt := i_eq.mp c9
            refine lv_iconst (v := 1) hx hb dX12_readAllOf_37 (by decide) ?_
            have k_1 : (1 : Int32).toInt = 1 := by decide
            exact retE_z hQ C S4 hr dX12_readAllOf_38 (z01 (by omega) (by omega)) (⟨by omega, fun _ => by omega, fun _ => (lq4.ex u9_0 (by omega)).at (by omega) (by omega), tk4⟩)
          · have b9 : ¬ v4.toInt = (0 : Int32).toInt := fun z9 => c9 (i_eq.mpr z9)
            exact absurd b9 (by omega)
    have ex0 := sx1 (by omega)
    have rn : 0 ≤ (fI D H1 11 a0 10).toInt ∧ (fI D H1 11 a0 10).toInt ≤ 400 := S1.1.rng ga0 rfl (by decide) rfl
    exact Lp9 402  H1 L1 ls S1 (ex0.at (by omega) rfl) (by omega) tk1  (by omega) (lv_sub hl [0] rfl)
  · have b2 : v1.toInt = (0 : Int32).toInt := i_eq.mp c2
    refine lv_iconst (v := 0) hx hb dX12_readAllOf_7 (by decide) ?_
    exact retE_z hQ C S1 hr dX12_readAllOf_8 (z01 (by omega) (by omega)) (⟨by omega, fun h9 => absurd h9 (by decide), fun h9 => absurd h9 (by decide), tk1⟩)

set_option maxRecDepth 100000 in
set_option maxHeartbeats 4000000 in
theorem c_X12_readCond_d4 (l : Launch) (D : DD) (G : Nat → Nat) (a0 : Nat) (ga0 : G a0 = 30) : CE l D G yX12_readCond cX12_readCond 1 (some .boolean) 15 [.ref a0] (fun H => (fI D H 11 a0 13).toInt = 4 ∧ (fI D H 11 a0 16).toInt + 3 ≤ (fI D H 11 a0 10).toInt) [(30, 10), (30, 12), (30, 16), (31, 0), (30, 13)] (xI (fun H r H1 => (0 ≤ r.toInt ∧ r.toInt ≤ 1) ∧ (r.toInt = 1 → (fI D H1 11 a0 16).toInt - (fI D H 11 a0 16).toInt ≤ (fI D H1 11 a0 10).toInt - (fI D H 11 a0 10).toInt ∧ (fI D H1 11 a0 13).toInt = (fI D H 11 a0 13).toInt ∧ (fI D H 11 a0 10).toInt ≤ (fI D H1 11 a0 10).toInt) ∧ (r.toInt = 1 → Ex (Cs D H1 a0) (fI D H 11 a0 16).toInt.toNat (fI D H1 11 a0 16).toInt.toNat) ∧ Lq D H H1 a0)) := by
  refine enter (by decide) (Nat.le_of_ble_eq_true rfl) ?_
  intro p e s m args below meth c ls Q hA hQ C hr hO hpre hl
  have hx := C.1
  have hb := C.2.1
  have S : Sd D G [(30, 10), (30, 12), (30, 16), (31, 0), (30, 13)] s.heap s.heap [] := Sd.start hO
  have hl : lv_has ls 1 [(0, .ref a0)] := hl
  have rs0 : 0 ≤ (fI D s.heap 11 a0 16).toInt ∧ (fI D s.heap 11 a0 16).toInt ≤ 400 := hO.rng ga0 rfl (by decide) rfl
  have rp0 : 0 ≤ (fI D s.heap 11 a0 10).toInt ∧ (fI D s.heap 11 a0 10).toInt ≤ 400 := hO.rng ga0 rfl (by decide) rfl
  have tk0 : Lq D s.heap s.heap a0 := Lq.refl
  refine lv_aload_n hx hb dX12_readCond_0 rfl (lv_at hl 0 rfl) ?_
  refine callV_Ei C S (c_X12_readAllOf_d4 l D G a0 ga0) kV_X12_216 ga0 (hpre) (by decide +kernel) dX12_readCond_1 hl.1 rfl rfl (by decide) cd_X12_readAllOf ⟨Nat.le_of_ble_eq_true rfl, Nat.le_of_ble_eq_true rfl, Nat.le_of_ble_eq_true rfl, Nat.le_of_ble_eq_true rfl, Nat.le_of_ble_eq_true rfl⟩ (fun v1 H1 L1 S1 K1 q1 => ?_)
  obtain ⟨q1, sa1, sx1, tq1⟩ := q1
  have lq1 : Lq D s.heap H1 a0 := tq1
  have tk1 : Lq D s.heap H1 a0 := tk0.trans lq1
  have k_0 : (0 : Int32).toInt = 0 := by decide
  refine lv_if_ne (tgt := 9) hx hb dX12_readCond_4 (by decide) (fun c2 => ?_) (fun c2 => ?_)
  · have b2 : ¬ v1.toInt = (0 : Int32).toInt := fun z9 => c2 (i_eq.mpr z9)
    have Lp9 : ∀ (n : Nat)  (H_9 : Heap) (L_9 : List Loc) (ls : Array Slot), (Sd D G [(30, 10), (30, 12), (30, 16), (31, 0), (30, 13)] s.heap H_9 L_9) → (Ex (Cs D H_9 a0) (fI D s.heap 11 a0 16).toInt.toNat (fI D H_9 11 a0 16).toInt.toNat) → ((fI D H_9 11 a0 16).toInt - (fI D s.heap 11 a0 16).toInt ≤ (fI D H_9 11 a0 10).toInt - (fI D s.heap 11 a0 10).toInt ∧ (fI D H_9 11 a0 13).toInt = (fI D s.heap 11 a0 13).toInt ∧ (fI D s.heap 11 a0 10).toInt ≤ (fI D H_9 11 a0 10).toInt) → (Lq D s.heap H_9 a0) → 401 - (fI D H_9 11 a0 10).toInt ≤ (n : Int) → lv_has ls 1 [(0, .ref a0)] → W p l e (rmU 15 0 0) s m args below meth c H_9 L_9 0 0 Q (F0 m 9 ls []) := by
      intro n
      induction n with
      | zero =>
        intro H_9 L_9 ls S_9 u9_0 u9_1 u9_2 hn hl
        have rz : 0 ≤ (fI D H_9 11 a0 10).toInt ∧ (fI D H_9 11 a0 10).toInt ≤ 400 := S_9.1.rng ga0 rfl (by decide) rfl
        exact absurd hn (by omega)
      | succ n ih9 =>
        intro H_9 L_9 ls S_9 u9_0 u9_1 u9_2 hn hl
        have rs9 : 0 ≤ (fI D H_9 11 a0 16).toInt ∧ (fI D H_9 11 a0 16).toInt ≤ 400 := S_9.1.rng ga0 rfl (by decide) rfl
        have rp9 : 0 ≤ (fI D H_9 11 a0 10).toInt ∧ (fI D H_9 11 a0 10).toInt ≤ 400 := S_9.1.rng ga0 rfl (by decide) rfl
        refine lv_aload_n hx hb dX12_readCond_9 rfl (lv_at hl 0 rfl) ?_
        refine q_lds C ks_X12_219 dX12_readCond_10 (fun a3 ha3 => ?_)
        refine callV_Ei C S_9 (c_X12_passes_w l D G a0 a3 2 ga0 ha3) kV_X12_120 ga0 (trivial) (by decide +kernel) dX12_readCond_12 hl.1 rfl rfl (by decide) cd_X12_passes ⟨Nat.le_of_ble_eq_true rfl, Nat.le_of_ble_eq_true rfl, Nat.le_of_ble_eq_true rfl, Nat.le_of_ble_eq_true rfl, Nat.le_of_ble_eq_true rfl⟩ (fun v4 H4 L4 S4 K4 q4 => ?_)
        have y4_13 : (fI D H4 11 a0 13).toInt = (fI D H_9 11 a0 13).toInt := congrArg Int32.toInt (K4.fI ga0 rfl (by decide) (by decide +kernel))
        have y4_16 : (fI D H4 11 a0 16).toInt = (fI D H_9 11 a0 16).toInt := congrArg Int32.toInt (K4.fI ga0 rfl (by decide) (by decide +kernel))
        have lq4 : Lq D H_9 H4 a0 := Lq.keep S_9.1 ga0 K4 (by decide +kernel) (by decide +kernel) (by decide +kernel)
        have tk4 : Lq D s.heap H4 a0 := u9_2.trans lq4
        rcases q4 with q4 | q4
        · skip
          refine lv_if_eq (tgt := 37) hx hb dX12_readCond_15 (by decide) (fun c5 => ?_) (fun c5 => ?_)
          · have b5 : v4.toInt = (0 : Int32).toInt := i_eq.mp c5
            exact absurd b5 (by omega)
          · have b5 : ¬ v4.toInt = (0 : Int32).toInt := fun z9 => c5 (i_eq.mpr z9)
            refine lv_aload_n hx hb dX12_readCond_18 rfl (lv_at hl 0 rfl) ?_
            have rs9 : 0 ≤ (fI D H4 11 a0 16).toInt ∧ (fI D H4 11 a0 16).toInt ≤ 400 := S4.1.rng ga0 rfl (by decide) rfl
            have rp9 : 0 ≤ (fI D H4 11 a0 10).toInt ∧ (fI D H4 11 a0 10).toInt ≤ 400 := S4.1.rng ga0 rfl (by decide) rfl
            refine callV_Ei C S4 (c_X12_readAllOf_d4 l D G a0 ga0) kV_X12_216 ga0 (⟨by omega, by omega⟩) (by decide +kernel) dX12_readCond_19 hl.1 rfl rfl (by decide) cd_X12_readAllOf ⟨Nat.le_of_ble_eq_true rfl, Nat.le_of_ble_eq_true rfl, Nat.le_of_ble_eq_true rfl, Nat.le_of_ble_eq_true rfl, Nat.le_of_ble_eq_true rfl⟩ (fun v6 H6 L6 S6 K6 q6 => ?_)
            obtain ⟨q6, sa6, sx6, tq6⟩ := q6
            have lq6 : Lq D H4 H6 a0 := tq6
            have tk6 : Lq D s.heap H6 a0 := tk4.trans lq6
            refine lv_if_ne (tgt := 27) hx hb dX12_readCond_22 (by decide) (fun c7 => ?_) (fun c7 => ?_)
            · have b7 : ¬ v6.toInt = (0 : Int32).toInt := fun z9 => c7 (i_eq.mpr z9)
              refine lv_aload_n hx hb dX12_readCond_27 rfl (lv_at hl 0 rfl) ?_
              refine lv_bipush (v := 17) hx hb dX12_readCond_28 (by decide) ?_
              refine lv_iconst (v := 0) hx hb dX12_readCond_30 (by decide) ?_
              have rs9 : 0 ≤ (fI D H6 11 a0 16).toInt ∧ (fI D H6 11 a0 16).toInt ≤ 400 := S6.1.rng ga0 rfl (by decide) rfl
              have rp9 : 0 ≤ (fI D H6 11 a0 10).toInt ∧ (fI D H6 11 a0 10).toInt ≤ 400 := S6.1.rng ga0 rfl (by decide) rfl
              have k_17 : (17 : Int32).toInt = 17 := by decide
              refine callV_Ev C S6 (c_X12_emits l D G a0 (17 : Int32) (0 : Int32) ga0) kV_X12_185 ga0 (by omega) (by decide +kernel) dX12_readCond_31 hl.1 rfl rfl (by decide) cd_X12_emits ⟨Nat.le_of_ble_eq_true rfl, Nat.le_of_ble_eq_true rfl, Nat.le_of_ble_eq_true rfl, Nat.le_of_ble_eq_true rfl, Nat.le_of_ble_eq_true rfl⟩ (fun H8 L8 S8 K8 q8 => ?_)
              obtain ⟨qa8, qb8, tq8⟩ := q8
              have y8_10 : (fI D H8 11 a0 10).toInt = (fI D H6 11 a0 10).toInt := congrArg Int32.toInt (K8.fI ga0 rfl (by decide) (by decide +kernel))
              have y8_12 : (fI D H8 11 a0 12).toInt = (fI D H6 11 a0 12).toInt := congrArg Int32.toInt (K8.fI ga0 rfl (by decide) (by decide +kernel))
              have y8_13 : (fI D H8 11 a0 13).toInt = (fI D H6 11 a0 13).toInt := congrArg Int32.toInt (K8.fI ga0 rfl (by decide) (by decide +kernel))
              have lq8 : Lq D H6 H8 a0 := tq8
              have tk8 : Lq D s.heap H8 a0 := tk6.trans lq8
              refine lv_goto (tgt := 9) hx hb dX12_readCond_34 (by decide) ?_
              have e9 : Ex (Cs D H8 a0) (fI D s.heap 11 a0 16).toInt.toNat (fI D H8 11 a0 16).toInt.toNat := (Ex.bin (((lq4.trans lq6).trans lq8).ex u9_0 (by omega)) ((lq8.ex (sx6 (by omega)) (by omega)).at (i' := (fI D H_9 11 a0 16).toInt.toNat) (by omega) rfl) (by rw [qb8]; decide) rfl).at (by omega) (by omega)
              exact ih9  H8 L8 ls S8 e9 (by omega) tk8 (by omega) (lv_sub hl [0] rfl)
            · have b7 : v6.toInt = (0 : Int32).toInt := i_eq.mp c7
              refine lv_iconst (v := 0) hx hb dX12_readCond_25 (by decide) ?_
              exact retE_z hQ C S6 hr dX12_readCond_26 (z01 (by omega) (by omega)) (⟨by omega, fun h9 => absurd h9 (by decide), fun h9 => absurd h9 (by decide), tk6⟩)
        · skip
          refine lv_if_eq (tgt := 37) hx hb dX12_readCond_15 (by decide) (fun c9 => ?_) (fun c9 => ?_)
          · have b9 : v4.toInt = (0 : Int32).toInt := i_eq.mp c9
            refine lv_iconst (v := 1) hx hb dX12_readCond_37 (by decide) ?_
            have k_1 : (1 : Int32).toInt = 1 := by decide
            exact retE_z hQ C S4 hr dX12_readCond_38 (z01 (by omega) (by omega)) (⟨by omega, fun _ => by omega, fun _ => (lq4.ex u9_0 (by omega)).at (by omega) (by omega), tk4⟩)
          · have b9 : ¬ v4.toInt = (0 : Int32).toInt := fun z9 => c9 (i_eq.mpr z9)
            exact absurd b9 (by omega)
    have ex0 := sx1 (by omega)
    have rn : 0 ≤ (fI D H1 11 a0 10).toInt ∧ (fI D H1 11 a0 10).toInt ≤ 400 := S1.1.rng ga0 rfl (by decide) rfl
    exact Lp9 402  H1 L1 ls S1 (ex0.at (by omega) rfl) (by omega) tk1  (by omega) (lv_sub hl [0] rfl)
  · have b2 : v1.toInt = (0 : Int32).toInt := i_eq.mp c2
    refine lv_iconst (v := 0) hx hb dX12_readCond_7 (by decide) ?_
    exact retE_z hQ C S1 hr dX12_readCond_8 (z01 (by omega) (by omega)) (⟨by omega, fun h9 => absurd h9 (by decide), fun h9 => absurd h9 (by decide), tk1⟩)

set_option maxRecDepth 100000 in
set_option maxHeartbeats 4000000 in
theorem c_X12_readAtom_d3 (l : Launch) (D : DD) (G : Nat → Nat) (a0 : Nat) (ga0 : G a0 = 30) : CE l D G yX12_readAtom cX12_readAtom 2 (some .boolean) 16 [.ref a0] (fun H => (fI D H 11 a0 13).toInt = 3 ∧ (fI D H 11 a0 16).toInt + 3 ≤ (fI D H 11 a0 10).toInt) [(30, 10), (30, 12), (30, 16), (31, 0), (30, 13)] (xI (fun H r H1 => (0 ≤ r.toInt ∧ r.toInt ≤ 1) ∧ (r.toInt = 1 → (fI D H1 11 a0 16).toInt - (fI D H 11 a0 16).toInt ≤ (fI D H1 11 a0 10).toInt - (fI D H 11 a0 10).toInt ∧ (fI D H1 11 a0 13).toInt = (fI D H 11 a0 13).toInt ∧ (fI D H 11 a0 10).toInt ≤ (fI D H1 11 a0 10).toInt) ∧ (r.toInt = 1 → Ex (Cs D H1 a0) (fI D H 11 a0 16).toInt.toNat (fI D H1 11 a0 16).toInt.toNat) ∧ Lq D H H1 a0)) := by
  refine enter (by decide) (Nat.le_of_ble_eq_true rfl) ?_
  intro p e s m args below meth c ls Q hA hQ C hr hO hpre hl
  have hx := C.1
  have hb := C.2.1
  have S : Sd D G [(30, 10), (30, 12), (30, 16), (31, 0), (30, 13)] s.heap s.heap [] := Sd.start hO
  have hl : lv_has ls 2 [(0, .ref a0)] := hl
  have rs0 : 0 ≤ (fI D s.heap 11 a0 16).toInt ∧ (fI D s.heap 11 a0 16).toInt ≤ 400 := hO.rng ga0 rfl (by decide) rfl
  have rp0 : 0 ≤ (fI D s.heap 11 a0 10).toInt ∧ (fI D s.heap 11 a0 10).toInt ≤ 400 := hO.rng ga0 rfl (by decide) rfl
  have tk0 : Lq D s.heap s.heap a0 := Lq.refl
  refine lv_aload_n hx hb dX12_readAtom_0 rfl (lv_at hl 0 rfl) ?_
  refine lv_bipush (v := 40) hx hb dX12_readAtom_1 (by decide) ?_
  have k_40 : (40 : Int32).toInt = 40 := by decide
  refine callV_Ei C S (c_X12_sign l D G a0 (40 : Int32) ga0) kV_X12_193 ga0 (trivial) (by decide +kernel) dX12_readAtom_3 hl.1 rfl rfl (by decide) cd_X12_sign ⟨Nat.le_of_ble_eq_true rfl, Nat.le_of_ble_eq_true rfl, Nat.le_of_ble_eq_true rfl, Nat.le_of_ble_eq_true rfl, Nat.le_of_ble_eq_true rfl⟩ (fun v1 H1 L1 S1 K1 q1 => ?_)
  have y1_13 : (fI D H1 11 a0 13).toInt = (fI D s.heap 11 a0 13).toInt := congrArg Int32.toInt (K1.fI ga0 rfl (by decide) (by decide +kernel))
  have y1_16 : (fI D H1 11 a0 16).toInt = (fI D s.heap 11 a0 16).toInt := congrArg Int32.toInt (K1.fI ga0 rfl (by decide) (by decide +kernel))
  have lq1 : Lq D s.heap H1 a0 := Lq.keep S.1 ga0 K1 (by decide +kernel) (by decide +kernel) (by decide +kernel)
  have tk1 : Lq D s.heap H1 a0 := tk0.trans lq1
  rcases q1 with q1 | q1
  · skip
    have k_0 : (0 : Int32).toInt = 0 := by decide
    refine lv_if_eq (tgt := 56) hx hb dX12_readAtom_6 (by decide) (fun c2 => ?_) (fun c2 => ?_)
    · have b2 : v1.toInt = (0 : Int32).toInt := i_eq.mp c2
      exact absurd b2 (by omega)
    · have b2 : ¬ v1.toInt = (0 : Int32).toInt := fun z9 => c2 (i_eq.mpr z9)
      refine lv_aload_n hx hb dX12_readAtom_9 rfl (lv_at hl 0 rfl) ?_
      have dd : (fI D H1 11 a0 13).toInt = 3 := by omega
      refine q_gi (T := TX12) C S1.1 ga0 13 kF_X12_197 dX12_readAtom_10 rfl rfl (by decide) rfl (by decide) rfl ?_
      have r3 : 0 ≤ (fI D H1 11 a0 13).toInt ∧ (fI D H1 11 a0 13).toInt ≤ 6 := S1.1.rng ga0 rfl (by decide) rfl
      refine lv_bipush (v := 6) hx hb dX12_readAtom_13 (by decide) ?_
      have k_6 : (6 : Int32).toInt = 6 := by decide
      refine lv_icmp_ne (tgt := 20) hx hb dX12_readAtom_15 (by decide) (fun c4 => ?_) (fun c4 => ?_)
      · have b4 : ¬ (fI D H1 11 a0 13).toInt = (6 : Int32).toInt := fun z9 => c4 (i_eq.mpr z9)
        refine lv_aload_n hx hb dX12_readAtom_20 rfl (lv_at hl 0 rfl) ?_
        refine lv_dup hx hb dX12_readAtom_21 rfl ?_
        refine q_gi (T := TX12) C S1.1 ga0 13 kF_X12_197 dX12_readAtom_22 rfl rfl (by decide) rfl (by decide) rfl ?_
        refine lv_iconst (v := 1) hx hb dX12_readAtom_25 (by decide) ?_
        have k_1 : (1 : Int32).toInt = 1 := by decide
        refine lv_iadd hx hb dX12_readAtom_26 ?_
        refine lv_topi (fun v5 ev5 => ?_)
        have f6 : v5.toInt = (fI D H1 11 a0 13).toInt + (1 : Int32).toInt := by rw [ev5]; exact i_add (by omega) (by omega)
        refine q_put (T := TX12) C S1 ga0 13 kF_X12_197 dX12_readAtom_27 rfl rfl (by decide) (by decide) rfl rfl rfl rfl rfl (vok_i rfl (by omega) (by omega)) (by decide +kernel) (fun H7 L7 S7 P7 => ?_)
        have y7_10 : (fI D H7 11 a0 10).toInt = (fI D H1 11 a0 10).toInt := congrArg Int32.toInt (Pt.o P7 (by decide) (by decide))
        have y7_12 : (fI D H7 11 a0 12).toInt = (fI D H1 11 a0 12).toInt := congrArg Int32.toInt (Pt.o P7 (by decide) (by decide))
        have y7_13 : (fI D H7 11 a0 13).toInt = v5.toInt := congrArg Int32.toInt (Pt.i P7)
        have y7_16 : (fI D H7 11 a0 16).toInt = (fI D H1 11 a0 16).toInt := congrArg Int32.toInt (Pt.o P7 (by decide) (by decide))
        have lq7 : Lq D H1 H7 a0 := Lq.put S1.1 ga0 P7 (by decide) (by decide)
        have tk7 : Lq D s.heap H7 a0 := tk1.trans lq7
        refine lv_aload_n hx hb dX12_readAtom_30 rfl (lv_at hl 0 rfl) ?_
        have rs9 : 0 ≤ (fI D H7 11 a0 16).toInt ∧ (fI D H7 11 a0 16).toInt ≤ 400 := S7.1.rng ga0 rfl (by decide) rfl
        have rp9 : 0 ≤ (fI D H7 11 a0 10).toInt ∧ (fI D H7 11 a0 10).toInt ≤ 400 := S7.1.rng ga0 rfl (by decide) rfl
        refine callV_Ei C S7 (c_X12_readCond_d4 l D G a0 ga0) kV_X12_200 ga0 (⟨by omega, by omega⟩) (by decide +kernel) dX12_readAtom_31 hl.1 rfl rfl (by decide) cd_X12_readCond ⟨Nat.le_of_ble_eq_true rfl, Nat.le_of_ble_eq_true rfl, Nat.le_of_ble_eq_true rfl, Nat.le_of_ble_eq_true rfl, Nat.le_of_ble_eq_true rfl⟩ (fun v8 H8 L8 S8 K8 q8 => ?_)
        obtain ⟨q8, sa8, sx8, tq8⟩ := q8
        have lq8 : Lq D H7 H8 a0 := tq8
        have tk8 : Lq D s.heap H8 a0 := tk7.trans lq8
        refine lv_if_ne (tgt := 39) hx hb dX12_readAtom_34 (by decide) (fun c9 => ?_) (fun c9 => ?_)
        · have b9 : ¬ v8.toInt = (0 : Int32).toInt := fun z9 => c9 (i_eq.mpr z9)
          refine lv_aload_n hx hb dX12_readAtom_39 rfl (lv_at hl 0 rfl) ?_
          refine lv_dup hx hb dX12_readAtom_40 rfl ?_
          refine q_gi (T := TX12) C S8.1 ga0 13 kF_X12_197 dX12_readAtom_41 rfl rfl (by decide) rfl (by decide) rfl ?_
          have r10 : 0 ≤ (fI D H8 11 a0 13).toInt ∧ (fI D H8 11 a0 13).toInt ≤ 6 := S8.1.rng ga0 rfl (by decide) rfl
          refine lv_iconst (v := 1) hx hb dX12_readAtom_44 (by decide) ?_
          refine lv_isub hx hb dX12_readAtom_45 ?_
          refine lv_topi (fun v11 ev11 => ?_)
          have f12 : v11.toInt = (fI D H8 11 a0 13).toInt - (1 : Int32).toInt := by rw [ev11]; exact i_sub (by omega) (by omega)
          refine q_put (T := TX12) C S8 ga0 13 kF_X12_197 dX12_readAtom_46 rfl rfl (by decide) (by decide) rfl rfl rfl rfl rfl (vok_i rfl (by omega) (by omega)) (by decide +kernel) (fun H13 L13 S13 P13 => ?_)
          have y13_10 : (fI D H13 11 a0 10).toInt = (fI D H8 11 a0 10).toInt := congrArg Int32.toInt (Pt.o P13 (by decide) (by decide))
          have y13_12 : (fI D H13 11 a0 12).toInt = (fI D H8 11 a0 12).toInt := congrArg Int32.toInt (Pt.o P13 (by decide) (by decide))
          have y13_13 : (fI D H13 11 a0 13).toInt = v11.toInt := congrArg Int32.toInt (Pt.i P13)
          have y13_16 : (fI D H13 11 a0 16).toInt = (fI D H8 11 a0 16).toInt := congrArg Int32.toInt (Pt.o P13 (by decide) (by decide))
          have lq13 : Lq D H8 H13 a0 := Lq.put S8.1 ga0 P13 (by decide) (by decide)
          have tk13 : Lq D s.heap H13 a0 := tk8.trans lq13
          have rs9 : 0 ≤ (fI D H13 11 a0 16).toInt ∧ (fI D H13 11 a0 16).toInt ≤ 400 := S13.1.rng ga0 rfl (by decide) rfl
          have rp9 : 0 ≤ (fI D H13 11 a0 10).toInt ∧ (fI D H13 11 a0 10).toInt ≤ 400 := S13.1.rng ga0 rfl (by decide) rfl
          refine lv_aload_n hx hb dX12_readAtom_49 rfl (lv_at hl 0 rfl) ?_
          refine lv_bipush (v := 41) hx hb dX12_readAtom_50 (by decide) ?_
          have k_41 : (41 : Int32).toInt = 41 := by decide
          refine callV_Ei C S13 (c_X12_sign l D G a0 (41 : Int32) ga0) kV_X12_193 ga0 (trivial) (by decide +kernel) dX12_readAtom_52 hl.1 rfl rfl (by decide) cd_X12_sign ⟨Nat.le_of_ble_eq_true rfl, Nat.le_of_ble_eq_true rfl, Nat.le_of_ble_eq_true rfl, Nat.le_of_ble_eq_true rfl, Nat.le_of_ble_eq_true rfl⟩ (fun v14 H14 L14 S14 K14 q14 => ?_)
          have y14_13 : (fI D H14 11 a0 13).toInt = (fI D H13 11 a0 13).toInt := congrArg Int32.toInt (K14.fI ga0 rfl (by decide) (by decide +kernel))
          have y14_16 : (fI D H14 11 a0 16).toInt = (fI D H13 11 a0 16).toInt := congrArg Int32.toInt (K14.fI ga0 rfl (by decide) (by decide +kernel))
          have lq14 : Lq D H13 H14 a0 := Lq.keep S13.1 ga0 K14 (by decide +kernel) (by decide +kernel) (by decide +kernel)
          have tk14 : Lq D s.heap H14 a0 := tk13.trans lq14
          rcases q14 with q14 | q14
          · skip
            exact retE_z hQ C S14 hr dX12_readAtom_55 (z01 (by omega) (by omega)) (⟨by omega, fun _ => by omega, fun _ => ((lq13.trans lq14).ex (sx8 (by omega)) (by omega)).at (by omega) (by omega), tk14⟩)
          · skip
            exact retE_z hQ C S14 hr dX12_readAtom_55 (z01 (by omega) (by omega)) (⟨by omega, fun _ => by omega, fun _ => ((lq13.trans lq14).ex (sx8 (by omega)) (by omega)).at (by omega) (by omega), tk14⟩)
        · have b9 : v8.toInt = (0 : Int32).toInt := i_eq.mp c9
          refine lv_iconst (v := 0) hx hb dX12_readAtom_37 (by decide) ?_
          exact retE_z hQ C S8 hr dX12_readAtom_38 (z01 (by omega) (by omega)) (⟨by omega, fun h9 => absurd h9 (by decide), fun h9 => absurd h9 (by decide), tk8⟩)
      · have b4 : (fI D H1 11 a0 13).toInt = (6 : Int32).toInt := i_eq.mp c4
        exact absurd b4 (by omega)
  · skip
    have k_0 : (0 : Int32).toInt = 0 := by decide
    refine lv_if_eq (tgt := 56) hx hb dX12_readAtom_6 (by decide) (fun c15 => ?_) (fun c15 => ?_)
    · have b15 : v1.toInt = (0 : Int32).toInt := i_eq.mp c15
      refine lv_aload_n hx hb dX12_readAtom_56 rfl (lv_at hl 0 rfl) ?_
      refine q_lds C ks_X12_203 dX12_readAtom_57 (fun a16 ha16 => ?_)
      refine callV_Ei C S1 (c_X12_passes_w l D G a0 a16 3 ga0 ha16) kV_X12_120 ga0 (trivial) (by decide +kernel) dX12_readAtom_59 hl.1 rfl rfl (by decide) cd_X12_passes ⟨Nat.le_of_ble_eq_true rfl, Nat.le_of_ble_eq_true rfl, Nat.le_of_ble_eq_true rfl, Nat.le_of_ble_eq_true rfl, Nat.le_of_ble_eq_true rfl⟩ (fun v17 H17 L17 S17 K17 q17 => ?_)
      have y17_13 : (fI D H17 11 a0 13).toInt = (fI D H1 11 a0 13).toInt := congrArg Int32.toInt (K17.fI ga0 rfl (by decide) (by decide +kernel))
      have y17_16 : (fI D H17 11 a0 16).toInt = (fI D H1 11 a0 16).toInt := congrArg Int32.toInt (K17.fI ga0 rfl (by decide) (by decide +kernel))
      have lq17 : Lq D H1 H17 a0 := Lq.keep S1.1 ga0 K17 (by decide +kernel) (by decide +kernel) (by decide +kernel)
      have tk17 : Lq D s.heap H17 a0 := tk1.trans lq17
      rcases q17 with q17 | q17
      · skip
        refine lv_if_eq (tgt := 114) hx hb dX12_readAtom_62 (by decide) (fun c18 => ?_) (fun c18 => ?_)
        · have b18 : v17.toInt = (0 : Int32).toInt := i_eq.mp c18
          exact absurd b18 (by omega)
        · have b18 : ¬ v17.toInt = (0 : Int32).toInt := fun z9 => c18 (i_eq.mpr z9)
          refine lv_aload_n hx hb dX12_readAtom_65 rfl (lv_at hl 0 rfl) ?_
          have dd : (fI D H17 11 a0 13).toInt = 3 := by omega
          refine q_gi (T := TX12) C S17.1 ga0 13 kF_X12_197 dX12_readAtom_66 rfl rfl (by decide) rfl (by decide) rfl ?_
          have r19 : 0 ≤ (fI D H17 11 a0 13).toInt ∧ (fI D H17 11 a0 13).toInt ≤ 6 := S17.1.rng ga0 rfl (by decide) rfl
          refine lv_bipush (v := 6) hx hb dX12_readAtom_69 (by decide) ?_
          have k_6 : (6 : Int32).toInt = 6 := by decide
          refine lv_icmp_ne (tgt := 76) hx hb dX12_readAtom_71 (by decide) (fun c20 => ?_) (fun c20 => ?_)
          · have b20 : ¬ (fI D H17 11 a0 13).toInt = (6 : Int32).toInt := fun z9 => c20 (i_eq.mpr z9)
            refine lv_aload_n hx hb dX12_readAtom_76 rfl (lv_at hl 0 rfl) ?_
            refine lv_dup hx hb dX12_readAtom_77 rfl ?_
            refine q_gi (T := TX12) C S17.1 ga0 13 kF_X12_197 dX12_readAtom_78 rfl rfl (by decide) rfl (by decide) rfl ?_
            refine lv_iconst (v := 1) hx hb dX12_readAtom_81 (by decide) ?_
            have k_1 : (1 : Int32).toInt = 1 := by decide
            refine lv_iadd hx hb dX12_readAtom_82 ?_
            refine lv_topi (fun v21 ev21 => ?_)
            have f22 : v21.toInt = (fI D H17 11 a0 13).toInt + (1 : Int32).toInt := by rw [ev21]; exact i_add (by omega) (by omega)
            refine q_put (T := TX12) C S17 ga0 13 kF_X12_197 dX12_readAtom_83 rfl rfl (by decide) (by decide) rfl rfl rfl rfl rfl (vok_i rfl (by omega) (by omega)) (by decide +kernel) (fun H23 L23 S23 P23 => ?_)
            have y23_10 : (fI D H23 11 a0 10).toInt = (fI D H17 11 a0 10).toInt := congrArg Int32.toInt (Pt.o P23 (by decide) (by decide))
            have y23_12 : (fI D H23 11 a0 12).toInt = (fI D H17 11 a0 12).toInt := congrArg Int32.toInt (Pt.o P23 (by decide) (by decide))
            have y23_13 : (fI D H23 11 a0 13).toInt = v21.toInt := congrArg Int32.toInt (Pt.i P23)
            have y23_16 : (fI D H23 11 a0 16).toInt = (fI D H17 11 a0 16).toInt := congrArg Int32.toInt (Pt.o P23 (by decide) (by decide))
            have lq23 : Lq D H17 H23 a0 := Lq.put S17.1 ga0 P23 (by decide) (by decide)
            have tk23 : Lq D s.heap H23 a0 := tk17.trans lq23
            refine lv_aload_n hx hb dX12_readAtom_86 rfl (lv_at hl 0 rfl) ?_
            have rs9 : 0 ≤ (fI D H23 11 a0 16).toInt ∧ (fI D H23 11 a0 16).toInt ≤ 400 := S23.1.rng ga0 rfl (by decide) rfl
            have rp9 : 0 ≤ (fI D H23 11 a0 10).toInt ∧ (fI D H23 11 a0 10).toInt ≤ 400 := S23.1.rng ga0 rfl (by decide) rfl
            refine callV_Ei C S23 (c_X12_readAtom_d4 l D G a0 ga0) kV_X12_205 ga0 (⟨by omega, by omega⟩) (by decide +kernel) dX12_readAtom_87 hl.1 rfl rfl (by decide) cd_X12_readAtom ⟨Nat.le_of_ble_eq_true rfl, Nat.le_of_ble_eq_true rfl, Nat.le_of_ble_eq_true rfl, Nat.le_of_ble_eq_true rfl, Nat.le_of_ble_eq_true rfl⟩ (fun v24 H24 L24 S24 K24 q24 => ?_)
            obtain ⟨q24, sa24, sx24, tq24⟩ := q24
            have lq24 : Lq D H23 H24 a0 := tq24
            have tk24 : Lq D s.heap H24 a0 := tk23.trans lq24
            refine lv_if_ne (tgt := 95) hx hb dX12_readAtom_90 (by decide) (fun c25 => ?_) (fun c25 => ?_)
            · have b25 : ¬ v24.toInt = (0 : Int32).toInt := fun z9 => c25 (i_eq.mpr z9)
              refine lv_aload_n hx hb dX12_readAtom_95 rfl (lv_at hl 0 rfl) ?_
              refine lv_dup hx hb dX12_readAtom_96 rfl ?_
              refine q_gi (T := TX12) C S24.1 ga0 13 kF_X12_197 dX12_readAtom_97 rfl rfl (by decide) rfl (by decide) rfl ?_
              have r26 : 0 ≤ (fI D H24 11 a0 13).toInt ∧ (fI D H24 11 a0 13).toInt ≤ 6 := S24.1.rng ga0 rfl (by decide) rfl
              refine lv_iconst (v := 1) hx hb dX12_readAtom_100 (by decide) ?_
              refine lv_isub hx hb dX12_readAtom_101 ?_
              refine lv_topi (fun v27 ev27 => ?_)
              have f28 : v27.toInt = (fI D H24 11 a0 13).toInt - (1 : Int32).toInt := by rw [ev27]; exact i_sub (by omega) (by omega)
              refine q_put (T := TX12) C S24 ga0 13 kF_X12_197 dX12_readAtom_102 rfl rfl (by decide) (by decide) rfl rfl rfl rfl rfl (vok_i rfl (by omega) (by omega)) (by decide +kernel) (fun H29 L29 S29 P29 => ?_)
              have y29_10 : (fI D H29 11 a0 10).toInt = (fI D H24 11 a0 10).toInt := congrArg Int32.toInt (Pt.o P29 (by decide) (by decide))
              have y29_12 : (fI D H29 11 a0 12).toInt = (fI D H24 11 a0 12).toInt := congrArg Int32.toInt (Pt.o P29 (by decide) (by decide))
              have y29_13 : (fI D H29 11 a0 13).toInt = v27.toInt := congrArg Int32.toInt (Pt.i P29)
              have y29_16 : (fI D H29 11 a0 16).toInt = (fI D H24 11 a0 16).toInt := congrArg Int32.toInt (Pt.o P29 (by decide) (by decide))
              have lq29 : Lq D H24 H29 a0 := Lq.put S24.1 ga0 P29 (by decide) (by decide)
              have tk29 : Lq D s.heap H29 a0 := tk24.trans lq29
              refine lv_aload_n hx hb dX12_readAtom_105 rfl (lv_at hl 0 rfl) ?_
              refine lv_bipush (v := 15) hx hb dX12_readAtom_106 (by decide) ?_
              refine lv_iconst (v := 0) hx hb dX12_readAtom_108 (by decide) ?_
              have rs9 : 0 ≤ (fI D H29 11 a0 16).toInt ∧ (fI D H29 11 a0 16).toInt ≤ 400 := S29.1.rng ga0 rfl (by decide) rfl
              have rp9 : 0 ≤ (fI D H29 11 a0 10).toInt ∧ (fI D H29 11 a0 10).toInt ≤ 400 := S29.1.rng ga0 rfl (by decide) rfl
              have k_15 : (15 : Int32).toInt = 15 := by decide
              refine callV_Ev C S29 (c_X12_emits l D G a0 (15 : Int32) (0 : Int32) ga0) kV_X12_185 ga0 (by omega) (by decide +kernel) dX12_readAtom_109 hl.1 rfl rfl (by decide) cd_X12_emits ⟨Nat.le_of_ble_eq_true rfl, Nat.le_of_ble_eq_true rfl, Nat.le_of_ble_eq_true rfl, Nat.le_of_ble_eq_true rfl, Nat.le_of_ble_eq_true rfl⟩ (fun H30 L30 S30 K30 q30 => ?_)
              obtain ⟨qa30, qb30, tq30⟩ := q30
              have y30_10 : (fI D H30 11 a0 10).toInt = (fI D H29 11 a0 10).toInt := congrArg Int32.toInt (K30.fI ga0 rfl (by decide) (by decide +kernel))
              have y30_12 : (fI D H30 11 a0 12).toInt = (fI D H29 11 a0 12).toInt := congrArg Int32.toInt (K30.fI ga0 rfl (by decide) (by decide +kernel))
              have y30_13 : (fI D H30 11 a0 13).toInt = (fI D H29 11 a0 13).toInt := congrArg Int32.toInt (K30.fI ga0 rfl (by decide) (by decide +kernel))
              have lq30 : Lq D H29 H30 a0 := tq30
              have tk30 : Lq D s.heap H30 a0 := tk29.trans lq30
              refine lv_iconst (v := 1) hx hb dX12_readAtom_112 (by decide) ?_
              exact retE_z hQ C S30 hr dX12_readAtom_113 (z01 (by omega) (by omega)) (⟨by omega, fun _ => by omega, fun _ => (Ex.un (((lq29.trans lq30).ex (sx24 (by omega)) (by omega)).at (j' := (fI D H29 11 a0 16).toInt.toNat) rfl (by omega)) (by rw [qb30]; decide) rfl).at (by omega) (by omega), tk30⟩)
            · have b25 : v24.toInt = (0 : Int32).toInt := i_eq.mp c25
              refine lv_iconst (v := 0) hx hb dX12_readAtom_93 (by decide) ?_
              exact retE_z hQ C S24 hr dX12_readAtom_94 (z01 (by omega) (by omega)) (⟨by omega, fun h9 => absurd h9 (by decide), fun h9 => absurd h9 (by decide), tk24⟩)
          · have b20 : (fI D H17 11 a0 13).toInt = (6 : Int32).toInt := i_eq.mp c20
            exact absurd b20 (by omega)
      · skip
        refine lv_if_eq (tgt := 114) hx hb dX12_readAtom_62 (by decide) (fun c31 => ?_) (fun c31 => ?_)
        · have b31 : v17.toInt = (0 : Int32).toInt := i_eq.mp c31
          refine lv_aload_n hx hb dX12_readAtom_114 rfl (lv_at hl 0 rfl) ?_
          have rs9 : 0 ≤ (fI D H17 11 a0 16).toInt ∧ (fI D H17 11 a0 16).toInt ≤ 400 := S17.1.rng ga0 rfl (by decide) rfl
          have rp9 : 0 ≤ (fI D H17 11 a0 10).toInt ∧ (fI D H17 11 a0 10).toInt ≤ 400 := S17.1.rng ga0 rfl (by decide) rfl
          refine callV_Ei C S17 (c_X12_readTag l D G a0 ga0) kV_X12_208 ga0 (by omega) (by decide +kernel) dX12_readAtom_115 hl.1 rfl rfl (by decide) cd_X12_readTag ⟨Nat.le_of_ble_eq_true rfl, Nat.le_of_ble_eq_true rfl, Nat.le_of_ble_eq_true rfl, Nat.le_of_ble_eq_true rfl, Nat.le_of_ble_eq_true rfl⟩ (fun v32 H32 L32 S32 K32 q32 => ?_)
          obtain ⟨q32, sa32, sx32, tq32, sf32⟩ := q32
          have y32_13 : (fI D H32 11 a0 13).toInt = (fI D H17 11 a0 13).toInt := congrArg Int32.toInt (K32.fI ga0 rfl (by decide) (by decide +kernel))
          have lq32 : Lq D H17 H32 a0 := tq32
          have tk32 : Lq D s.heap H32 a0 := tk17.trans lq32
          refine lv_if_eq (tgt := 123) hx hb dX12_readAtom_118 (by decide) (fun c33 => ?_) (fun c33 => ?_)
          · have b33 : v32.toInt = (0 : Int32).toInt := i_eq.mp c33
            refine lv_aload_n hx hb dX12_readAtom_123 rfl (lv_at hl 0 rfl) ?_
            have rs9 : 0 ≤ (fI D H32 11 a0 16).toInt ∧ (fI D H32 11 a0 16).toInt ≤ 400 := S32.1.rng ga0 rfl (by decide) rfl
            have rp9 : 0 ≤ (fI D H32 11 a0 10).toInt ∧ (fI D H32 11 a0 10).toInt ≤ 400 := S32.1.rng ga0 rfl (by decide) rfl
            refine callV_Ei C S32 (c_X12_readSum l D G a0 ga0) kV_X12_211 ga0 (by omega) (by decide +kernel) dX12_readAtom_124 hl.1 rfl rfl (by decide) cd_X12_readSum ⟨Nat.le_of_ble_eq_true rfl, Nat.le_of_ble_eq_true rfl, Nat.le_of_ble_eq_true rfl, Nat.le_of_ble_eq_true rfl, Nat.le_of_ble_eq_true rfl⟩ (fun v34 H34 L34 S34 K34 q34 => ?_)
            obtain ⟨q34, sa34, sx34, tq34⟩ := q34
            have y34_13 : (fI D H34 11 a0 13).toInt = (fI D H32 11 a0 13).toInt := congrArg Int32.toInt (K34.fI ga0 rfl (by decide) (by decide +kernel))
            have lq34 : Lq D H32 H34 a0 := tq34
            have tk34 : Lq D s.heap H34 a0 := tk32.trans lq34
            refine lv_if_ne (tgt := 132) hx hb dX12_readAtom_127 (by decide) (fun c35 => ?_) (fun c35 => ?_)
            · have b35 : ¬ v34.toInt = (0 : Int32).toInt := fun z9 => c35 (i_eq.mpr z9)
              refine lv_aload_n hx hb dX12_readAtom_132 rfl (lv_at hl 0 rfl) ?_
              refine lv_bipush (v := 60) hx hb dX12_readAtom_133 (by decide) ?_
              have k_60 : (60 : Int32).toInt = 60 := by decide
              refine callV_Ei C S34 (c_X12_sign l D G a0 (60 : Int32) ga0) kV_X12_193 ga0 (trivial) (by decide +kernel) dX12_readAtom_135 hl.1 rfl rfl (by decide) cd_X12_sign ⟨Nat.le_of_ble_eq_true rfl, Nat.le_of_ble_eq_true rfl, Nat.le_of_ble_eq_true rfl, Nat.le_of_ble_eq_true rfl, Nat.le_of_ble_eq_true rfl⟩ (fun v36 H36 L36 S36 K36 q36 => ?_)
              have y36_13 : (fI D H36 11 a0 13).toInt = (fI D H34 11 a0 13).toInt := congrArg Int32.toInt (K36.fI ga0 rfl (by decide) (by decide +kernel))
              have y36_16 : (fI D H36 11 a0 16).toInt = (fI D H34 11 a0 16).toInt := congrArg Int32.toInt (K36.fI ga0 rfl (by decide) (by decide +kernel))
              have lq36 : Lq D H34 H36 a0 := Lq.keep S34.1 ga0 K36 (by decide +kernel) (by decide +kernel) (by decide +kernel)
              have tk36 : Lq D s.heap H36 a0 := tk34.trans lq36
              rcases q36 with q36 | q36
              · skip
                refine lv_istore_n (lv' := [(1, .int v36), (0, .ref a0)]) hx hb dX12_readAtom_138 rfl hl (by decide) rfl (fun ls hl => ?_)
                refine lv_iload_n hx hb dX12_readAtom_139 rfl (lv_at hl 0 rfl) ?_
                refine lv_if_ne (tgt := 152) hx hb dX12_readAtom_140 (by decide) (fun c37 => ?_) (fun c37 => ?_)
                · have b37 : ¬ v36.toInt = (0 : Int32).toInt := fun z9 => c37 (i_eq.mpr z9)
                  refine lv_aload_n hx hb dX12_readAtom_152 rfl (lv_at hl 1 rfl) ?_
                  have rs9 : 0 ≤ (fI D H36 11 a0 16).toInt ∧ (fI D H36 11 a0 16).toInt ≤ 400 := S36.1.rng ga0 rfl (by decide) rfl
                  have rp9 : 0 ≤ (fI D H36 11 a0 10).toInt ∧ (fI D H36 11 a0 10).toInt ≤ 400 := S36.1.rng ga0 rfl (by decide) rfl
                  refine callV_Ei C S36 (c_X12_readSum l D G a0 ga0) kV_X12_211 ga0 (by omega) (by decide +kernel) dX12_readAtom_153 hl.1 rfl rfl (by decide) cd_X12_readSum ⟨Nat.le_of_ble_eq_true rfl, Nat.le_of_ble_eq_true rfl, Nat.le_of_ble_eq_true rfl, Nat.le_of_ble_eq_true rfl, Nat.le_of_ble_eq_true rfl⟩ (fun v38 H38 L38 S38 K38 q38 => ?_)
                  obtain ⟨q38, sa38, sx38, tq38⟩ := q38
                  have y38_13 : (fI D H38 11 a0 13).toInt = (fI D H36 11 a0 13).toInt := congrArg Int32.toInt (K38.fI ga0 rfl (by decide) (by decide +kernel))
                  have lq38 : Lq D H36 H38 a0 := tq38
                  have tk38 : Lq D s.heap H38 a0 := tk36.trans lq38
                  refine lv_if_ne (tgt := 161) hx hb dX12_readAtom_156 (by decide) (fun c39 => ?_) (fun c39 => ?_)
                  · have b39 : ¬ v38.toInt = (0 : Int32).toInt := fun z9 => c39 (i_eq.mpr z9)
                    refine lv_aload_n hx hb dX12_readAtom_161 rfl (lv_at hl 1 rfl) ?_
                    refine lv_iload_n hx hb dX12_readAtom_162 rfl (lv_at hl 0 rfl) ?_
                    refine lv_if_eq (tgt := 171) hx hb dX12_readAtom_163 (by decide) (fun c40 => ?_) (fun c40 => ?_)
                    · have b40 : v36.toInt = (0 : Int32).toInt := i_eq.mp c40
                      exact absurd b40 (by omega)
                    · have b40 : ¬ v36.toInt = (0 : Int32).toInt := fun z9 => c40 (i_eq.mpr z9)
                      refine lv_bipush (v := 13) hx hb dX12_readAtom_166 (by decide) ?_
                      refine lv_goto (tgt := 173) hx hb dX12_readAtom_168 (by decide) ?_
                      refine lv_iconst (v := 0) hx hb dX12_readAtom_173 (by decide) ?_
                      have rs9 : 0 ≤ (fI D H38 11 a0 16).toInt ∧ (fI D H38 11 a0 16).toInt ≤ 400 := S38.1.rng ga0 rfl (by decide) rfl
                      have rp9 : 0 ≤ (fI D H38 11 a0 10).toInt ∧ (fI D H38 11 a0 10).toInt ≤ 400 := S38.1.rng ga0 rfl (by decide) rfl
                      have k_13 : (13 : Int32).toInt = 13 := by decide
                      refine callV_Ev C S38 (c_X12_emits l D G a0 (13 : Int32) (0 : Int32) ga0) kV_X12_185 ga0 (by omega) (by decide +kernel) dX12_readAtom_174 hl.1 rfl rfl (by decide) cd_X12_emits ⟨Nat.le_of_ble_eq_true rfl, Nat.le_of_ble_eq_true rfl, Nat.le_of_ble_eq_true rfl, Nat.le_of_ble_eq_true rfl, Nat.le_of_ble_eq_true rfl⟩ (fun H41 L41 S41 K41 q41 => ?_)
                      obtain ⟨qa41, qb41, tq41⟩ := q41
                      have y41_10 : (fI D H41 11 a0 10).toInt = (fI D H38 11 a0 10).toInt := congrArg Int32.toInt (K41.fI ga0 rfl (by decide) (by decide +kernel))
                      have y41_12 : (fI D H41 11 a0 12).toInt = (fI D H38 11 a0 12).toInt := congrArg Int32.toInt (K41.fI ga0 rfl (by decide) (by decide +kernel))
                      have y41_13 : (fI D H41 11 a0 13).toInt = (fI D H38 11 a0 13).toInt := congrArg Int32.toInt (K41.fI ga0 rfl (by decide) (by decide +kernel))
                      have lq41 : Lq D H38 H41 a0 := tq41
                      have tk41 : Lq D s.heap H41 a0 := tk38.trans lq41
                      refine lv_iconst (v := 1) hx hb dX12_readAtom_177 (by decide) ?_
                      have k_1 : (1 : Int32).toInt = 1 := by decide
                      exact retE_z hQ C S41 hr dX12_readAtom_178 (z01 (by omega) (by omega)) (⟨by omega, fun _ => by omega, fun _ => (Ex.bin (((lq36.trans lq38).trans lq41).ex (sx34 (by omega)) (by omega)) ((lq41.ex (sx38 (by omega)) (by omega)).at (i' := (fI D H34 11 a0 16).toInt.toNat) (by omega) rfl) (by rw [qb41]; decide) rfl).at (by omega) (by omega), tk41⟩)
                  · have b39 : v38.toInt = (0 : Int32).toInt := i_eq.mp c39
                    refine lv_iconst (v := 0) hx hb dX12_readAtom_159 (by decide) ?_
                    exact retE_z hQ C S38 hr dX12_readAtom_160 (z01 (by omega) (by omega)) (⟨by omega, fun h9 => absurd h9 (by decide), fun h9 => absurd h9 (by decide), tk38⟩)
                · have b37 : v36.toInt = (0 : Int32).toInt := i_eq.mp c37
                  exact absurd b37 (by omega)
              · skip
                refine lv_istore_n (lv' := [(1, .int v36), (0, .ref a0)]) hx hb dX12_readAtom_138 rfl hl (by decide) rfl (fun ls hl => ?_)
                refine lv_iload_n hx hb dX12_readAtom_139 rfl (lv_at hl 0 rfl) ?_
                refine lv_if_ne (tgt := 152) hx hb dX12_readAtom_140 (by decide) (fun c42 => ?_) (fun c42 => ?_)
                · have b42 : ¬ v36.toInt = (0 : Int32).toInt := fun z9 => c42 (i_eq.mpr z9)
                  exact absurd b42 (by omega)
                · have b42 : v36.toInt = (0 : Int32).toInt := i_eq.mp c42
                  refine lv_aload_n hx hb dX12_readAtom_143 rfl (lv_at hl 1 rfl) ?_
                  refine lv_bipush (v := 62) hx hb dX12_readAtom_144 (by decide) ?_
                  have k_62 : (62 : Int32).toInt = 62 := by decide
                  refine callV_Ei C S36 (c_X12_sign l D G a0 (62 : Int32) ga0) kV_X12_193 ga0 (trivial) (by decide +kernel) dX12_readAtom_146 hl.1 rfl rfl (by decide) cd_X12_sign ⟨Nat.le_of_ble_eq_true rfl, Nat.le_of_ble_eq_true rfl, Nat.le_of_ble_eq_true rfl, Nat.le_of_ble_eq_true rfl, Nat.le_of_ble_eq_true rfl⟩ (fun v43 H43 L43 S43 K43 q43 => ?_)
                  have y43_13 : (fI D H43 11 a0 13).toInt = (fI D H36 11 a0 13).toInt := congrArg Int32.toInt (K43.fI ga0 rfl (by decide) (by decide +kernel))
                  have y43_16 : (fI D H43 11 a0 16).toInt = (fI D H36 11 a0 16).toInt := congrArg Int32.toInt (K43.fI ga0 rfl (by decide) (by decide +kernel))
                  have lq43 : Lq D H36 H43 a0 := Lq.keep S36.1 ga0 K43 (by decide +kernel) (by decide +kernel) (by decide +kernel)
                  have tk43 : Lq D s.heap H43 a0 := tk36.trans lq43
                  rcases q43 with q43 | q43
                  · skip
                    refine lv_if_eq (tgt := 159) hx hb dX12_readAtom_149 (by decide) (fun c44 => ?_) (fun c44 => ?_)
                    · have b44 : v43.toInt = (0 : Int32).toInt := i_eq.mp c44
                      exact absurd b44 (by omega)
                    · have b44 : ¬ v43.toInt = (0 : Int32).toInt := fun z9 => c44 (i_eq.mpr z9)
                      refine lv_aload_n hx hb dX12_readAtom_152 rfl (lv_at hl 1 rfl) ?_
                      have rs9 : 0 ≤ (fI D H43 11 a0 16).toInt ∧ (fI D H43 11 a0 16).toInt ≤ 400 := S43.1.rng ga0 rfl (by decide) rfl
                      have rp9 : 0 ≤ (fI D H43 11 a0 10).toInt ∧ (fI D H43 11 a0 10).toInt ≤ 400 := S43.1.rng ga0 rfl (by decide) rfl
                      refine callV_Ei C S43 (c_X12_readSum l D G a0 ga0) kV_X12_211 ga0 (by omega) (by decide +kernel) dX12_readAtom_153 hl.1 rfl rfl (by decide) cd_X12_readSum ⟨Nat.le_of_ble_eq_true rfl, Nat.le_of_ble_eq_true rfl, Nat.le_of_ble_eq_true rfl, Nat.le_of_ble_eq_true rfl, Nat.le_of_ble_eq_true rfl⟩ (fun v45 H45 L45 S45 K45 q45 => ?_)
                      obtain ⟨q45, sa45, sx45, tq45⟩ := q45
                      have y45_13 : (fI D H45 11 a0 13).toInt = (fI D H43 11 a0 13).toInt := congrArg Int32.toInt (K45.fI ga0 rfl (by decide) (by decide +kernel))
                      have lq45 : Lq D H43 H45 a0 := tq45
                      have tk45 : Lq D s.heap H45 a0 := tk43.trans lq45
                      refine lv_if_ne (tgt := 161) hx hb dX12_readAtom_156 (by decide) (fun c46 => ?_) (fun c46 => ?_)
                      · have b46 : ¬ v45.toInt = (0 : Int32).toInt := fun z9 => c46 (i_eq.mpr z9)
                        refine lv_aload_n hx hb dX12_readAtom_161 rfl (lv_at hl 1 rfl) ?_
                        refine lv_iload_n hx hb dX12_readAtom_162 rfl (lv_at hl 0 rfl) ?_
                        refine lv_if_eq (tgt := 171) hx hb dX12_readAtom_163 (by decide) (fun c47 => ?_) (fun c47 => ?_)
                        · have b47 : v36.toInt = (0 : Int32).toInt := i_eq.mp c47
                          refine lv_bipush (v := 14) hx hb dX12_readAtom_171 (by decide) ?_
                          refine lv_iconst (v := 0) hx hb dX12_readAtom_173 (by decide) ?_
                          have rs9 : 0 ≤ (fI D H45 11 a0 16).toInt ∧ (fI D H45 11 a0 16).toInt ≤ 400 := S45.1.rng ga0 rfl (by decide) rfl
                          have rp9 : 0 ≤ (fI D H45 11 a0 10).toInt ∧ (fI D H45 11 a0 10).toInt ≤ 400 := S45.1.rng ga0 rfl (by decide) rfl
                          have k_14 : (14 : Int32).toInt = 14 := by decide
                          refine callV_Ev C S45 (c_X12_emits l D G a0 (14 : Int32) (0 : Int32) ga0) kV_X12_185 ga0 (by omega) (by decide +kernel) dX12_readAtom_174 hl.1 rfl rfl (by decide) cd_X12_emits ⟨Nat.le_of_ble_eq_true rfl, Nat.le_of_ble_eq_true rfl, Nat.le_of_ble_eq_true rfl, Nat.le_of_ble_eq_true rfl, Nat.le_of_ble_eq_true rfl⟩ (fun H48 L48 S48 K48 q48 => ?_)
                          obtain ⟨qa48, qb48, tq48⟩ := q48
                          have y48_10 : (fI D H48 11 a0 10).toInt = (fI D H45 11 a0 10).toInt := congrArg Int32.toInt (K48.fI ga0 rfl (by decide) (by decide +kernel))
                          have y48_12 : (fI D H48 11 a0 12).toInt = (fI D H45 11 a0 12).toInt := congrArg Int32.toInt (K48.fI ga0 rfl (by decide) (by decide +kernel))
                          have y48_13 : (fI D H48 11 a0 13).toInt = (fI D H45 11 a0 13).toInt := congrArg Int32.toInt (K48.fI ga0 rfl (by decide) (by decide +kernel))
                          have lq48 : Lq D H45 H48 a0 := tq48
                          have tk48 : Lq D s.heap H48 a0 := tk45.trans lq48
                          refine lv_iconst (v := 1) hx hb dX12_readAtom_177 (by decide) ?_
                          have k_1 : (1 : Int32).toInt = 1 := by decide
                          exact retE_z hQ C S48 hr dX12_readAtom_178 (z01 (by omega) (by omega)) (⟨by omega, fun _ => by omega, fun _ => (Ex.bin ((((lq36.trans lq43).trans lq45).trans lq48).ex (sx34 (by omega)) (by omega)) ((lq48.ex (sx45 (by omega)) (by omega)).at (i' := (fI D H34 11 a0 16).toInt.toNat) (by omega) rfl) (by rw [qb48]; decide) rfl).at (by omega) (by omega), tk48⟩)
                        · have b47 : ¬ v36.toInt = (0 : Int32).toInt := fun z9 => c47 (i_eq.mpr z9)
                          exact absurd b47 (by omega)
                      · have b46 : v45.toInt = (0 : Int32).toInt := i_eq.mp c46
                        refine lv_iconst (v := 0) hx hb dX12_readAtom_159 (by decide) ?_
                        exact retE_z hQ C S45 hr dX12_readAtom_160 (z01 (by omega) (by omega)) (⟨by omega, fun h9 => absurd h9 (by decide), fun h9 => absurd h9 (by decide), tk45⟩)
                  · skip
                    refine lv_if_eq (tgt := 159) hx hb dX12_readAtom_149 (by decide) (fun c49 => ?_) (fun c49 => ?_)
                    · have b49 : v43.toInt = (0 : Int32).toInt := i_eq.mp c49
                      refine lv_iconst (v := 0) hx hb dX12_readAtom_159 (by decide) ?_
                      exact retE_z hQ C S43 hr dX12_readAtom_160 (z01 (by omega) (by omega)) (⟨by omega, fun h9 => absurd h9 (by decide), fun h9 => absurd h9 (by decide), tk43⟩)
                    · have b49 : ¬ v43.toInt = (0 : Int32).toInt := fun z9 => c49 (i_eq.mpr z9)
                      exact absurd b49 (by omega)
            · have b35 : v34.toInt = (0 : Int32).toInt := i_eq.mp c35
              refine lv_iconst (v := 0) hx hb dX12_readAtom_130 (by decide) ?_
              exact retE_z hQ C S34 hr dX12_readAtom_131 (z01 (by omega) (by omega)) (⟨by omega, fun h9 => absurd h9 (by decide), fun h9 => absurd h9 (by decide), tk34⟩)
          · have b33 : ¬ v32.toInt = (0 : Int32).toInt := fun z9 => c33 (i_eq.mpr z9)
            refine lv_iconst (v := 1) hx hb dX12_readAtom_121 (by decide) ?_
            have k_1 : (1 : Int32).toInt = 1 := by decide
            exact retE_z hQ C S32 hr dX12_readAtom_122 (z01 (by omega) (by omega)) (⟨by omega, fun _ => by omega, fun _ => (sx32 (by omega)).at (by omega) rfl, tk32⟩)
        · have b31 : ¬ v17.toInt = (0 : Int32).toInt := fun z9 => c31 (i_eq.mpr z9)
          exact absurd b31 (by omega)
    · have b15 : ¬ v1.toInt = (0 : Int32).toInt := fun z9 => c15 (i_eq.mpr z9)
      exact absurd b15 (by omega)

set_option maxRecDepth 100000 in
set_option maxHeartbeats 4000000 in
theorem c_X12_readAllOf_d3 (l : Launch) (D : DD) (G : Nat → Nat) (a0 : Nat) (ga0 : G a0 = 30) : CE l D G yX12_readAllOf cX12_readAllOf 1 (some .boolean) 17 [.ref a0] (fun H => (fI D H 11 a0 13).toInt = 3 ∧ (fI D H 11 a0 16).toInt + 3 ≤ (fI D H 11 a0 10).toInt) [(30, 10), (30, 12), (30, 16), (31, 0), (30, 13)] (xI (fun H r H1 => (0 ≤ r.toInt ∧ r.toInt ≤ 1) ∧ (r.toInt = 1 → (fI D H1 11 a0 16).toInt - (fI D H 11 a0 16).toInt ≤ (fI D H1 11 a0 10).toInt - (fI D H 11 a0 10).toInt ∧ (fI D H1 11 a0 13).toInt = (fI D H 11 a0 13).toInt ∧ (fI D H 11 a0 10).toInt ≤ (fI D H1 11 a0 10).toInt) ∧ (r.toInt = 1 → Ex (Cs D H1 a0) (fI D H 11 a0 16).toInt.toNat (fI D H1 11 a0 16).toInt.toNat) ∧ Lq D H H1 a0)) := by
  refine enter (by decide) (Nat.le_of_ble_eq_true rfl) ?_
  intro p e s m args below meth c ls Q hA hQ C hr hO hpre hl
  have hx := C.1
  have hb := C.2.1
  have S : Sd D G [(30, 10), (30, 12), (30, 16), (31, 0), (30, 13)] s.heap s.heap [] := Sd.start hO
  have hl : lv_has ls 1 [(0, .ref a0)] := hl
  have rs0 : 0 ≤ (fI D s.heap 11 a0 16).toInt ∧ (fI D s.heap 11 a0 16).toInt ≤ 400 := hO.rng ga0 rfl (by decide) rfl
  have rp0 : 0 ≤ (fI D s.heap 11 a0 10).toInt ∧ (fI D s.heap 11 a0 10).toInt ≤ 400 := hO.rng ga0 rfl (by decide) rfl
  have tk0 : Lq D s.heap s.heap a0 := Lq.refl
  refine lv_aload_n hx hb dX12_readAllOf_0 rfl (lv_at hl 0 rfl) ?_
  refine callV_Ei C S (c_X12_readAtom_d3 l D G a0 ga0) kV_X12_205 ga0 (hpre) (by decide +kernel) dX12_readAllOf_1 hl.1 rfl rfl (by decide) cd_X12_readAtom ⟨Nat.le_of_ble_eq_true rfl, Nat.le_of_ble_eq_true rfl, Nat.le_of_ble_eq_true rfl, Nat.le_of_ble_eq_true rfl, Nat.le_of_ble_eq_true rfl⟩ (fun v1 H1 L1 S1 K1 q1 => ?_)
  obtain ⟨q1, sa1, sx1, tq1⟩ := q1
  have lq1 : Lq D s.heap H1 a0 := tq1
  have tk1 : Lq D s.heap H1 a0 := tk0.trans lq1
  have k_0 : (0 : Int32).toInt = 0 := by decide
  refine lv_if_ne (tgt := 9) hx hb dX12_readAllOf_4 (by decide) (fun c2 => ?_) (fun c2 => ?_)
  · have b2 : ¬ v1.toInt = (0 : Int32).toInt := fun z9 => c2 (i_eq.mpr z9)
    have Lp9 : ∀ (n : Nat)  (H_9 : Heap) (L_9 : List Loc) (ls : Array Slot), (Sd D G [(30, 10), (30, 12), (30, 16), (31, 0), (30, 13)] s.heap H_9 L_9) → (Ex (Cs D H_9 a0) (fI D s.heap 11 a0 16).toInt.toNat (fI D H_9 11 a0 16).toInt.toNat) → ((fI D H_9 11 a0 16).toInt - (fI D s.heap 11 a0 16).toInt ≤ (fI D H_9 11 a0 10).toInt - (fI D s.heap 11 a0 10).toInt ∧ (fI D H_9 11 a0 13).toInt = (fI D s.heap 11 a0 13).toInt ∧ (fI D s.heap 11 a0 10).toInt ≤ (fI D H_9 11 a0 10).toInt) → (Lq D s.heap H_9 a0) → 401 - (fI D H_9 11 a0 10).toInt ≤ (n : Int) → lv_has ls 1 [(0, .ref a0)] → W p l e (rmU 17 0 0) s m args below meth c H_9 L_9 0 0 Q (F0 m 9 ls []) := by
      intro n
      induction n with
      | zero =>
        intro H_9 L_9 ls S_9 u9_0 u9_1 u9_2 hn hl
        have rz : 0 ≤ (fI D H_9 11 a0 10).toInt ∧ (fI D H_9 11 a0 10).toInt ≤ 400 := S_9.1.rng ga0 rfl (by decide) rfl
        exact absurd hn (by omega)
      | succ n ih9 =>
        intro H_9 L_9 ls S_9 u9_0 u9_1 u9_2 hn hl
        have rs9 : 0 ≤ (fI D H_9 11 a0 16).toInt ∧ (fI D H_9 11 a0 16).toInt ≤ 400 := S_9.1.rng ga0 rfl (by decide) rfl
        have rp9 : 0 ≤ (fI D H_9 11 a0 10).toInt ∧ (fI D H_9 11 a0 10).toInt ≤ 400 := S_9.1.rng ga0 rfl (by decide) rfl
        refine lv_aload_n hx hb dX12_readAllOf_9 rfl (lv_at hl 0 rfl) ?_
        refine q_lds C ks_X12_214 dX12_readAllOf_10 (fun a3 ha3 => ?_)
        refine callV_Ei C S_9 (c_X12_passes_w l D G a0 a3 3 ga0 ha3) kV_X12_120 ga0 (trivial) (by decide +kernel) dX12_readAllOf_12 hl.1 rfl rfl (by decide) cd_X12_passes ⟨Nat.le_of_ble_eq_true rfl, Nat.le_of_ble_eq_true rfl, Nat.le_of_ble_eq_true rfl, Nat.le_of_ble_eq_true rfl, Nat.le_of_ble_eq_true rfl⟩ (fun v4 H4 L4 S4 K4 q4 => ?_)
        have y4_13 : (fI D H4 11 a0 13).toInt = (fI D H_9 11 a0 13).toInt := congrArg Int32.toInt (K4.fI ga0 rfl (by decide) (by decide +kernel))
        have y4_16 : (fI D H4 11 a0 16).toInt = (fI D H_9 11 a0 16).toInt := congrArg Int32.toInt (K4.fI ga0 rfl (by decide) (by decide +kernel))
        have lq4 : Lq D H_9 H4 a0 := Lq.keep S_9.1 ga0 K4 (by decide +kernel) (by decide +kernel) (by decide +kernel)
        have tk4 : Lq D s.heap H4 a0 := u9_2.trans lq4
        rcases q4 with q4 | q4
        · skip
          refine lv_if_eq (tgt := 37) hx hb dX12_readAllOf_15 (by decide) (fun c5 => ?_) (fun c5 => ?_)
          · have b5 : v4.toInt = (0 : Int32).toInt := i_eq.mp c5
            exact absurd b5 (by omega)
          · have b5 : ¬ v4.toInt = (0 : Int32).toInt := fun z9 => c5 (i_eq.mpr z9)
            refine lv_aload_n hx hb dX12_readAllOf_18 rfl (lv_at hl 0 rfl) ?_
            have rs9 : 0 ≤ (fI D H4 11 a0 16).toInt ∧ (fI D H4 11 a0 16).toInt ≤ 400 := S4.1.rng ga0 rfl (by decide) rfl
            have rp9 : 0 ≤ (fI D H4 11 a0 10).toInt ∧ (fI D H4 11 a0 10).toInt ≤ 400 := S4.1.rng ga0 rfl (by decide) rfl
            refine callV_Ei C S4 (c_X12_readAtom_d3 l D G a0 ga0) kV_X12_205 ga0 (⟨by omega, by omega⟩) (by decide +kernel) dX12_readAllOf_19 hl.1 rfl rfl (by decide) cd_X12_readAtom ⟨Nat.le_of_ble_eq_true rfl, Nat.le_of_ble_eq_true rfl, Nat.le_of_ble_eq_true rfl, Nat.le_of_ble_eq_true rfl, Nat.le_of_ble_eq_true rfl⟩ (fun v6 H6 L6 S6 K6 q6 => ?_)
            obtain ⟨q6, sa6, sx6, tq6⟩ := q6
            have lq6 : Lq D H4 H6 a0 := tq6
            have tk6 : Lq D s.heap H6 a0 := tk4.trans lq6
            refine lv_if_ne (tgt := 27) hx hb dX12_readAllOf_22 (by decide) (fun c7 => ?_) (fun c7 => ?_)
            · have b7 : ¬ v6.toInt = (0 : Int32).toInt := fun z9 => c7 (i_eq.mpr z9)
              refine lv_aload_n hx hb dX12_readAllOf_27 rfl (lv_at hl 0 rfl) ?_
              refine lv_bipush (v := 16) hx hb dX12_readAllOf_28 (by decide) ?_
              refine lv_iconst (v := 0) hx hb dX12_readAllOf_30 (by decide) ?_
              have rs9 : 0 ≤ (fI D H6 11 a0 16).toInt ∧ (fI D H6 11 a0 16).toInt ≤ 400 := S6.1.rng ga0 rfl (by decide) rfl
              have rp9 : 0 ≤ (fI D H6 11 a0 10).toInt ∧ (fI D H6 11 a0 10).toInt ≤ 400 := S6.1.rng ga0 rfl (by decide) rfl
              have k_16 : (16 : Int32).toInt = 16 := by decide
              refine callV_Ev C S6 (c_X12_emits l D G a0 (16 : Int32) (0 : Int32) ga0) kV_X12_185 ga0 (by omega) (by decide +kernel) dX12_readAllOf_31 hl.1 rfl rfl (by decide) cd_X12_emits ⟨Nat.le_of_ble_eq_true rfl, Nat.le_of_ble_eq_true rfl, Nat.le_of_ble_eq_true rfl, Nat.le_of_ble_eq_true rfl, Nat.le_of_ble_eq_true rfl⟩ (fun H8 L8 S8 K8 q8 => ?_)
              obtain ⟨qa8, qb8, tq8⟩ := q8
              have y8_10 : (fI D H8 11 a0 10).toInt = (fI D H6 11 a0 10).toInt := congrArg Int32.toInt (K8.fI ga0 rfl (by decide) (by decide +kernel))
              have y8_12 : (fI D H8 11 a0 12).toInt = (fI D H6 11 a0 12).toInt := congrArg Int32.toInt (K8.fI ga0 rfl (by decide) (by decide +kernel))
              have y8_13 : (fI D H8 11 a0 13).toInt = (fI D H6 11 a0 13).toInt := congrArg Int32.toInt (K8.fI ga0 rfl (by decide) (by decide +kernel))
              have lq8 : Lq D H6 H8 a0 := tq8
              have tk8 : Lq D s.heap H8 a0 := tk6.trans lq8
              refine lv_goto (tgt := 9) hx hb dX12_readAllOf_34 (by decide) ?_
              have e9 : Ex (Cs D H8 a0) (fI D s.heap 11 a0 16).toInt.toNat (fI D H8 11 a0 16).toInt.toNat := (Ex.bin (((lq4.trans lq6).trans lq8).ex u9_0 (by omega)) ((lq8.ex (sx6 (by omega)) (by omega)).at (i' := (fI D H_9 11 a0 16).toInt.toNat) (by omega) rfl) (by rw [qb8]; decide) rfl).at (by omega) (by omega)
              exact ih9  H8 L8 ls S8 e9 (by omega) tk8 (by omega) (lv_sub hl [0] rfl)
            · have b7 : v6.toInt = (0 : Int32).toInt := i_eq.mp c7
              refine lv_iconst (v := 0) hx hb dX12_readAllOf_25 (by decide) ?_
              exact retE_z hQ C S6 hr dX12_readAllOf_26 (z01 (by omega) (by omega)) (⟨by omega, fun h9 => absurd h9 (by decide), fun h9 => absurd h9 (by decide), tk6⟩)
        · skip
          refine lv_if_eq (tgt := 37) hx hb dX12_readAllOf_15 (by decide) (fun c9 => ?_) (fun c9 => ?_)
          · have b9 : v4.toInt = (0 : Int32).toInt := i_eq.mp c9
            refine lv_iconst (v := 1) hx hb dX12_readAllOf_37 (by decide) ?_
            have k_1 : (1 : Int32).toInt = 1 := by decide
            exact retE_z hQ C S4 hr dX12_readAllOf_38 (z01 (by omega) (by omega)) (⟨by omega, fun _ => by omega, fun _ => (lq4.ex u9_0 (by omega)).at (by omega) (by omega), tk4⟩)
          · have b9 : ¬ v4.toInt = (0 : Int32).toInt := fun z9 => c9 (i_eq.mpr z9)
            exact absurd b9 (by omega)
    have ex0 := sx1 (by omega)
    have rn : 0 ≤ (fI D H1 11 a0 10).toInt ∧ (fI D H1 11 a0 10).toInt ≤ 400 := S1.1.rng ga0 rfl (by decide) rfl
    exact Lp9 402  H1 L1 ls S1 (ex0.at (by omega) rfl) (by omega) tk1  (by omega) (lv_sub hl [0] rfl)
  · have b2 : v1.toInt = (0 : Int32).toInt := i_eq.mp c2
    refine lv_iconst (v := 0) hx hb dX12_readAllOf_7 (by decide) ?_
    exact retE_z hQ C S1 hr dX12_readAllOf_8 (z01 (by omega) (by omega)) (⟨by omega, fun h9 => absurd h9 (by decide), fun h9 => absurd h9 (by decide), tk1⟩)

set_option maxRecDepth 100000 in
set_option maxHeartbeats 4000000 in
theorem c_X12_readCond_d3 (l : Launch) (D : DD) (G : Nat → Nat) (a0 : Nat) (ga0 : G a0 = 30) : CE l D G yX12_readCond cX12_readCond 1 (some .boolean) 18 [.ref a0] (fun H => (fI D H 11 a0 13).toInt = 3 ∧ (fI D H 11 a0 16).toInt + 3 ≤ (fI D H 11 a0 10).toInt) [(30, 10), (30, 12), (30, 16), (31, 0), (30, 13)] (xI (fun H r H1 => (0 ≤ r.toInt ∧ r.toInt ≤ 1) ∧ (r.toInt = 1 → (fI D H1 11 a0 16).toInt - (fI D H 11 a0 16).toInt ≤ (fI D H1 11 a0 10).toInt - (fI D H 11 a0 10).toInt ∧ (fI D H1 11 a0 13).toInt = (fI D H 11 a0 13).toInt ∧ (fI D H 11 a0 10).toInt ≤ (fI D H1 11 a0 10).toInt) ∧ (r.toInt = 1 → Ex (Cs D H1 a0) (fI D H 11 a0 16).toInt.toNat (fI D H1 11 a0 16).toInt.toNat) ∧ Lq D H H1 a0)) := by
  refine enter (by decide) (Nat.le_of_ble_eq_true rfl) ?_
  intro p e s m args below meth c ls Q hA hQ C hr hO hpre hl
  have hx := C.1
  have hb := C.2.1
  have S : Sd D G [(30, 10), (30, 12), (30, 16), (31, 0), (30, 13)] s.heap s.heap [] := Sd.start hO
  have hl : lv_has ls 1 [(0, .ref a0)] := hl
  have rs0 : 0 ≤ (fI D s.heap 11 a0 16).toInt ∧ (fI D s.heap 11 a0 16).toInt ≤ 400 := hO.rng ga0 rfl (by decide) rfl
  have rp0 : 0 ≤ (fI D s.heap 11 a0 10).toInt ∧ (fI D s.heap 11 a0 10).toInt ≤ 400 := hO.rng ga0 rfl (by decide) rfl
  have tk0 : Lq D s.heap s.heap a0 := Lq.refl
  refine lv_aload_n hx hb dX12_readCond_0 rfl (lv_at hl 0 rfl) ?_
  refine callV_Ei C S (c_X12_readAllOf_d3 l D G a0 ga0) kV_X12_216 ga0 (hpre) (by decide +kernel) dX12_readCond_1 hl.1 rfl rfl (by decide) cd_X12_readAllOf ⟨Nat.le_of_ble_eq_true rfl, Nat.le_of_ble_eq_true rfl, Nat.le_of_ble_eq_true rfl, Nat.le_of_ble_eq_true rfl, Nat.le_of_ble_eq_true rfl⟩ (fun v1 H1 L1 S1 K1 q1 => ?_)
  obtain ⟨q1, sa1, sx1, tq1⟩ := q1
  have lq1 : Lq D s.heap H1 a0 := tq1
  have tk1 : Lq D s.heap H1 a0 := tk0.trans lq1
  have k_0 : (0 : Int32).toInt = 0 := by decide
  refine lv_if_ne (tgt := 9) hx hb dX12_readCond_4 (by decide) (fun c2 => ?_) (fun c2 => ?_)
  · have b2 : ¬ v1.toInt = (0 : Int32).toInt := fun z9 => c2 (i_eq.mpr z9)
    have Lp9 : ∀ (n : Nat)  (H_9 : Heap) (L_9 : List Loc) (ls : Array Slot), (Sd D G [(30, 10), (30, 12), (30, 16), (31, 0), (30, 13)] s.heap H_9 L_9) → (Ex (Cs D H_9 a0) (fI D s.heap 11 a0 16).toInt.toNat (fI D H_9 11 a0 16).toInt.toNat) → ((fI D H_9 11 a0 16).toInt - (fI D s.heap 11 a0 16).toInt ≤ (fI D H_9 11 a0 10).toInt - (fI D s.heap 11 a0 10).toInt ∧ (fI D H_9 11 a0 13).toInt = (fI D s.heap 11 a0 13).toInt ∧ (fI D s.heap 11 a0 10).toInt ≤ (fI D H_9 11 a0 10).toInt) → (Lq D s.heap H_9 a0) → 401 - (fI D H_9 11 a0 10).toInt ≤ (n : Int) → lv_has ls 1 [(0, .ref a0)] → W p l e (rmU 18 0 0) s m args below meth c H_9 L_9 0 0 Q (F0 m 9 ls []) := by
      intro n
      induction n with
      | zero =>
        intro H_9 L_9 ls S_9 u9_0 u9_1 u9_2 hn hl
        have rz : 0 ≤ (fI D H_9 11 a0 10).toInt ∧ (fI D H_9 11 a0 10).toInt ≤ 400 := S_9.1.rng ga0 rfl (by decide) rfl
        exact absurd hn (by omega)
      | succ n ih9 =>
        intro H_9 L_9 ls S_9 u9_0 u9_1 u9_2 hn hl
        have rs9 : 0 ≤ (fI D H_9 11 a0 16).toInt ∧ (fI D H_9 11 a0 16).toInt ≤ 400 := S_9.1.rng ga0 rfl (by decide) rfl
        have rp9 : 0 ≤ (fI D H_9 11 a0 10).toInt ∧ (fI D H_9 11 a0 10).toInt ≤ 400 := S_9.1.rng ga0 rfl (by decide) rfl
        refine lv_aload_n hx hb dX12_readCond_9 rfl (lv_at hl 0 rfl) ?_
        refine q_lds C ks_X12_219 dX12_readCond_10 (fun a3 ha3 => ?_)
        refine callV_Ei C S_9 (c_X12_passes_w l D G a0 a3 2 ga0 ha3) kV_X12_120 ga0 (trivial) (by decide +kernel) dX12_readCond_12 hl.1 rfl rfl (by decide) cd_X12_passes ⟨Nat.le_of_ble_eq_true rfl, Nat.le_of_ble_eq_true rfl, Nat.le_of_ble_eq_true rfl, Nat.le_of_ble_eq_true rfl, Nat.le_of_ble_eq_true rfl⟩ (fun v4 H4 L4 S4 K4 q4 => ?_)
        have y4_13 : (fI D H4 11 a0 13).toInt = (fI D H_9 11 a0 13).toInt := congrArg Int32.toInt (K4.fI ga0 rfl (by decide) (by decide +kernel))
        have y4_16 : (fI D H4 11 a0 16).toInt = (fI D H_9 11 a0 16).toInt := congrArg Int32.toInt (K4.fI ga0 rfl (by decide) (by decide +kernel))
        have lq4 : Lq D H_9 H4 a0 := Lq.keep S_9.1 ga0 K4 (by decide +kernel) (by decide +kernel) (by decide +kernel)
        have tk4 : Lq D s.heap H4 a0 := u9_2.trans lq4
        rcases q4 with q4 | q4
        · skip
          refine lv_if_eq (tgt := 37) hx hb dX12_readCond_15 (by decide) (fun c5 => ?_) (fun c5 => ?_)
          · have b5 : v4.toInt = (0 : Int32).toInt := i_eq.mp c5
            exact absurd b5 (by omega)
          · have b5 : ¬ v4.toInt = (0 : Int32).toInt := fun z9 => c5 (i_eq.mpr z9)
            refine lv_aload_n hx hb dX12_readCond_18 rfl (lv_at hl 0 rfl) ?_
            have rs9 : 0 ≤ (fI D H4 11 a0 16).toInt ∧ (fI D H4 11 a0 16).toInt ≤ 400 := S4.1.rng ga0 rfl (by decide) rfl
            have rp9 : 0 ≤ (fI D H4 11 a0 10).toInt ∧ (fI D H4 11 a0 10).toInt ≤ 400 := S4.1.rng ga0 rfl (by decide) rfl
            refine callV_Ei C S4 (c_X12_readAllOf_d3 l D G a0 ga0) kV_X12_216 ga0 (⟨by omega, by omega⟩) (by decide +kernel) dX12_readCond_19 hl.1 rfl rfl (by decide) cd_X12_readAllOf ⟨Nat.le_of_ble_eq_true rfl, Nat.le_of_ble_eq_true rfl, Nat.le_of_ble_eq_true rfl, Nat.le_of_ble_eq_true rfl, Nat.le_of_ble_eq_true rfl⟩ (fun v6 H6 L6 S6 K6 q6 => ?_)
            obtain ⟨q6, sa6, sx6, tq6⟩ := q6
            have lq6 : Lq D H4 H6 a0 := tq6
            have tk6 : Lq D s.heap H6 a0 := tk4.trans lq6
            refine lv_if_ne (tgt := 27) hx hb dX12_readCond_22 (by decide) (fun c7 => ?_) (fun c7 => ?_)
            · have b7 : ¬ v6.toInt = (0 : Int32).toInt := fun z9 => c7 (i_eq.mpr z9)
              refine lv_aload_n hx hb dX12_readCond_27 rfl (lv_at hl 0 rfl) ?_
              refine lv_bipush (v := 17) hx hb dX12_readCond_28 (by decide) ?_
              refine lv_iconst (v := 0) hx hb dX12_readCond_30 (by decide) ?_
              have rs9 : 0 ≤ (fI D H6 11 a0 16).toInt ∧ (fI D H6 11 a0 16).toInt ≤ 400 := S6.1.rng ga0 rfl (by decide) rfl
              have rp9 : 0 ≤ (fI D H6 11 a0 10).toInt ∧ (fI D H6 11 a0 10).toInt ≤ 400 := S6.1.rng ga0 rfl (by decide) rfl
              have k_17 : (17 : Int32).toInt = 17 := by decide
              refine callV_Ev C S6 (c_X12_emits l D G a0 (17 : Int32) (0 : Int32) ga0) kV_X12_185 ga0 (by omega) (by decide +kernel) dX12_readCond_31 hl.1 rfl rfl (by decide) cd_X12_emits ⟨Nat.le_of_ble_eq_true rfl, Nat.le_of_ble_eq_true rfl, Nat.le_of_ble_eq_true rfl, Nat.le_of_ble_eq_true rfl, Nat.le_of_ble_eq_true rfl⟩ (fun H8 L8 S8 K8 q8 => ?_)
              obtain ⟨qa8, qb8, tq8⟩ := q8
              have y8_10 : (fI D H8 11 a0 10).toInt = (fI D H6 11 a0 10).toInt := congrArg Int32.toInt (K8.fI ga0 rfl (by decide) (by decide +kernel))
              have y8_12 : (fI D H8 11 a0 12).toInt = (fI D H6 11 a0 12).toInt := congrArg Int32.toInt (K8.fI ga0 rfl (by decide) (by decide +kernel))
              have y8_13 : (fI D H8 11 a0 13).toInt = (fI D H6 11 a0 13).toInt := congrArg Int32.toInt (K8.fI ga0 rfl (by decide) (by decide +kernel))
              have lq8 : Lq D H6 H8 a0 := tq8
              have tk8 : Lq D s.heap H8 a0 := tk6.trans lq8
              refine lv_goto (tgt := 9) hx hb dX12_readCond_34 (by decide) ?_
              have e9 : Ex (Cs D H8 a0) (fI D s.heap 11 a0 16).toInt.toNat (fI D H8 11 a0 16).toInt.toNat := (Ex.bin (((lq4.trans lq6).trans lq8).ex u9_0 (by omega)) ((lq8.ex (sx6 (by omega)) (by omega)).at (i' := (fI D H_9 11 a0 16).toInt.toNat) (by omega) rfl) (by rw [qb8]; decide) rfl).at (by omega) (by omega)
              exact ih9  H8 L8 ls S8 e9 (by omega) tk8 (by omega) (lv_sub hl [0] rfl)
            · have b7 : v6.toInt = (0 : Int32).toInt := i_eq.mp c7
              refine lv_iconst (v := 0) hx hb dX12_readCond_25 (by decide) ?_
              exact retE_z hQ C S6 hr dX12_readCond_26 (z01 (by omega) (by omega)) (⟨by omega, fun h9 => absurd h9 (by decide), fun h9 => absurd h9 (by decide), tk6⟩)
        · skip
          refine lv_if_eq (tgt := 37) hx hb dX12_readCond_15 (by decide) (fun c9 => ?_) (fun c9 => ?_)
          · have b9 : v4.toInt = (0 : Int32).toInt := i_eq.mp c9
            refine lv_iconst (v := 1) hx hb dX12_readCond_37 (by decide) ?_
            have k_1 : (1 : Int32).toInt = 1 := by decide
            exact retE_z hQ C S4 hr dX12_readCond_38 (z01 (by omega) (by omega)) (⟨by omega, fun _ => by omega, fun _ => (lq4.ex u9_0 (by omega)).at (by omega) (by omega), tk4⟩)
          · have b9 : ¬ v4.toInt = (0 : Int32).toInt := fun z9 => c9 (i_eq.mpr z9)
            exact absurd b9 (by omega)
    have ex0 := sx1 (by omega)
    have rn : 0 ≤ (fI D H1 11 a0 10).toInt ∧ (fI D H1 11 a0 10).toInt ≤ 400 := S1.1.rng ga0 rfl (by decide) rfl
    exact Lp9 402  H1 L1 ls S1 (ex0.at (by omega) rfl) (by omega) tk1  (by omega) (lv_sub hl [0] rfl)
  · have b2 : v1.toInt = (0 : Int32).toInt := i_eq.mp c2
    refine lv_iconst (v := 0) hx hb dX12_readCond_7 (by decide) ?_
    exact retE_z hQ C S1 hr dX12_readCond_8 (z01 (by omega) (by omega)) (⟨by omega, fun h9 => absurd h9 (by decide), fun h9 => absurd h9 (by decide), tk1⟩)

set_option maxRecDepth 100000 in
set_option maxHeartbeats 4000000 in
theorem c_X12_readAtom_d2 (l : Launch) (D : DD) (G : Nat → Nat) (a0 : Nat) (ga0 : G a0 = 30) : CE l D G yX12_readAtom cX12_readAtom 2 (some .boolean) 19 [.ref a0] (fun H => (fI D H 11 a0 13).toInt = 2 ∧ (fI D H 11 a0 16).toInt + 3 ≤ (fI D H 11 a0 10).toInt) [(30, 10), (30, 12), (30, 16), (31, 0), (30, 13)] (xI (fun H r H1 => (0 ≤ r.toInt ∧ r.toInt ≤ 1) ∧ (r.toInt = 1 → (fI D H1 11 a0 16).toInt - (fI D H 11 a0 16).toInt ≤ (fI D H1 11 a0 10).toInt - (fI D H 11 a0 10).toInt ∧ (fI D H1 11 a0 13).toInt = (fI D H 11 a0 13).toInt ∧ (fI D H 11 a0 10).toInt ≤ (fI D H1 11 a0 10).toInt) ∧ (r.toInt = 1 → Ex (Cs D H1 a0) (fI D H 11 a0 16).toInt.toNat (fI D H1 11 a0 16).toInt.toNat) ∧ Lq D H H1 a0)) := by
  refine enter (by decide) (Nat.le_of_ble_eq_true rfl) ?_
  intro p e s m args below meth c ls Q hA hQ C hr hO hpre hl
  have hx := C.1
  have hb := C.2.1
  have S : Sd D G [(30, 10), (30, 12), (30, 16), (31, 0), (30, 13)] s.heap s.heap [] := Sd.start hO
  have hl : lv_has ls 2 [(0, .ref a0)] := hl
  have rs0 : 0 ≤ (fI D s.heap 11 a0 16).toInt ∧ (fI D s.heap 11 a0 16).toInt ≤ 400 := hO.rng ga0 rfl (by decide) rfl
  have rp0 : 0 ≤ (fI D s.heap 11 a0 10).toInt ∧ (fI D s.heap 11 a0 10).toInt ≤ 400 := hO.rng ga0 rfl (by decide) rfl
  have tk0 : Lq D s.heap s.heap a0 := Lq.refl
  refine lv_aload_n hx hb dX12_readAtom_0 rfl (lv_at hl 0 rfl) ?_
  refine lv_bipush (v := 40) hx hb dX12_readAtom_1 (by decide) ?_
  have k_40 : (40 : Int32).toInt = 40 := by decide
  refine callV_Ei C S (c_X12_sign l D G a0 (40 : Int32) ga0) kV_X12_193 ga0 (trivial) (by decide +kernel) dX12_readAtom_3 hl.1 rfl rfl (by decide) cd_X12_sign ⟨Nat.le_of_ble_eq_true rfl, Nat.le_of_ble_eq_true rfl, Nat.le_of_ble_eq_true rfl, Nat.le_of_ble_eq_true rfl, Nat.le_of_ble_eq_true rfl⟩ (fun v1 H1 L1 S1 K1 q1 => ?_)
  have y1_13 : (fI D H1 11 a0 13).toInt = (fI D s.heap 11 a0 13).toInt := congrArg Int32.toInt (K1.fI ga0 rfl (by decide) (by decide +kernel))
  have y1_16 : (fI D H1 11 a0 16).toInt = (fI D s.heap 11 a0 16).toInt := congrArg Int32.toInt (K1.fI ga0 rfl (by decide) (by decide +kernel))
  have lq1 : Lq D s.heap H1 a0 := Lq.keep S.1 ga0 K1 (by decide +kernel) (by decide +kernel) (by decide +kernel)
  have tk1 : Lq D s.heap H1 a0 := tk0.trans lq1
  rcases q1 with q1 | q1
  · skip
    have k_0 : (0 : Int32).toInt = 0 := by decide
    refine lv_if_eq (tgt := 56) hx hb dX12_readAtom_6 (by decide) (fun c2 => ?_) (fun c2 => ?_)
    · have b2 : v1.toInt = (0 : Int32).toInt := i_eq.mp c2
      exact absurd b2 (by omega)
    · have b2 : ¬ v1.toInt = (0 : Int32).toInt := fun z9 => c2 (i_eq.mpr z9)
      refine lv_aload_n hx hb dX12_readAtom_9 rfl (lv_at hl 0 rfl) ?_
      have dd : (fI D H1 11 a0 13).toInt = 2 := by omega
      refine q_gi (T := TX12) C S1.1 ga0 13 kF_X12_197 dX12_readAtom_10 rfl rfl (by decide) rfl (by decide) rfl ?_
      have r3 : 0 ≤ (fI D H1 11 a0 13).toInt ∧ (fI D H1 11 a0 13).toInt ≤ 6 := S1.1.rng ga0 rfl (by decide) rfl
      refine lv_bipush (v := 6) hx hb dX12_readAtom_13 (by decide) ?_
      have k_6 : (6 : Int32).toInt = 6 := by decide
      refine lv_icmp_ne (tgt := 20) hx hb dX12_readAtom_15 (by decide) (fun c4 => ?_) (fun c4 => ?_)
      · have b4 : ¬ (fI D H1 11 a0 13).toInt = (6 : Int32).toInt := fun z9 => c4 (i_eq.mpr z9)
        refine lv_aload_n hx hb dX12_readAtom_20 rfl (lv_at hl 0 rfl) ?_
        refine lv_dup hx hb dX12_readAtom_21 rfl ?_
        refine q_gi (T := TX12) C S1.1 ga0 13 kF_X12_197 dX12_readAtom_22 rfl rfl (by decide) rfl (by decide) rfl ?_
        refine lv_iconst (v := 1) hx hb dX12_readAtom_25 (by decide) ?_
        have k_1 : (1 : Int32).toInt = 1 := by decide
        refine lv_iadd hx hb dX12_readAtom_26 ?_
        refine lv_topi (fun v5 ev5 => ?_)
        have f6 : v5.toInt = (fI D H1 11 a0 13).toInt + (1 : Int32).toInt := by rw [ev5]; exact i_add (by omega) (by omega)
        refine q_put (T := TX12) C S1 ga0 13 kF_X12_197 dX12_readAtom_27 rfl rfl (by decide) (by decide) rfl rfl rfl rfl rfl (vok_i rfl (by omega) (by omega)) (by decide +kernel) (fun H7 L7 S7 P7 => ?_)
        have y7_10 : (fI D H7 11 a0 10).toInt = (fI D H1 11 a0 10).toInt := congrArg Int32.toInt (Pt.o P7 (by decide) (by decide))
        have y7_12 : (fI D H7 11 a0 12).toInt = (fI D H1 11 a0 12).toInt := congrArg Int32.toInt (Pt.o P7 (by decide) (by decide))
        have y7_13 : (fI D H7 11 a0 13).toInt = v5.toInt := congrArg Int32.toInt (Pt.i P7)
        have y7_16 : (fI D H7 11 a0 16).toInt = (fI D H1 11 a0 16).toInt := congrArg Int32.toInt (Pt.o P7 (by decide) (by decide))
        have lq7 : Lq D H1 H7 a0 := Lq.put S1.1 ga0 P7 (by decide) (by decide)
        have tk7 : Lq D s.heap H7 a0 := tk1.trans lq7
        refine lv_aload_n hx hb dX12_readAtom_30 rfl (lv_at hl 0 rfl) ?_
        have rs9 : 0 ≤ (fI D H7 11 a0 16).toInt ∧ (fI D H7 11 a0 16).toInt ≤ 400 := S7.1.rng ga0 rfl (by decide) rfl
        have rp9 : 0 ≤ (fI D H7 11 a0 10).toInt ∧ (fI D H7 11 a0 10).toInt ≤ 400 := S7.1.rng ga0 rfl (by decide) rfl
        refine callV_Ei C S7 (c_X12_readCond_d3 l D G a0 ga0) kV_X12_200 ga0 (⟨by omega, by omega⟩) (by decide +kernel) dX12_readAtom_31 hl.1 rfl rfl (by decide) cd_X12_readCond ⟨Nat.le_of_ble_eq_true rfl, Nat.le_of_ble_eq_true rfl, Nat.le_of_ble_eq_true rfl, Nat.le_of_ble_eq_true rfl, Nat.le_of_ble_eq_true rfl⟩ (fun v8 H8 L8 S8 K8 q8 => ?_)
        obtain ⟨q8, sa8, sx8, tq8⟩ := q8
        have lq8 : Lq D H7 H8 a0 := tq8
        have tk8 : Lq D s.heap H8 a0 := tk7.trans lq8
        refine lv_if_ne (tgt := 39) hx hb dX12_readAtom_34 (by decide) (fun c9 => ?_) (fun c9 => ?_)
        · have b9 : ¬ v8.toInt = (0 : Int32).toInt := fun z9 => c9 (i_eq.mpr z9)
          refine lv_aload_n hx hb dX12_readAtom_39 rfl (lv_at hl 0 rfl) ?_
          refine lv_dup hx hb dX12_readAtom_40 rfl ?_
          refine q_gi (T := TX12) C S8.1 ga0 13 kF_X12_197 dX12_readAtom_41 rfl rfl (by decide) rfl (by decide) rfl ?_
          have r10 : 0 ≤ (fI D H8 11 a0 13).toInt ∧ (fI D H8 11 a0 13).toInt ≤ 6 := S8.1.rng ga0 rfl (by decide) rfl
          refine lv_iconst (v := 1) hx hb dX12_readAtom_44 (by decide) ?_
          refine lv_isub hx hb dX12_readAtom_45 ?_
          refine lv_topi (fun v11 ev11 => ?_)
          have f12 : v11.toInt = (fI D H8 11 a0 13).toInt - (1 : Int32).toInt := by rw [ev11]; exact i_sub (by omega) (by omega)
          refine q_put (T := TX12) C S8 ga0 13 kF_X12_197 dX12_readAtom_46 rfl rfl (by decide) (by decide) rfl rfl rfl rfl rfl (vok_i rfl (by omega) (by omega)) (by decide +kernel) (fun H13 L13 S13 P13 => ?_)
          have y13_10 : (fI D H13 11 a0 10).toInt = (fI D H8 11 a0 10).toInt := congrArg Int32.toInt (Pt.o P13 (by decide) (by decide))
          have y13_12 : (fI D H13 11 a0 12).toInt = (fI D H8 11 a0 12).toInt := congrArg Int32.toInt (Pt.o P13 (by decide) (by decide))
          have y13_13 : (fI D H13 11 a0 13).toInt = v11.toInt := congrArg Int32.toInt (Pt.i P13)
          have y13_16 : (fI D H13 11 a0 16).toInt = (fI D H8 11 a0 16).toInt := congrArg Int32.toInt (Pt.o P13 (by decide) (by decide))
          have lq13 : Lq D H8 H13 a0 := Lq.put S8.1 ga0 P13 (by decide) (by decide)
          have tk13 : Lq D s.heap H13 a0 := tk8.trans lq13
          have rs9 : 0 ≤ (fI D H13 11 a0 16).toInt ∧ (fI D H13 11 a0 16).toInt ≤ 400 := S13.1.rng ga0 rfl (by decide) rfl
          have rp9 : 0 ≤ (fI D H13 11 a0 10).toInt ∧ (fI D H13 11 a0 10).toInt ≤ 400 := S13.1.rng ga0 rfl (by decide) rfl
          refine lv_aload_n hx hb dX12_readAtom_49 rfl (lv_at hl 0 rfl) ?_
          refine lv_bipush (v := 41) hx hb dX12_readAtom_50 (by decide) ?_
          have k_41 : (41 : Int32).toInt = 41 := by decide
          refine callV_Ei C S13 (c_X12_sign l D G a0 (41 : Int32) ga0) kV_X12_193 ga0 (trivial) (by decide +kernel) dX12_readAtom_52 hl.1 rfl rfl (by decide) cd_X12_sign ⟨Nat.le_of_ble_eq_true rfl, Nat.le_of_ble_eq_true rfl, Nat.le_of_ble_eq_true rfl, Nat.le_of_ble_eq_true rfl, Nat.le_of_ble_eq_true rfl⟩ (fun v14 H14 L14 S14 K14 q14 => ?_)
          have y14_13 : (fI D H14 11 a0 13).toInt = (fI D H13 11 a0 13).toInt := congrArg Int32.toInt (K14.fI ga0 rfl (by decide) (by decide +kernel))
          have y14_16 : (fI D H14 11 a0 16).toInt = (fI D H13 11 a0 16).toInt := congrArg Int32.toInt (K14.fI ga0 rfl (by decide) (by decide +kernel))
          have lq14 : Lq D H13 H14 a0 := Lq.keep S13.1 ga0 K14 (by decide +kernel) (by decide +kernel) (by decide +kernel)
          have tk14 : Lq D s.heap H14 a0 := tk13.trans lq14
          rcases q14 with q14 | q14
          · skip
            exact retE_z hQ C S14 hr dX12_readAtom_55 (z01 (by omega) (by omega)) (⟨by omega, fun _ => by omega, fun _ => ((lq13.trans lq14).ex (sx8 (by omega)) (by omega)).at (by omega) (by omega), tk14⟩)
          · skip
            exact retE_z hQ C S14 hr dX12_readAtom_55 (z01 (by omega) (by omega)) (⟨by omega, fun _ => by omega, fun _ => ((lq13.trans lq14).ex (sx8 (by omega)) (by omega)).at (by omega) (by omega), tk14⟩)
        · have b9 : v8.toInt = (0 : Int32).toInt := i_eq.mp c9
          refine lv_iconst (v := 0) hx hb dX12_readAtom_37 (by decide) ?_
          exact retE_z hQ C S8 hr dX12_readAtom_38 (z01 (by omega) (by omega)) (⟨by omega, fun h9 => absurd h9 (by decide), fun h9 => absurd h9 (by decide), tk8⟩)
      · have b4 : (fI D H1 11 a0 13).toInt = (6 : Int32).toInt := i_eq.mp c4
        exact absurd b4 (by omega)
  · skip
    have k_0 : (0 : Int32).toInt = 0 := by decide
    refine lv_if_eq (tgt := 56) hx hb dX12_readAtom_6 (by decide) (fun c15 => ?_) (fun c15 => ?_)
    · have b15 : v1.toInt = (0 : Int32).toInt := i_eq.mp c15
      refine lv_aload_n hx hb dX12_readAtom_56 rfl (lv_at hl 0 rfl) ?_
      refine q_lds C ks_X12_203 dX12_readAtom_57 (fun a16 ha16 => ?_)
      refine callV_Ei C S1 (c_X12_passes_w l D G a0 a16 3 ga0 ha16) kV_X12_120 ga0 (trivial) (by decide +kernel) dX12_readAtom_59 hl.1 rfl rfl (by decide) cd_X12_passes ⟨Nat.le_of_ble_eq_true rfl, Nat.le_of_ble_eq_true rfl, Nat.le_of_ble_eq_true rfl, Nat.le_of_ble_eq_true rfl, Nat.le_of_ble_eq_true rfl⟩ (fun v17 H17 L17 S17 K17 q17 => ?_)
      have y17_13 : (fI D H17 11 a0 13).toInt = (fI D H1 11 a0 13).toInt := congrArg Int32.toInt (K17.fI ga0 rfl (by decide) (by decide +kernel))
      have y17_16 : (fI D H17 11 a0 16).toInt = (fI D H1 11 a0 16).toInt := congrArg Int32.toInt (K17.fI ga0 rfl (by decide) (by decide +kernel))
      have lq17 : Lq D H1 H17 a0 := Lq.keep S1.1 ga0 K17 (by decide +kernel) (by decide +kernel) (by decide +kernel)
      have tk17 : Lq D s.heap H17 a0 := tk1.trans lq17
      rcases q17 with q17 | q17
      · skip
        refine lv_if_eq (tgt := 114) hx hb dX12_readAtom_62 (by decide) (fun c18 => ?_) (fun c18 => ?_)
        · have b18 : v17.toInt = (0 : Int32).toInt := i_eq.mp c18
          exact absurd b18 (by omega)
        · have b18 : ¬ v17.toInt = (0 : Int32).toInt := fun z9 => c18 (i_eq.mpr z9)
          refine lv_aload_n hx hb dX12_readAtom_65 rfl (lv_at hl 0 rfl) ?_
          have dd : (fI D H17 11 a0 13).toInt = 2 := by omega
          refine q_gi (T := TX12) C S17.1 ga0 13 kF_X12_197 dX12_readAtom_66 rfl rfl (by decide) rfl (by decide) rfl ?_
          have r19 : 0 ≤ (fI D H17 11 a0 13).toInt ∧ (fI D H17 11 a0 13).toInt ≤ 6 := S17.1.rng ga0 rfl (by decide) rfl
          refine lv_bipush (v := 6) hx hb dX12_readAtom_69 (by decide) ?_
          have k_6 : (6 : Int32).toInt = 6 := by decide
          refine lv_icmp_ne (tgt := 76) hx hb dX12_readAtom_71 (by decide) (fun c20 => ?_) (fun c20 => ?_)
          · have b20 : ¬ (fI D H17 11 a0 13).toInt = (6 : Int32).toInt := fun z9 => c20 (i_eq.mpr z9)
            refine lv_aload_n hx hb dX12_readAtom_76 rfl (lv_at hl 0 rfl) ?_
            refine lv_dup hx hb dX12_readAtom_77 rfl ?_
            refine q_gi (T := TX12) C S17.1 ga0 13 kF_X12_197 dX12_readAtom_78 rfl rfl (by decide) rfl (by decide) rfl ?_
            refine lv_iconst (v := 1) hx hb dX12_readAtom_81 (by decide) ?_
            have k_1 : (1 : Int32).toInt = 1 := by decide
            refine lv_iadd hx hb dX12_readAtom_82 ?_
            refine lv_topi (fun v21 ev21 => ?_)
            have f22 : v21.toInt = (fI D H17 11 a0 13).toInt + (1 : Int32).toInt := by rw [ev21]; exact i_add (by omega) (by omega)
            refine q_put (T := TX12) C S17 ga0 13 kF_X12_197 dX12_readAtom_83 rfl rfl (by decide) (by decide) rfl rfl rfl rfl rfl (vok_i rfl (by omega) (by omega)) (by decide +kernel) (fun H23 L23 S23 P23 => ?_)
            have y23_10 : (fI D H23 11 a0 10).toInt = (fI D H17 11 a0 10).toInt := congrArg Int32.toInt (Pt.o P23 (by decide) (by decide))
            have y23_12 : (fI D H23 11 a0 12).toInt = (fI D H17 11 a0 12).toInt := congrArg Int32.toInt (Pt.o P23 (by decide) (by decide))
            have y23_13 : (fI D H23 11 a0 13).toInt = v21.toInt := congrArg Int32.toInt (Pt.i P23)
            have y23_16 : (fI D H23 11 a0 16).toInt = (fI D H17 11 a0 16).toInt := congrArg Int32.toInt (Pt.o P23 (by decide) (by decide))
            have lq23 : Lq D H17 H23 a0 := Lq.put S17.1 ga0 P23 (by decide) (by decide)
            have tk23 : Lq D s.heap H23 a0 := tk17.trans lq23
            refine lv_aload_n hx hb dX12_readAtom_86 rfl (lv_at hl 0 rfl) ?_
            have rs9 : 0 ≤ (fI D H23 11 a0 16).toInt ∧ (fI D H23 11 a0 16).toInt ≤ 400 := S23.1.rng ga0 rfl (by decide) rfl
            have rp9 : 0 ≤ (fI D H23 11 a0 10).toInt ∧ (fI D H23 11 a0 10).toInt ≤ 400 := S23.1.rng ga0 rfl (by decide) rfl
            refine callV_Ei C S23 (c_X12_readAtom_d3 l D G a0 ga0) kV_X12_205 ga0 (⟨by omega, by omega⟩) (by decide +kernel) dX12_readAtom_87 hl.1 rfl rfl (by decide) cd_X12_readAtom ⟨Nat.le_of_ble_eq_true rfl, Nat.le_of_ble_eq_true rfl, Nat.le_of_ble_eq_true rfl, Nat.le_of_ble_eq_true rfl, Nat.le_of_ble_eq_true rfl⟩ (fun v24 H24 L24 S24 K24 q24 => ?_)
            obtain ⟨q24, sa24, sx24, tq24⟩ := q24
            have lq24 : Lq D H23 H24 a0 := tq24
            have tk24 : Lq D s.heap H24 a0 := tk23.trans lq24
            refine lv_if_ne (tgt := 95) hx hb dX12_readAtom_90 (by decide) (fun c25 => ?_) (fun c25 => ?_)
            · have b25 : ¬ v24.toInt = (0 : Int32).toInt := fun z9 => c25 (i_eq.mpr z9)
              refine lv_aload_n hx hb dX12_readAtom_95 rfl (lv_at hl 0 rfl) ?_
              refine lv_dup hx hb dX12_readAtom_96 rfl ?_
              refine q_gi (T := TX12) C S24.1 ga0 13 kF_X12_197 dX12_readAtom_97 rfl rfl (by decide) rfl (by decide) rfl ?_
              have r26 : 0 ≤ (fI D H24 11 a0 13).toInt ∧ (fI D H24 11 a0 13).toInt ≤ 6 := S24.1.rng ga0 rfl (by decide) rfl
              refine lv_iconst (v := 1) hx hb dX12_readAtom_100 (by decide) ?_
              refine lv_isub hx hb dX12_readAtom_101 ?_
              refine lv_topi (fun v27 ev27 => ?_)
              have f28 : v27.toInt = (fI D H24 11 a0 13).toInt - (1 : Int32).toInt := by rw [ev27]; exact i_sub (by omega) (by omega)
              refine q_put (T := TX12) C S24 ga0 13 kF_X12_197 dX12_readAtom_102 rfl rfl (by decide) (by decide) rfl rfl rfl rfl rfl (vok_i rfl (by omega) (by omega)) (by decide +kernel) (fun H29 L29 S29 P29 => ?_)
              have y29_10 : (fI D H29 11 a0 10).toInt = (fI D H24 11 a0 10).toInt := congrArg Int32.toInt (Pt.o P29 (by decide) (by decide))
              have y29_12 : (fI D H29 11 a0 12).toInt = (fI D H24 11 a0 12).toInt := congrArg Int32.toInt (Pt.o P29 (by decide) (by decide))
              have y29_13 : (fI D H29 11 a0 13).toInt = v27.toInt := congrArg Int32.toInt (Pt.i P29)
              have y29_16 : (fI D H29 11 a0 16).toInt = (fI D H24 11 a0 16).toInt := congrArg Int32.toInt (Pt.o P29 (by decide) (by decide))
              have lq29 : Lq D H24 H29 a0 := Lq.put S24.1 ga0 P29 (by decide) (by decide)
              have tk29 : Lq D s.heap H29 a0 := tk24.trans lq29
              refine lv_aload_n hx hb dX12_readAtom_105 rfl (lv_at hl 0 rfl) ?_
              refine lv_bipush (v := 15) hx hb dX12_readAtom_106 (by decide) ?_
              refine lv_iconst (v := 0) hx hb dX12_readAtom_108 (by decide) ?_
              have rs9 : 0 ≤ (fI D H29 11 a0 16).toInt ∧ (fI D H29 11 a0 16).toInt ≤ 400 := S29.1.rng ga0 rfl (by decide) rfl
              have rp9 : 0 ≤ (fI D H29 11 a0 10).toInt ∧ (fI D H29 11 a0 10).toInt ≤ 400 := S29.1.rng ga0 rfl (by decide) rfl
              have k_15 : (15 : Int32).toInt = 15 := by decide
              refine callV_Ev C S29 (c_X12_emits l D G a0 (15 : Int32) (0 : Int32) ga0) kV_X12_185 ga0 (by omega) (by decide +kernel) dX12_readAtom_109 hl.1 rfl rfl (by decide) cd_X12_emits ⟨Nat.le_of_ble_eq_true rfl, Nat.le_of_ble_eq_true rfl, Nat.le_of_ble_eq_true rfl, Nat.le_of_ble_eq_true rfl, Nat.le_of_ble_eq_true rfl⟩ (fun H30 L30 S30 K30 q30 => ?_)
              obtain ⟨qa30, qb30, tq30⟩ := q30
              have y30_10 : (fI D H30 11 a0 10).toInt = (fI D H29 11 a0 10).toInt := congrArg Int32.toInt (K30.fI ga0 rfl (by decide) (by decide +kernel))
              have y30_12 : (fI D H30 11 a0 12).toInt = (fI D H29 11 a0 12).toInt := congrArg Int32.toInt (K30.fI ga0 rfl (by decide) (by decide +kernel))
              have y30_13 : (fI D H30 11 a0 13).toInt = (fI D H29 11 a0 13).toInt := congrArg Int32.toInt (K30.fI ga0 rfl (by decide) (by decide +kernel))
              have lq30 : Lq D H29 H30 a0 := tq30
              have tk30 : Lq D s.heap H30 a0 := tk29.trans lq30
              refine lv_iconst (v := 1) hx hb dX12_readAtom_112 (by decide) ?_
              exact retE_z hQ C S30 hr dX12_readAtom_113 (z01 (by omega) (by omega)) (⟨by omega, fun _ => by omega, fun _ => (Ex.un (((lq29.trans lq30).ex (sx24 (by omega)) (by omega)).at (j' := (fI D H29 11 a0 16).toInt.toNat) rfl (by omega)) (by rw [qb30]; decide) rfl).at (by omega) (by omega), tk30⟩)
            · have b25 : v24.toInt = (0 : Int32).toInt := i_eq.mp c25
              refine lv_iconst (v := 0) hx hb dX12_readAtom_93 (by decide) ?_
              exact retE_z hQ C S24 hr dX12_readAtom_94 (z01 (by omega) (by omega)) (⟨by omega, fun h9 => absurd h9 (by decide), fun h9 => absurd h9 (by decide), tk24⟩)
          · have b20 : (fI D H17 11 a0 13).toInt = (6 : Int32).toInt := i_eq.mp c20
            exact absurd b20 (by omega)
      · skip
        refine lv_if_eq (tgt := 114) hx hb dX12_readAtom_62 (by decide) (fun c31 => ?_) (fun c31 => ?_)
        · have b31 : v17.toInt = (0 : Int32).toInt := i_eq.mp c31
          refine lv_aload_n hx hb dX12_readAtom_114 rfl (lv_at hl 0 rfl) ?_
          have rs9 : 0 ≤ (fI D H17 11 a0 16).toInt ∧ (fI D H17 11 a0 16).toInt ≤ 400 := S17.1.rng ga0 rfl (by decide) rfl
          have rp9 : 0 ≤ (fI D H17 11 a0 10).toInt ∧ (fI D H17 11 a0 10).toInt ≤ 400 := S17.1.rng ga0 rfl (by decide) rfl
          refine callV_Ei C S17 (c_X12_readTag l D G a0 ga0) kV_X12_208 ga0 (by omega) (by decide +kernel) dX12_readAtom_115 hl.1 rfl rfl (by decide) cd_X12_readTag ⟨Nat.le_of_ble_eq_true rfl, Nat.le_of_ble_eq_true rfl, Nat.le_of_ble_eq_true rfl, Nat.le_of_ble_eq_true rfl, Nat.le_of_ble_eq_true rfl⟩ (fun v32 H32 L32 S32 K32 q32 => ?_)
          obtain ⟨q32, sa32, sx32, tq32, sf32⟩ := q32
          have y32_13 : (fI D H32 11 a0 13).toInt = (fI D H17 11 a0 13).toInt := congrArg Int32.toInt (K32.fI ga0 rfl (by decide) (by decide +kernel))
          have lq32 : Lq D H17 H32 a0 := tq32
          have tk32 : Lq D s.heap H32 a0 := tk17.trans lq32
          refine lv_if_eq (tgt := 123) hx hb dX12_readAtom_118 (by decide) (fun c33 => ?_) (fun c33 => ?_)
          · have b33 : v32.toInt = (0 : Int32).toInt := i_eq.mp c33
            refine lv_aload_n hx hb dX12_readAtom_123 rfl (lv_at hl 0 rfl) ?_
            have rs9 : 0 ≤ (fI D H32 11 a0 16).toInt ∧ (fI D H32 11 a0 16).toInt ≤ 400 := S32.1.rng ga0 rfl (by decide) rfl
            have rp9 : 0 ≤ (fI D H32 11 a0 10).toInt ∧ (fI D H32 11 a0 10).toInt ≤ 400 := S32.1.rng ga0 rfl (by decide) rfl
            refine callV_Ei C S32 (c_X12_readSum l D G a0 ga0) kV_X12_211 ga0 (by omega) (by decide +kernel) dX12_readAtom_124 hl.1 rfl rfl (by decide) cd_X12_readSum ⟨Nat.le_of_ble_eq_true rfl, Nat.le_of_ble_eq_true rfl, Nat.le_of_ble_eq_true rfl, Nat.le_of_ble_eq_true rfl, Nat.le_of_ble_eq_true rfl⟩ (fun v34 H34 L34 S34 K34 q34 => ?_)
            obtain ⟨q34, sa34, sx34, tq34⟩ := q34
            have y34_13 : (fI D H34 11 a0 13).toInt = (fI D H32 11 a0 13).toInt := congrArg Int32.toInt (K34.fI ga0 rfl (by decide) (by decide +kernel))
            have lq34 : Lq D H32 H34 a0 := tq34
            have tk34 : Lq D s.heap H34 a0 := tk32.trans lq34
            refine lv_if_ne (tgt := 132) hx hb dX12_readAtom_127 (by decide) (fun c35 => ?_) (fun c35 => ?_)
            · have b35 : ¬ v34.toInt = (0 : Int32).toInt := fun z9 => c35 (i_eq.mpr z9)
              refine lv_aload_n hx hb dX12_readAtom_132 rfl (lv_at hl 0 rfl) ?_
              refine lv_bipush (v := 60) hx hb dX12_readAtom_133 (by decide) ?_
              have k_60 : (60 : Int32).toInt = 60 := by decide
              refine callV_Ei C S34 (c_X12_sign l D G a0 (60 : Int32) ga0) kV_X12_193 ga0 (trivial) (by decide +kernel) dX12_readAtom_135 hl.1 rfl rfl (by decide) cd_X12_sign ⟨Nat.le_of_ble_eq_true rfl, Nat.le_of_ble_eq_true rfl, Nat.le_of_ble_eq_true rfl, Nat.le_of_ble_eq_true rfl, Nat.le_of_ble_eq_true rfl⟩ (fun v36 H36 L36 S36 K36 q36 => ?_)
              have y36_13 : (fI D H36 11 a0 13).toInt = (fI D H34 11 a0 13).toInt := congrArg Int32.toInt (K36.fI ga0 rfl (by decide) (by decide +kernel))
              have y36_16 : (fI D H36 11 a0 16).toInt = (fI D H34 11 a0 16).toInt := congrArg Int32.toInt (K36.fI ga0 rfl (by decide) (by decide +kernel))
              have lq36 : Lq D H34 H36 a0 := Lq.keep S34.1 ga0 K36 (by decide +kernel) (by decide +kernel) (by decide +kernel)
              have tk36 : Lq D s.heap H36 a0 := tk34.trans lq36
              rcases q36 with q36 | q36
              · skip
                refine lv_istore_n (lv' := [(1, .int v36), (0, .ref a0)]) hx hb dX12_readAtom_138 rfl hl (by decide) rfl (fun ls hl => ?_)
                refine lv_iload_n hx hb dX12_readAtom_139 rfl (lv_at hl 0 rfl) ?_
                refine lv_if_ne (tgt := 152) hx hb dX12_readAtom_140 (by decide) (fun c37 => ?_) (fun c37 => ?_)
                · have b37 : ¬ v36.toInt = (0 : Int32).toInt := fun z9 => c37 (i_eq.mpr z9)
                  refine lv_aload_n hx hb dX12_readAtom_152 rfl (lv_at hl 1 rfl) ?_
                  have rs9 : 0 ≤ (fI D H36 11 a0 16).toInt ∧ (fI D H36 11 a0 16).toInt ≤ 400 := S36.1.rng ga0 rfl (by decide) rfl
                  have rp9 : 0 ≤ (fI D H36 11 a0 10).toInt ∧ (fI D H36 11 a0 10).toInt ≤ 400 := S36.1.rng ga0 rfl (by decide) rfl
                  refine callV_Ei C S36 (c_X12_readSum l D G a0 ga0) kV_X12_211 ga0 (by omega) (by decide +kernel) dX12_readAtom_153 hl.1 rfl rfl (by decide) cd_X12_readSum ⟨Nat.le_of_ble_eq_true rfl, Nat.le_of_ble_eq_true rfl, Nat.le_of_ble_eq_true rfl, Nat.le_of_ble_eq_true rfl, Nat.le_of_ble_eq_true rfl⟩ (fun v38 H38 L38 S38 K38 q38 => ?_)
                  obtain ⟨q38, sa38, sx38, tq38⟩ := q38
                  have y38_13 : (fI D H38 11 a0 13).toInt = (fI D H36 11 a0 13).toInt := congrArg Int32.toInt (K38.fI ga0 rfl (by decide) (by decide +kernel))
                  have lq38 : Lq D H36 H38 a0 := tq38
                  have tk38 : Lq D s.heap H38 a0 := tk36.trans lq38
                  refine lv_if_ne (tgt := 161) hx hb dX12_readAtom_156 (by decide) (fun c39 => ?_) (fun c39 => ?_)
                  · have b39 : ¬ v38.toInt = (0 : Int32).toInt := fun z9 => c39 (i_eq.mpr z9)
                    refine lv_aload_n hx hb dX12_readAtom_161 rfl (lv_at hl 1 rfl) ?_
                    refine lv_iload_n hx hb dX12_readAtom_162 rfl (lv_at hl 0 rfl) ?_
                    refine lv_if_eq (tgt := 171) hx hb dX12_readAtom_163 (by decide) (fun c40 => ?_) (fun c40 => ?_)
                    · have b40 : v36.toInt = (0 : Int32).toInt := i_eq.mp c40
                      exact absurd b40 (by omega)
                    · have b40 : ¬ v36.toInt = (0 : Int32).toInt := fun z9 => c40 (i_eq.mpr z9)
                      refine lv_bipush (v := 13) hx hb dX12_readAtom_166 (by decide) ?_
                      refine lv_goto (tgt := 173) hx hb dX12_readAtom_168 (by decide) ?_
                      refine lv_iconst (v := 0) hx hb dX12_readAtom_173 (by decide) ?_
                      have rs9 : 0 ≤ (fI D H38 11 a0 16).toInt ∧ (fI D H38 11 a0 16).toInt ≤ 400 := S38.1.rng ga0 rfl (by decide) rfl
                      have rp9 : 0 ≤ (fI D H38 11 a0 10).toInt ∧ (fI D H38 11 a0 10).toInt ≤ 400 := S38.1.rng ga0 rfl (by decide) rfl
                      have k_13 : (13 : Int32).toInt = 13 := by decide
                      refine callV_Ev C S38 (c_X12_emits l D G a0 (13 : Int32) (0 : Int32) ga0) kV_X12_185 ga0 (by omega) (by decide +kernel) dX12_readAtom_174 hl.1 rfl rfl (by decide) cd_X12_emits ⟨Nat.le_of_ble_eq_true rfl, Nat.le_of_ble_eq_true rfl, Nat.le_of_ble_eq_true rfl, Nat.le_of_ble_eq_true rfl, Nat.le_of_ble_eq_true rfl⟩ (fun H41 L41 S41 K41 q41 => ?_)
                      obtain ⟨qa41, qb41, tq41⟩ := q41
                      have y41_10 : (fI D H41 11 a0 10).toInt = (fI D H38 11 a0 10).toInt := congrArg Int32.toInt (K41.fI ga0 rfl (by decide) (by decide +kernel))
                      have y41_12 : (fI D H41 11 a0 12).toInt = (fI D H38 11 a0 12).toInt := congrArg Int32.toInt (K41.fI ga0 rfl (by decide) (by decide +kernel))
                      have y41_13 : (fI D H41 11 a0 13).toInt = (fI D H38 11 a0 13).toInt := congrArg Int32.toInt (K41.fI ga0 rfl (by decide) (by decide +kernel))
                      have lq41 : Lq D H38 H41 a0 := tq41
                      have tk41 : Lq D s.heap H41 a0 := tk38.trans lq41
                      refine lv_iconst (v := 1) hx hb dX12_readAtom_177 (by decide) ?_
                      have k_1 : (1 : Int32).toInt = 1 := by decide
                      exact retE_z hQ C S41 hr dX12_readAtom_178 (z01 (by omega) (by omega)) (⟨by omega, fun _ => by omega, fun _ => (Ex.bin (((lq36.trans lq38).trans lq41).ex (sx34 (by omega)) (by omega)) ((lq41.ex (sx38 (by omega)) (by omega)).at (i' := (fI D H34 11 a0 16).toInt.toNat) (by omega) rfl) (by rw [qb41]; decide) rfl).at (by omega) (by omega), tk41⟩)
                  · have b39 : v38.toInt = (0 : Int32).toInt := i_eq.mp c39
                    refine lv_iconst (v := 0) hx hb dX12_readAtom_159 (by decide) ?_
                    exact retE_z hQ C S38 hr dX12_readAtom_160 (z01 (by omega) (by omega)) (⟨by omega, fun h9 => absurd h9 (by decide), fun h9 => absurd h9 (by decide), tk38⟩)
                · have b37 : v36.toInt = (0 : Int32).toInt := i_eq.mp c37
                  exact absurd b37 (by omega)
              · skip
                refine lv_istore_n (lv' := [(1, .int v36), (0, .ref a0)]) hx hb dX12_readAtom_138 rfl hl (by decide) rfl (fun ls hl => ?_)
                refine lv_iload_n hx hb dX12_readAtom_139 rfl (lv_at hl 0 rfl) ?_
                refine lv_if_ne (tgt := 152) hx hb dX12_readAtom_140 (by decide) (fun c42 => ?_) (fun c42 => ?_)
                · have b42 : ¬ v36.toInt = (0 : Int32).toInt := fun z9 => c42 (i_eq.mpr z9)
                  exact absurd b42 (by omega)
                · have b42 : v36.toInt = (0 : Int32).toInt := i_eq.mp c42
                  refine lv_aload_n hx hb dX12_readAtom_143 rfl (lv_at hl 1 rfl) ?_
                  refine lv_bipush (v := 62) hx hb dX12_readAtom_144 (by decide) ?_
                  have k_62 : (62 : Int32).toInt = 62 := by decide
                  refine callV_Ei C S36 (c_X12_sign l D G a0 (62 : Int32) ga0) kV_X12_193 ga0 (trivial) (by decide +kernel) dX12_readAtom_146 hl.1 rfl rfl (by decide) cd_X12_sign ⟨Nat.le_of_ble_eq_true rfl, Nat.le_of_ble_eq_true rfl, Nat.le_of_ble_eq_true rfl, Nat.le_of_ble_eq_true rfl, Nat.le_of_ble_eq_true rfl⟩ (fun v43 H43 L43 S43 K43 q43 => ?_)
                  have y43_13 : (fI D H43 11 a0 13).toInt = (fI D H36 11 a0 13).toInt := congrArg Int32.toInt (K43.fI ga0 rfl (by decide) (by decide +kernel))
                  have y43_16 : (fI D H43 11 a0 16).toInt = (fI D H36 11 a0 16).toInt := congrArg Int32.toInt (K43.fI ga0 rfl (by decide) (by decide +kernel))
                  have lq43 : Lq D H36 H43 a0 := Lq.keep S36.1 ga0 K43 (by decide +kernel) (by decide +kernel) (by decide +kernel)
                  have tk43 : Lq D s.heap H43 a0 := tk36.trans lq43
                  rcases q43 with q43 | q43
                  · skip
                    refine lv_if_eq (tgt := 159) hx hb dX12_readAtom_149 (by decide) (fun c44 => ?_) (fun c44 => ?_)
                    · have b44 : v43.toInt = (0 : Int32).toInt := i_eq.mp c44
                      exact absurd b44 (by omega)
                    · have b44 : ¬ v43.toInt = (0 : Int32).toInt := fun z9 => c44 (i_eq.mpr z9)
                      refine lv_aload_n hx hb dX12_readAtom_152 rfl (lv_at hl 1 rfl) ?_
                      have rs9 : 0 ≤ (fI D H43 11 a0 16).toInt ∧ (fI D H43 11 a0 16).toInt ≤ 400 := S43.1.rng ga0 rfl (by decide) rfl
                      have rp9 : 0 ≤ (fI D H43 11 a0 10).toInt ∧ (fI D H43 11 a0 10).toInt ≤ 400 := S43.1.rng ga0 rfl (by decide) rfl
                      refine callV_Ei C S43 (c_X12_readSum l D G a0 ga0) kV_X12_211 ga0 (by omega) (by decide +kernel) dX12_readAtom_153 hl.1 rfl rfl (by decide) cd_X12_readSum ⟨Nat.le_of_ble_eq_true rfl, Nat.le_of_ble_eq_true rfl, Nat.le_of_ble_eq_true rfl, Nat.le_of_ble_eq_true rfl, Nat.le_of_ble_eq_true rfl⟩ (fun v45 H45 L45 S45 K45 q45 => ?_)
                      obtain ⟨q45, sa45, sx45, tq45⟩ := q45
                      have y45_13 : (fI D H45 11 a0 13).toInt = (fI D H43 11 a0 13).toInt := congrArg Int32.toInt (K45.fI ga0 rfl (by decide) (by decide +kernel))
                      have lq45 : Lq D H43 H45 a0 := tq45
                      have tk45 : Lq D s.heap H45 a0 := tk43.trans lq45
                      refine lv_if_ne (tgt := 161) hx hb dX12_readAtom_156 (by decide) (fun c46 => ?_) (fun c46 => ?_)
                      · have b46 : ¬ v45.toInt = (0 : Int32).toInt := fun z9 => c46 (i_eq.mpr z9)
                        refine lv_aload_n hx hb dX12_readAtom_161 rfl (lv_at hl 1 rfl) ?_
                        refine lv_iload_n hx hb dX12_readAtom_162 rfl (lv_at hl 0 rfl) ?_
                        refine lv_if_eq (tgt := 171) hx hb dX12_readAtom_163 (by decide) (fun c47 => ?_) (fun c47 => ?_)
                        · have b47 : v36.toInt = (0 : Int32).toInt := i_eq.mp c47
                          refine lv_bipush (v := 14) hx hb dX12_readAtom_171 (by decide) ?_
                          refine lv_iconst (v := 0) hx hb dX12_readAtom_173 (by decide) ?_
                          have rs9 : 0 ≤ (fI D H45 11 a0 16).toInt ∧ (fI D H45 11 a0 16).toInt ≤ 400 := S45.1.rng ga0 rfl (by decide) rfl
                          have rp9 : 0 ≤ (fI D H45 11 a0 10).toInt ∧ (fI D H45 11 a0 10).toInt ≤ 400 := S45.1.rng ga0 rfl (by decide) rfl
                          have k_14 : (14 : Int32).toInt = 14 := by decide
                          refine callV_Ev C S45 (c_X12_emits l D G a0 (14 : Int32) (0 : Int32) ga0) kV_X12_185 ga0 (by omega) (by decide +kernel) dX12_readAtom_174 hl.1 rfl rfl (by decide) cd_X12_emits ⟨Nat.le_of_ble_eq_true rfl, Nat.le_of_ble_eq_true rfl, Nat.le_of_ble_eq_true rfl, Nat.le_of_ble_eq_true rfl, Nat.le_of_ble_eq_true rfl⟩ (fun H48 L48 S48 K48 q48 => ?_)
                          obtain ⟨qa48, qb48, tq48⟩ := q48
                          have y48_10 : (fI D H48 11 a0 10).toInt = (fI D H45 11 a0 10).toInt := congrArg Int32.toInt (K48.fI ga0 rfl (by decide) (by decide +kernel))
                          have y48_12 : (fI D H48 11 a0 12).toInt = (fI D H45 11 a0 12).toInt := congrArg Int32.toInt (K48.fI ga0 rfl (by decide) (by decide +kernel))
                          have y48_13 : (fI D H48 11 a0 13).toInt = (fI D H45 11 a0 13).toInt := congrArg Int32.toInt (K48.fI ga0 rfl (by decide) (by decide +kernel))
                          have lq48 : Lq D H45 H48 a0 := tq48
                          have tk48 : Lq D s.heap H48 a0 := tk45.trans lq48
                          refine lv_iconst (v := 1) hx hb dX12_readAtom_177 (by decide) ?_
                          have k_1 : (1 : Int32).toInt = 1 := by decide
                          exact retE_z hQ C S48 hr dX12_readAtom_178 (z01 (by omega) (by omega)) (⟨by omega, fun _ => by omega, fun _ => (Ex.bin ((((lq36.trans lq43).trans lq45).trans lq48).ex (sx34 (by omega)) (by omega)) ((lq48.ex (sx45 (by omega)) (by omega)).at (i' := (fI D H34 11 a0 16).toInt.toNat) (by omega) rfl) (by rw [qb48]; decide) rfl).at (by omega) (by omega), tk48⟩)
                        · have b47 : ¬ v36.toInt = (0 : Int32).toInt := fun z9 => c47 (i_eq.mpr z9)
                          exact absurd b47 (by omega)
                      · have b46 : v45.toInt = (0 : Int32).toInt := i_eq.mp c46
                        refine lv_iconst (v := 0) hx hb dX12_readAtom_159 (by decide) ?_
                        exact retE_z hQ C S45 hr dX12_readAtom_160 (z01 (by omega) (by omega)) (⟨by omega, fun h9 => absurd h9 (by decide), fun h9 => absurd h9 (by decide), tk45⟩)
                  · skip
                    refine lv_if_eq (tgt := 159) hx hb dX12_readAtom_149 (by decide) (fun c49 => ?_) (fun c49 => ?_)
                    · have b49 : v43.toInt = (0 : Int32).toInt := i_eq.mp c49
                      refine lv_iconst (v := 0) hx hb dX12_readAtom_159 (by decide) ?_
                      exact retE_z hQ C S43 hr dX12_readAtom_160 (z01 (by omega) (by omega)) (⟨by omega, fun h9 => absurd h9 (by decide), fun h9 => absurd h9 (by decide), tk43⟩)
                    · have b49 : ¬ v43.toInt = (0 : Int32).toInt := fun z9 => c49 (i_eq.mpr z9)
                      exact absurd b49 (by omega)
            · have b35 : v34.toInt = (0 : Int32).toInt := i_eq.mp c35
              refine lv_iconst (v := 0) hx hb dX12_readAtom_130 (by decide) ?_
              exact retE_z hQ C S34 hr dX12_readAtom_131 (z01 (by omega) (by omega)) (⟨by omega, fun h9 => absurd h9 (by decide), fun h9 => absurd h9 (by decide), tk34⟩)
          · have b33 : ¬ v32.toInt = (0 : Int32).toInt := fun z9 => c33 (i_eq.mpr z9)
            refine lv_iconst (v := 1) hx hb dX12_readAtom_121 (by decide) ?_
            have k_1 : (1 : Int32).toInt = 1 := by decide
            exact retE_z hQ C S32 hr dX12_readAtom_122 (z01 (by omega) (by omega)) (⟨by omega, fun _ => by omega, fun _ => (sx32 (by omega)).at (by omega) rfl, tk32⟩)
        · have b31 : ¬ v17.toInt = (0 : Int32).toInt := fun z9 => c31 (i_eq.mpr z9)
          exact absurd b31 (by omega)
    · have b15 : ¬ v1.toInt = (0 : Int32).toInt := fun z9 => c15 (i_eq.mpr z9)
      exact absurd b15 (by omega)

set_option maxRecDepth 100000 in
set_option maxHeartbeats 4000000 in
theorem c_X12_readAllOf_d2 (l : Launch) (D : DD) (G : Nat → Nat) (a0 : Nat) (ga0 : G a0 = 30) : CE l D G yX12_readAllOf cX12_readAllOf 1 (some .boolean) 20 [.ref a0] (fun H => (fI D H 11 a0 13).toInt = 2 ∧ (fI D H 11 a0 16).toInt + 3 ≤ (fI D H 11 a0 10).toInt) [(30, 10), (30, 12), (30, 16), (31, 0), (30, 13)] (xI (fun H r H1 => (0 ≤ r.toInt ∧ r.toInt ≤ 1) ∧ (r.toInt = 1 → (fI D H1 11 a0 16).toInt - (fI D H 11 a0 16).toInt ≤ (fI D H1 11 a0 10).toInt - (fI D H 11 a0 10).toInt ∧ (fI D H1 11 a0 13).toInt = (fI D H 11 a0 13).toInt ∧ (fI D H 11 a0 10).toInt ≤ (fI D H1 11 a0 10).toInt) ∧ (r.toInt = 1 → Ex (Cs D H1 a0) (fI D H 11 a0 16).toInt.toNat (fI D H1 11 a0 16).toInt.toNat) ∧ Lq D H H1 a0)) := by
  refine enter (by decide) (Nat.le_of_ble_eq_true rfl) ?_
  intro p e s m args below meth c ls Q hA hQ C hr hO hpre hl
  have hx := C.1
  have hb := C.2.1
  have S : Sd D G [(30, 10), (30, 12), (30, 16), (31, 0), (30, 13)] s.heap s.heap [] := Sd.start hO
  have hl : lv_has ls 1 [(0, .ref a0)] := hl
  have rs0 : 0 ≤ (fI D s.heap 11 a0 16).toInt ∧ (fI D s.heap 11 a0 16).toInt ≤ 400 := hO.rng ga0 rfl (by decide) rfl
  have rp0 : 0 ≤ (fI D s.heap 11 a0 10).toInt ∧ (fI D s.heap 11 a0 10).toInt ≤ 400 := hO.rng ga0 rfl (by decide) rfl
  have tk0 : Lq D s.heap s.heap a0 := Lq.refl
  refine lv_aload_n hx hb dX12_readAllOf_0 rfl (lv_at hl 0 rfl) ?_
  refine callV_Ei C S (c_X12_readAtom_d2 l D G a0 ga0) kV_X12_205 ga0 (hpre) (by decide +kernel) dX12_readAllOf_1 hl.1 rfl rfl (by decide) cd_X12_readAtom ⟨Nat.le_of_ble_eq_true rfl, Nat.le_of_ble_eq_true rfl, Nat.le_of_ble_eq_true rfl, Nat.le_of_ble_eq_true rfl, Nat.le_of_ble_eq_true rfl⟩ (fun v1 H1 L1 S1 K1 q1 => ?_)
  obtain ⟨q1, sa1, sx1, tq1⟩ := q1
  have lq1 : Lq D s.heap H1 a0 := tq1
  have tk1 : Lq D s.heap H1 a0 := tk0.trans lq1
  have k_0 : (0 : Int32).toInt = 0 := by decide
  refine lv_if_ne (tgt := 9) hx hb dX12_readAllOf_4 (by decide) (fun c2 => ?_) (fun c2 => ?_)
  · have b2 : ¬ v1.toInt = (0 : Int32).toInt := fun z9 => c2 (i_eq.mpr z9)
    have Lp9 : ∀ (n : Nat)  (H_9 : Heap) (L_9 : List Loc) (ls : Array Slot), (Sd D G [(30, 10), (30, 12), (30, 16), (31, 0), (30, 13)] s.heap H_9 L_9) → (Ex (Cs D H_9 a0) (fI D s.heap 11 a0 16).toInt.toNat (fI D H_9 11 a0 16).toInt.toNat) → ((fI D H_9 11 a0 16).toInt - (fI D s.heap 11 a0 16).toInt ≤ (fI D H_9 11 a0 10).toInt - (fI D s.heap 11 a0 10).toInt ∧ (fI D H_9 11 a0 13).toInt = (fI D s.heap 11 a0 13).toInt ∧ (fI D s.heap 11 a0 10).toInt ≤ (fI D H_9 11 a0 10).toInt) → (Lq D s.heap H_9 a0) → 401 - (fI D H_9 11 a0 10).toInt ≤ (n : Int) → lv_has ls 1 [(0, .ref a0)] → W p l e (rmU 20 0 0) s m args below meth c H_9 L_9 0 0 Q (F0 m 9 ls []) := by
      intro n
      induction n with
      | zero =>
        intro H_9 L_9 ls S_9 u9_0 u9_1 u9_2 hn hl
        have rz : 0 ≤ (fI D H_9 11 a0 10).toInt ∧ (fI D H_9 11 a0 10).toInt ≤ 400 := S_9.1.rng ga0 rfl (by decide) rfl
        exact absurd hn (by omega)
      | succ n ih9 =>
        intro H_9 L_9 ls S_9 u9_0 u9_1 u9_2 hn hl
        have rs9 : 0 ≤ (fI D H_9 11 a0 16).toInt ∧ (fI D H_9 11 a0 16).toInt ≤ 400 := S_9.1.rng ga0 rfl (by decide) rfl
        have rp9 : 0 ≤ (fI D H_9 11 a0 10).toInt ∧ (fI D H_9 11 a0 10).toInt ≤ 400 := S_9.1.rng ga0 rfl (by decide) rfl
        refine lv_aload_n hx hb dX12_readAllOf_9 rfl (lv_at hl 0 rfl) ?_
        refine q_lds C ks_X12_214 dX12_readAllOf_10 (fun a3 ha3 => ?_)
        refine callV_Ei C S_9 (c_X12_passes_w l D G a0 a3 3 ga0 ha3) kV_X12_120 ga0 (trivial) (by decide +kernel) dX12_readAllOf_12 hl.1 rfl rfl (by decide) cd_X12_passes ⟨Nat.le_of_ble_eq_true rfl, Nat.le_of_ble_eq_true rfl, Nat.le_of_ble_eq_true rfl, Nat.le_of_ble_eq_true rfl, Nat.le_of_ble_eq_true rfl⟩ (fun v4 H4 L4 S4 K4 q4 => ?_)
        have y4_13 : (fI D H4 11 a0 13).toInt = (fI D H_9 11 a0 13).toInt := congrArg Int32.toInt (K4.fI ga0 rfl (by decide) (by decide +kernel))
        have y4_16 : (fI D H4 11 a0 16).toInt = (fI D H_9 11 a0 16).toInt := congrArg Int32.toInt (K4.fI ga0 rfl (by decide) (by decide +kernel))
        have lq4 : Lq D H_9 H4 a0 := Lq.keep S_9.1 ga0 K4 (by decide +kernel) (by decide +kernel) (by decide +kernel)
        have tk4 : Lq D s.heap H4 a0 := u9_2.trans lq4
        rcases q4 with q4 | q4
        · skip
          refine lv_if_eq (tgt := 37) hx hb dX12_readAllOf_15 (by decide) (fun c5 => ?_) (fun c5 => ?_)
          · have b5 : v4.toInt = (0 : Int32).toInt := i_eq.mp c5
            exact absurd b5 (by omega)
          · have b5 : ¬ v4.toInt = (0 : Int32).toInt := fun z9 => c5 (i_eq.mpr z9)
            refine lv_aload_n hx hb dX12_readAllOf_18 rfl (lv_at hl 0 rfl) ?_
            have rs9 : 0 ≤ (fI D H4 11 a0 16).toInt ∧ (fI D H4 11 a0 16).toInt ≤ 400 := S4.1.rng ga0 rfl (by decide) rfl
            have rp9 : 0 ≤ (fI D H4 11 a0 10).toInt ∧ (fI D H4 11 a0 10).toInt ≤ 400 := S4.1.rng ga0 rfl (by decide) rfl
            refine callV_Ei C S4 (c_X12_readAtom_d2 l D G a0 ga0) kV_X12_205 ga0 (⟨by omega, by omega⟩) (by decide +kernel) dX12_readAllOf_19 hl.1 rfl rfl (by decide) cd_X12_readAtom ⟨Nat.le_of_ble_eq_true rfl, Nat.le_of_ble_eq_true rfl, Nat.le_of_ble_eq_true rfl, Nat.le_of_ble_eq_true rfl, Nat.le_of_ble_eq_true rfl⟩ (fun v6 H6 L6 S6 K6 q6 => ?_)
            obtain ⟨q6, sa6, sx6, tq6⟩ := q6
            have lq6 : Lq D H4 H6 a0 := tq6
            have tk6 : Lq D s.heap H6 a0 := tk4.trans lq6
            refine lv_if_ne (tgt := 27) hx hb dX12_readAllOf_22 (by decide) (fun c7 => ?_) (fun c7 => ?_)
            · have b7 : ¬ v6.toInt = (0 : Int32).toInt := fun z9 => c7 (i_eq.mpr z9)
              refine lv_aload_n hx hb dX12_readAllOf_27 rfl (lv_at hl 0 rfl) ?_
              refine lv_bipush (v := 16) hx hb dX12_readAllOf_28 (by decide) ?_
              refine lv_iconst (v := 0) hx hb dX12_readAllOf_30 (by decide) ?_
              have rs9 : 0 ≤ (fI D H6 11 a0 16).toInt ∧ (fI D H6 11 a0 16).toInt ≤ 400 := S6.1.rng ga0 rfl (by decide) rfl
              have rp9 : 0 ≤ (fI D H6 11 a0 10).toInt ∧ (fI D H6 11 a0 10).toInt ≤ 400 := S6.1.rng ga0 rfl (by decide) rfl
              have k_16 : (16 : Int32).toInt = 16 := by decide
              refine callV_Ev C S6 (c_X12_emits l D G a0 (16 : Int32) (0 : Int32) ga0) kV_X12_185 ga0 (by omega) (by decide +kernel) dX12_readAllOf_31 hl.1 rfl rfl (by decide) cd_X12_emits ⟨Nat.le_of_ble_eq_true rfl, Nat.le_of_ble_eq_true rfl, Nat.le_of_ble_eq_true rfl, Nat.le_of_ble_eq_true rfl, Nat.le_of_ble_eq_true rfl⟩ (fun H8 L8 S8 K8 q8 => ?_)
              obtain ⟨qa8, qb8, tq8⟩ := q8
              have y8_10 : (fI D H8 11 a0 10).toInt = (fI D H6 11 a0 10).toInt := congrArg Int32.toInt (K8.fI ga0 rfl (by decide) (by decide +kernel))
              have y8_12 : (fI D H8 11 a0 12).toInt = (fI D H6 11 a0 12).toInt := congrArg Int32.toInt (K8.fI ga0 rfl (by decide) (by decide +kernel))
              have y8_13 : (fI D H8 11 a0 13).toInt = (fI D H6 11 a0 13).toInt := congrArg Int32.toInt (K8.fI ga0 rfl (by decide) (by decide +kernel))
              have lq8 : Lq D H6 H8 a0 := tq8
              have tk8 : Lq D s.heap H8 a0 := tk6.trans lq8
              refine lv_goto (tgt := 9) hx hb dX12_readAllOf_34 (by decide) ?_
              have e9 : Ex (Cs D H8 a0) (fI D s.heap 11 a0 16).toInt.toNat (fI D H8 11 a0 16).toInt.toNat := (Ex.bin (((lq4.trans lq6).trans lq8).ex u9_0 (by omega)) ((lq8.ex (sx6 (by omega)) (by omega)).at (i' := (fI D H_9 11 a0 16).toInt.toNat) (by omega) rfl) (by rw [qb8]; decide) rfl).at (by omega) (by omega)
              exact ih9  H8 L8 ls S8 e9 (by omega) tk8 (by omega) (lv_sub hl [0] rfl)
            · have b7 : v6.toInt = (0 : Int32).toInt := i_eq.mp c7
              refine lv_iconst (v := 0) hx hb dX12_readAllOf_25 (by decide) ?_
              exact retE_z hQ C S6 hr dX12_readAllOf_26 (z01 (by omega) (by omega)) (⟨by omega, fun h9 => absurd h9 (by decide), fun h9 => absurd h9 (by decide), tk6⟩)
        · skip
          refine lv_if_eq (tgt := 37) hx hb dX12_readAllOf_15 (by decide) (fun c9 => ?_) (fun c9 => ?_)
          · have b9 : v4.toInt = (0 : Int32).toInt := i_eq.mp c9
            refine lv_iconst (v := 1) hx hb dX12_readAllOf_37 (by decide) ?_
            have k_1 : (1 : Int32).toInt = 1 := by decide
            exact retE_z hQ C S4 hr dX12_readAllOf_38 (z01 (by omega) (by omega)) (⟨by omega, fun _ => by omega, fun _ => (lq4.ex u9_0 (by omega)).at (by omega) (by omega), tk4⟩)
          · have b9 : ¬ v4.toInt = (0 : Int32).toInt := fun z9 => c9 (i_eq.mpr z9)
            exact absurd b9 (by omega)
    have ex0 := sx1 (by omega)
    have rn : 0 ≤ (fI D H1 11 a0 10).toInt ∧ (fI D H1 11 a0 10).toInt ≤ 400 := S1.1.rng ga0 rfl (by decide) rfl
    exact Lp9 402  H1 L1 ls S1 (ex0.at (by omega) rfl) (by omega) tk1  (by omega) (lv_sub hl [0] rfl)
  · have b2 : v1.toInt = (0 : Int32).toInt := i_eq.mp c2
    refine lv_iconst (v := 0) hx hb dX12_readAllOf_7 (by decide) ?_
    exact retE_z hQ C S1 hr dX12_readAllOf_8 (z01 (by omega) (by omega)) (⟨by omega, fun h9 => absurd h9 (by decide), fun h9 => absurd h9 (by decide), tk1⟩)

set_option maxRecDepth 100000 in
set_option maxHeartbeats 4000000 in
theorem c_X12_readCond_d2 (l : Launch) (D : DD) (G : Nat → Nat) (a0 : Nat) (ga0 : G a0 = 30) : CE l D G yX12_readCond cX12_readCond 1 (some .boolean) 21 [.ref a0] (fun H => (fI D H 11 a0 13).toInt = 2 ∧ (fI D H 11 a0 16).toInt + 3 ≤ (fI D H 11 a0 10).toInt) [(30, 10), (30, 12), (30, 16), (31, 0), (30, 13)] (xI (fun H r H1 => (0 ≤ r.toInt ∧ r.toInt ≤ 1) ∧ (r.toInt = 1 → (fI D H1 11 a0 16).toInt - (fI D H 11 a0 16).toInt ≤ (fI D H1 11 a0 10).toInt - (fI D H 11 a0 10).toInt ∧ (fI D H1 11 a0 13).toInt = (fI D H 11 a0 13).toInt ∧ (fI D H 11 a0 10).toInt ≤ (fI D H1 11 a0 10).toInt) ∧ (r.toInt = 1 → Ex (Cs D H1 a0) (fI D H 11 a0 16).toInt.toNat (fI D H1 11 a0 16).toInt.toNat) ∧ Lq D H H1 a0)) := by
  refine enter (by decide) (Nat.le_of_ble_eq_true rfl) ?_
  intro p e s m args below meth c ls Q hA hQ C hr hO hpre hl
  have hx := C.1
  have hb := C.2.1
  have S : Sd D G [(30, 10), (30, 12), (30, 16), (31, 0), (30, 13)] s.heap s.heap [] := Sd.start hO
  have hl : lv_has ls 1 [(0, .ref a0)] := hl
  have rs0 : 0 ≤ (fI D s.heap 11 a0 16).toInt ∧ (fI D s.heap 11 a0 16).toInt ≤ 400 := hO.rng ga0 rfl (by decide) rfl
  have rp0 : 0 ≤ (fI D s.heap 11 a0 10).toInt ∧ (fI D s.heap 11 a0 10).toInt ≤ 400 := hO.rng ga0 rfl (by decide) rfl
  have tk0 : Lq D s.heap s.heap a0 := Lq.refl
  refine lv_aload_n hx hb dX12_readCond_0 rfl (lv_at hl 0 rfl) ?_
  refine callV_Ei C S (c_X12_readAllOf_d2 l D G a0 ga0) kV_X12_216 ga0 (hpre) (by decide +kernel) dX12_readCond_1 hl.1 rfl rfl (by decide) cd_X12_readAllOf ⟨Nat.le_of_ble_eq_true rfl, Nat.le_of_ble_eq_true rfl, Nat.le_of_ble_eq_true rfl, Nat.le_of_ble_eq_true rfl, Nat.le_of_ble_eq_true rfl⟩ (fun v1 H1 L1 S1 K1 q1 => ?_)
  obtain ⟨q1, sa1, sx1, tq1⟩ := q1
  have lq1 : Lq D s.heap H1 a0 := tq1
  have tk1 : Lq D s.heap H1 a0 := tk0.trans lq1
  have k_0 : (0 : Int32).toInt = 0 := by decide
  refine lv_if_ne (tgt := 9) hx hb dX12_readCond_4 (by decide) (fun c2 => ?_) (fun c2 => ?_)
  · have b2 : ¬ v1.toInt = (0 : Int32).toInt := fun z9 => c2 (i_eq.mpr z9)
    have Lp9 : ∀ (n : Nat)  (H_9 : Heap) (L_9 : List Loc) (ls : Array Slot), (Sd D G [(30, 10), (30, 12), (30, 16), (31, 0), (30, 13)] s.heap H_9 L_9) → (Ex (Cs D H_9 a0) (fI D s.heap 11 a0 16).toInt.toNat (fI D H_9 11 a0 16).toInt.toNat) → ((fI D H_9 11 a0 16).toInt - (fI D s.heap 11 a0 16).toInt ≤ (fI D H_9 11 a0 10).toInt - (fI D s.heap 11 a0 10).toInt ∧ (fI D H_9 11 a0 13).toInt = (fI D s.heap 11 a0 13).toInt ∧ (fI D s.heap 11 a0 10).toInt ≤ (fI D H_9 11 a0 10).toInt) → (Lq D s.heap H_9 a0) → 401 - (fI D H_9 11 a0 10).toInt ≤ (n : Int) → lv_has ls 1 [(0, .ref a0)] → W p l e (rmU 21 0 0) s m args below meth c H_9 L_9 0 0 Q (F0 m 9 ls []) := by
      intro n
      induction n with
      | zero =>
        intro H_9 L_9 ls S_9 u9_0 u9_1 u9_2 hn hl
        have rz : 0 ≤ (fI D H_9 11 a0 10).toInt ∧ (fI D H_9 11 a0 10).toInt ≤ 400 := S_9.1.rng ga0 rfl (by decide) rfl
        exact absurd hn (by omega)
      | succ n ih9 =>
        intro H_9 L_9 ls S_9 u9_0 u9_1 u9_2 hn hl
        have rs9 : 0 ≤ (fI D H_9 11 a0 16).toInt ∧ (fI D H_9 11 a0 16).toInt ≤ 400 := S_9.1.rng ga0 rfl (by decide) rfl
        have rp9 : 0 ≤ (fI D H_9 11 a0 10).toInt ∧ (fI D H_9 11 a0 10).toInt ≤ 400 := S_9.1.rng ga0 rfl (by decide) rfl
        refine lv_aload_n hx hb dX12_readCond_9 rfl (lv_at hl 0 rfl) ?_
        refine q_lds C ks_X12_219 dX12_readCond_10 (fun a3 ha3 => ?_)
        refine callV_Ei C S_9 (c_X12_passes_w l D G a0 a3 2 ga0 ha3) kV_X12_120 ga0 (trivial) (by decide +kernel) dX12_readCond_12 hl.1 rfl rfl (by decide) cd_X12_passes ⟨Nat.le_of_ble_eq_true rfl, Nat.le_of_ble_eq_true rfl, Nat.le_of_ble_eq_true rfl, Nat.le_of_ble_eq_true rfl, Nat.le_of_ble_eq_true rfl⟩ (fun v4 H4 L4 S4 K4 q4 => ?_)
        have y4_13 : (fI D H4 11 a0 13).toInt = (fI D H_9 11 a0 13).toInt := congrArg Int32.toInt (K4.fI ga0 rfl (by decide) (by decide +kernel))
        have y4_16 : (fI D H4 11 a0 16).toInt = (fI D H_9 11 a0 16).toInt := congrArg Int32.toInt (K4.fI ga0 rfl (by decide) (by decide +kernel))
        have lq4 : Lq D H_9 H4 a0 := Lq.keep S_9.1 ga0 K4 (by decide +kernel) (by decide +kernel) (by decide +kernel)
        have tk4 : Lq D s.heap H4 a0 := u9_2.trans lq4
        rcases q4 with q4 | q4
        · skip
          refine lv_if_eq (tgt := 37) hx hb dX12_readCond_15 (by decide) (fun c5 => ?_) (fun c5 => ?_)
          · have b5 : v4.toInt = (0 : Int32).toInt := i_eq.mp c5
            exact absurd b5 (by omega)
          · have b5 : ¬ v4.toInt = (0 : Int32).toInt := fun z9 => c5 (i_eq.mpr z9)
            refine lv_aload_n hx hb dX12_readCond_18 rfl (lv_at hl 0 rfl) ?_
            have rs9 : 0 ≤ (fI D H4 11 a0 16).toInt ∧ (fI D H4 11 a0 16).toInt ≤ 400 := S4.1.rng ga0 rfl (by decide) rfl
            have rp9 : 0 ≤ (fI D H4 11 a0 10).toInt ∧ (fI D H4 11 a0 10).toInt ≤ 400 := S4.1.rng ga0 rfl (by decide) rfl
            refine callV_Ei C S4 (c_X12_readAllOf_d2 l D G a0 ga0) kV_X12_216 ga0 (⟨by omega, by omega⟩) (by decide +kernel) dX12_readCond_19 hl.1 rfl rfl (by decide) cd_X12_readAllOf ⟨Nat.le_of_ble_eq_true rfl, Nat.le_of_ble_eq_true rfl, Nat.le_of_ble_eq_true rfl, Nat.le_of_ble_eq_true rfl, Nat.le_of_ble_eq_true rfl⟩ (fun v6 H6 L6 S6 K6 q6 => ?_)
            obtain ⟨q6, sa6, sx6, tq6⟩ := q6
            have lq6 : Lq D H4 H6 a0 := tq6
            have tk6 : Lq D s.heap H6 a0 := tk4.trans lq6
            refine lv_if_ne (tgt := 27) hx hb dX12_readCond_22 (by decide) (fun c7 => ?_) (fun c7 => ?_)
            · have b7 : ¬ v6.toInt = (0 : Int32).toInt := fun z9 => c7 (i_eq.mpr z9)
              refine lv_aload_n hx hb dX12_readCond_27 rfl (lv_at hl 0 rfl) ?_
              refine lv_bipush (v := 17) hx hb dX12_readCond_28 (by decide) ?_
              refine lv_iconst (v := 0) hx hb dX12_readCond_30 (by decide) ?_
              have rs9 : 0 ≤ (fI D H6 11 a0 16).toInt ∧ (fI D H6 11 a0 16).toInt ≤ 400 := S6.1.rng ga0 rfl (by decide) rfl
              have rp9 : 0 ≤ (fI D H6 11 a0 10).toInt ∧ (fI D H6 11 a0 10).toInt ≤ 400 := S6.1.rng ga0 rfl (by decide) rfl
              have k_17 : (17 : Int32).toInt = 17 := by decide
              refine callV_Ev C S6 (c_X12_emits l D G a0 (17 : Int32) (0 : Int32) ga0) kV_X12_185 ga0 (by omega) (by decide +kernel) dX12_readCond_31 hl.1 rfl rfl (by decide) cd_X12_emits ⟨Nat.le_of_ble_eq_true rfl, Nat.le_of_ble_eq_true rfl, Nat.le_of_ble_eq_true rfl, Nat.le_of_ble_eq_true rfl, Nat.le_of_ble_eq_true rfl⟩ (fun H8 L8 S8 K8 q8 => ?_)
              obtain ⟨qa8, qb8, tq8⟩ := q8
              have y8_10 : (fI D H8 11 a0 10).toInt = (fI D H6 11 a0 10).toInt := congrArg Int32.toInt (K8.fI ga0 rfl (by decide) (by decide +kernel))
              have y8_12 : (fI D H8 11 a0 12).toInt = (fI D H6 11 a0 12).toInt := congrArg Int32.toInt (K8.fI ga0 rfl (by decide) (by decide +kernel))
              have y8_13 : (fI D H8 11 a0 13).toInt = (fI D H6 11 a0 13).toInt := congrArg Int32.toInt (K8.fI ga0 rfl (by decide) (by decide +kernel))
              have lq8 : Lq D H6 H8 a0 := tq8
              have tk8 : Lq D s.heap H8 a0 := tk6.trans lq8
              refine lv_goto (tgt := 9) hx hb dX12_readCond_34 (by decide) ?_
              have e9 : Ex (Cs D H8 a0) (fI D s.heap 11 a0 16).toInt.toNat (fI D H8 11 a0 16).toInt.toNat := (Ex.bin (((lq4.trans lq6).trans lq8).ex u9_0 (by omega)) ((lq8.ex (sx6 (by omega)) (by omega)).at (i' := (fI D H_9 11 a0 16).toInt.toNat) (by omega) rfl) (by rw [qb8]; decide) rfl).at (by omega) (by omega)
              exact ih9  H8 L8 ls S8 e9 (by omega) tk8 (by omega) (lv_sub hl [0] rfl)
            · have b7 : v6.toInt = (0 : Int32).toInt := i_eq.mp c7
              refine lv_iconst (v := 0) hx hb dX12_readCond_25 (by decide) ?_
              exact retE_z hQ C S6 hr dX12_readCond_26 (z01 (by omega) (by omega)) (⟨by omega, fun h9 => absurd h9 (by decide), fun h9 => absurd h9 (by decide), tk6⟩)
        · skip
          refine lv_if_eq (tgt := 37) hx hb dX12_readCond_15 (by decide) (fun c9 => ?_) (fun c9 => ?_)
          · have b9 : v4.toInt = (0 : Int32).toInt := i_eq.mp c9
            refine lv_iconst (v := 1) hx hb dX12_readCond_37 (by decide) ?_
            have k_1 : (1 : Int32).toInt = 1 := by decide
            exact retE_z hQ C S4 hr dX12_readCond_38 (z01 (by omega) (by omega)) (⟨by omega, fun _ => by omega, fun _ => (lq4.ex u9_0 (by omega)).at (by omega) (by omega), tk4⟩)
          · have b9 : ¬ v4.toInt = (0 : Int32).toInt := fun z9 => c9 (i_eq.mpr z9)
            exact absurd b9 (by omega)
    have ex0 := sx1 (by omega)
    have rn : 0 ≤ (fI D H1 11 a0 10).toInt ∧ (fI D H1 11 a0 10).toInt ≤ 400 := S1.1.rng ga0 rfl (by decide) rfl
    exact Lp9 402  H1 L1 ls S1 (ex0.at (by omega) rfl) (by omega) tk1  (by omega) (lv_sub hl [0] rfl)
  · have b2 : v1.toInt = (0 : Int32).toInt := i_eq.mp c2
    refine lv_iconst (v := 0) hx hb dX12_readCond_7 (by decide) ?_
    exact retE_z hQ C S1 hr dX12_readCond_8 (z01 (by omega) (by omega)) (⟨by omega, fun h9 => absurd h9 (by decide), fun h9 => absurd h9 (by decide), tk1⟩)

set_option maxRecDepth 100000 in
set_option maxHeartbeats 4000000 in
theorem c_X12_readAtom_d1 (l : Launch) (D : DD) (G : Nat → Nat) (a0 : Nat) (ga0 : G a0 = 30) : CE l D G yX12_readAtom cX12_readAtom 2 (some .boolean) 22 [.ref a0] (fun H => (fI D H 11 a0 13).toInt = 1 ∧ (fI D H 11 a0 16).toInt + 3 ≤ (fI D H 11 a0 10).toInt) [(30, 10), (30, 12), (30, 16), (31, 0), (30, 13)] (xI (fun H r H1 => (0 ≤ r.toInt ∧ r.toInt ≤ 1) ∧ (r.toInt = 1 → (fI D H1 11 a0 16).toInt - (fI D H 11 a0 16).toInt ≤ (fI D H1 11 a0 10).toInt - (fI D H 11 a0 10).toInt ∧ (fI D H1 11 a0 13).toInt = (fI D H 11 a0 13).toInt ∧ (fI D H 11 a0 10).toInt ≤ (fI D H1 11 a0 10).toInt) ∧ (r.toInt = 1 → Ex (Cs D H1 a0) (fI D H 11 a0 16).toInt.toNat (fI D H1 11 a0 16).toInt.toNat) ∧ Lq D H H1 a0)) := by
  refine enter (by decide) (Nat.le_of_ble_eq_true rfl) ?_
  intro p e s m args below meth c ls Q hA hQ C hr hO hpre hl
  have hx := C.1
  have hb := C.2.1
  have S : Sd D G [(30, 10), (30, 12), (30, 16), (31, 0), (30, 13)] s.heap s.heap [] := Sd.start hO
  have hl : lv_has ls 2 [(0, .ref a0)] := hl
  have rs0 : 0 ≤ (fI D s.heap 11 a0 16).toInt ∧ (fI D s.heap 11 a0 16).toInt ≤ 400 := hO.rng ga0 rfl (by decide) rfl
  have rp0 : 0 ≤ (fI D s.heap 11 a0 10).toInt ∧ (fI D s.heap 11 a0 10).toInt ≤ 400 := hO.rng ga0 rfl (by decide) rfl
  have tk0 : Lq D s.heap s.heap a0 := Lq.refl
  refine lv_aload_n hx hb dX12_readAtom_0 rfl (lv_at hl 0 rfl) ?_
  refine lv_bipush (v := 40) hx hb dX12_readAtom_1 (by decide) ?_
  have k_40 : (40 : Int32).toInt = 40 := by decide
  refine callV_Ei C S (c_X12_sign l D G a0 (40 : Int32) ga0) kV_X12_193 ga0 (trivial) (by decide +kernel) dX12_readAtom_3 hl.1 rfl rfl (by decide) cd_X12_sign ⟨Nat.le_of_ble_eq_true rfl, Nat.le_of_ble_eq_true rfl, Nat.le_of_ble_eq_true rfl, Nat.le_of_ble_eq_true rfl, Nat.le_of_ble_eq_true rfl⟩ (fun v1 H1 L1 S1 K1 q1 => ?_)
  have y1_13 : (fI D H1 11 a0 13).toInt = (fI D s.heap 11 a0 13).toInt := congrArg Int32.toInt (K1.fI ga0 rfl (by decide) (by decide +kernel))
  have y1_16 : (fI D H1 11 a0 16).toInt = (fI D s.heap 11 a0 16).toInt := congrArg Int32.toInt (K1.fI ga0 rfl (by decide) (by decide +kernel))
  have lq1 : Lq D s.heap H1 a0 := Lq.keep S.1 ga0 K1 (by decide +kernel) (by decide +kernel) (by decide +kernel)
  have tk1 : Lq D s.heap H1 a0 := tk0.trans lq1
  rcases q1 with q1 | q1
  · skip
    have k_0 : (0 : Int32).toInt = 0 := by decide
    refine lv_if_eq (tgt := 56) hx hb dX12_readAtom_6 (by decide) (fun c2 => ?_) (fun c2 => ?_)
    · have b2 : v1.toInt = (0 : Int32).toInt := i_eq.mp c2
      exact absurd b2 (by omega)
    · have b2 : ¬ v1.toInt = (0 : Int32).toInt := fun z9 => c2 (i_eq.mpr z9)
      refine lv_aload_n hx hb dX12_readAtom_9 rfl (lv_at hl 0 rfl) ?_
      have dd : (fI D H1 11 a0 13).toInt = 1 := by omega
      refine q_gi (T := TX12) C S1.1 ga0 13 kF_X12_197 dX12_readAtom_10 rfl rfl (by decide) rfl (by decide) rfl ?_
      have r3 : 0 ≤ (fI D H1 11 a0 13).toInt ∧ (fI D H1 11 a0 13).toInt ≤ 6 := S1.1.rng ga0 rfl (by decide) rfl
      refine lv_bipush (v := 6) hx hb dX12_readAtom_13 (by decide) ?_
      have k_6 : (6 : Int32).toInt = 6 := by decide
      refine lv_icmp_ne (tgt := 20) hx hb dX12_readAtom_15 (by decide) (fun c4 => ?_) (fun c4 => ?_)
      · have b4 : ¬ (fI D H1 11 a0 13).toInt = (6 : Int32).toInt := fun z9 => c4 (i_eq.mpr z9)
        refine lv_aload_n hx hb dX12_readAtom_20 rfl (lv_at hl 0 rfl) ?_
        refine lv_dup hx hb dX12_readAtom_21 rfl ?_
        refine q_gi (T := TX12) C S1.1 ga0 13 kF_X12_197 dX12_readAtom_22 rfl rfl (by decide) rfl (by decide) rfl ?_
        refine lv_iconst (v := 1) hx hb dX12_readAtom_25 (by decide) ?_
        have k_1 : (1 : Int32).toInt = 1 := by decide
        refine lv_iadd hx hb dX12_readAtom_26 ?_
        refine lv_topi (fun v5 ev5 => ?_)
        have f6 : v5.toInt = (fI D H1 11 a0 13).toInt + (1 : Int32).toInt := by rw [ev5]; exact i_add (by omega) (by omega)
        refine q_put (T := TX12) C S1 ga0 13 kF_X12_197 dX12_readAtom_27 rfl rfl (by decide) (by decide) rfl rfl rfl rfl rfl (vok_i rfl (by omega) (by omega)) (by decide +kernel) (fun H7 L7 S7 P7 => ?_)
        have y7_10 : (fI D H7 11 a0 10).toInt = (fI D H1 11 a0 10).toInt := congrArg Int32.toInt (Pt.o P7 (by decide) (by decide))
        have y7_12 : (fI D H7 11 a0 12).toInt = (fI D H1 11 a0 12).toInt := congrArg Int32.toInt (Pt.o P7 (by decide) (by decide))
        have y7_13 : (fI D H7 11 a0 13).toInt = v5.toInt := congrArg Int32.toInt (Pt.i P7)
        have y7_16 : (fI D H7 11 a0 16).toInt = (fI D H1 11 a0 16).toInt := congrArg Int32.toInt (Pt.o P7 (by decide) (by decide))
        have lq7 : Lq D H1 H7 a0 := Lq.put S1.1 ga0 P7 (by decide) (by decide)
        have tk7 : Lq D s.heap H7 a0 := tk1.trans lq7
        refine lv_aload_n hx hb dX12_readAtom_30 rfl (lv_at hl 0 rfl) ?_
        have rs9 : 0 ≤ (fI D H7 11 a0 16).toInt ∧ (fI D H7 11 a0 16).toInt ≤ 400 := S7.1.rng ga0 rfl (by decide) rfl
        have rp9 : 0 ≤ (fI D H7 11 a0 10).toInt ∧ (fI D H7 11 a0 10).toInt ≤ 400 := S7.1.rng ga0 rfl (by decide) rfl
        refine callV_Ei C S7 (c_X12_readCond_d2 l D G a0 ga0) kV_X12_200 ga0 (⟨by omega, by omega⟩) (by decide +kernel) dX12_readAtom_31 hl.1 rfl rfl (by decide) cd_X12_readCond ⟨Nat.le_of_ble_eq_true rfl, Nat.le_of_ble_eq_true rfl, Nat.le_of_ble_eq_true rfl, Nat.le_of_ble_eq_true rfl, Nat.le_of_ble_eq_true rfl⟩ (fun v8 H8 L8 S8 K8 q8 => ?_)
        obtain ⟨q8, sa8, sx8, tq8⟩ := q8
        have lq8 : Lq D H7 H8 a0 := tq8
        have tk8 : Lq D s.heap H8 a0 := tk7.trans lq8
        refine lv_if_ne (tgt := 39) hx hb dX12_readAtom_34 (by decide) (fun c9 => ?_) (fun c9 => ?_)
        · have b9 : ¬ v8.toInt = (0 : Int32).toInt := fun z9 => c9 (i_eq.mpr z9)
          refine lv_aload_n hx hb dX12_readAtom_39 rfl (lv_at hl 0 rfl) ?_
          refine lv_dup hx hb dX12_readAtom_40 rfl ?_
          refine q_gi (T := TX12) C S8.1 ga0 13 kF_X12_197 dX12_readAtom_41 rfl rfl (by decide) rfl (by decide) rfl ?_
          have r10 : 0 ≤ (fI D H8 11 a0 13).toInt ∧ (fI D H8 11 a0 13).toInt ≤ 6 := S8.1.rng ga0 rfl (by decide) rfl
          refine lv_iconst (v := 1) hx hb dX12_readAtom_44 (by decide) ?_
          refine lv_isub hx hb dX12_readAtom_45 ?_
          refine lv_topi (fun v11 ev11 => ?_)
          have f12 : v11.toInt = (fI D H8 11 a0 13).toInt - (1 : Int32).toInt := by rw [ev11]; exact i_sub (by omega) (by omega)
          refine q_put (T := TX12) C S8 ga0 13 kF_X12_197 dX12_readAtom_46 rfl rfl (by decide) (by decide) rfl rfl rfl rfl rfl (vok_i rfl (by omega) (by omega)) (by decide +kernel) (fun H13 L13 S13 P13 => ?_)
          have y13_10 : (fI D H13 11 a0 10).toInt = (fI D H8 11 a0 10).toInt := congrArg Int32.toInt (Pt.o P13 (by decide) (by decide))
          have y13_12 : (fI D H13 11 a0 12).toInt = (fI D H8 11 a0 12).toInt := congrArg Int32.toInt (Pt.o P13 (by decide) (by decide))
          have y13_13 : (fI D H13 11 a0 13).toInt = v11.toInt := congrArg Int32.toInt (Pt.i P13)
          have y13_16 : (fI D H13 11 a0 16).toInt = (fI D H8 11 a0 16).toInt := congrArg Int32.toInt (Pt.o P13 (by decide) (by decide))
          have lq13 : Lq D H8 H13 a0 := Lq.put S8.1 ga0 P13 (by decide) (by decide)
          have tk13 : Lq D s.heap H13 a0 := tk8.trans lq13
          have rs9 : 0 ≤ (fI D H13 11 a0 16).toInt ∧ (fI D H13 11 a0 16).toInt ≤ 400 := S13.1.rng ga0 rfl (by decide) rfl
          have rp9 : 0 ≤ (fI D H13 11 a0 10).toInt ∧ (fI D H13 11 a0 10).toInt ≤ 400 := S13.1.rng ga0 rfl (by decide) rfl
          refine lv_aload_n hx hb dX12_readAtom_49 rfl (lv_at hl 0 rfl) ?_
          refine lv_bipush (v := 41) hx hb dX12_readAtom_50 (by decide) ?_
          have k_41 : (41 : Int32).toInt = 41 := by decide
          refine callV_Ei C S13 (c_X12_sign l D G a0 (41 : Int32) ga0) kV_X12_193 ga0 (trivial) (by decide +kernel) dX12_readAtom_52 hl.1 rfl rfl (by decide) cd_X12_sign ⟨Nat.le_of_ble_eq_true rfl, Nat.le_of_ble_eq_true rfl, Nat.le_of_ble_eq_true rfl, Nat.le_of_ble_eq_true rfl, Nat.le_of_ble_eq_true rfl⟩ (fun v14 H14 L14 S14 K14 q14 => ?_)
          have y14_13 : (fI D H14 11 a0 13).toInt = (fI D H13 11 a0 13).toInt := congrArg Int32.toInt (K14.fI ga0 rfl (by decide) (by decide +kernel))
          have y14_16 : (fI D H14 11 a0 16).toInt = (fI D H13 11 a0 16).toInt := congrArg Int32.toInt (K14.fI ga0 rfl (by decide) (by decide +kernel))
          have lq14 : Lq D H13 H14 a0 := Lq.keep S13.1 ga0 K14 (by decide +kernel) (by decide +kernel) (by decide +kernel)
          have tk14 : Lq D s.heap H14 a0 := tk13.trans lq14
          rcases q14 with q14 | q14
          · skip
            exact retE_z hQ C S14 hr dX12_readAtom_55 (z01 (by omega) (by omega)) (⟨by omega, fun _ => by omega, fun _ => ((lq13.trans lq14).ex (sx8 (by omega)) (by omega)).at (by omega) (by omega), tk14⟩)
          · skip
            exact retE_z hQ C S14 hr dX12_readAtom_55 (z01 (by omega) (by omega)) (⟨by omega, fun _ => by omega, fun _ => ((lq13.trans lq14).ex (sx8 (by omega)) (by omega)).at (by omega) (by omega), tk14⟩)
        · have b9 : v8.toInt = (0 : Int32).toInt := i_eq.mp c9
          refine lv_iconst (v := 0) hx hb dX12_readAtom_37 (by decide) ?_
          exact retE_z hQ C S8 hr dX12_readAtom_38 (z01 (by omega) (by omega)) (⟨by omega, fun h9 => absurd h9 (by decide), fun h9 => absurd h9 (by decide), tk8⟩)
      · have b4 : (fI D H1 11 a0 13).toInt = (6 : Int32).toInt := i_eq.mp c4
        exact absurd b4 (by omega)
  · skip
    have k_0 : (0 : Int32).toInt = 0 := by decide
    refine lv_if_eq (tgt := 56) hx hb dX12_readAtom_6 (by decide) (fun c15 => ?_) (fun c15 => ?_)
    · have b15 : v1.toInt = (0 : Int32).toInt := i_eq.mp c15
      refine lv_aload_n hx hb dX12_readAtom_56 rfl (lv_at hl 0 rfl) ?_
      refine q_lds C ks_X12_203 dX12_readAtom_57 (fun a16 ha16 => ?_)
      refine callV_Ei C S1 (c_X12_passes_w l D G a0 a16 3 ga0 ha16) kV_X12_120 ga0 (trivial) (by decide +kernel) dX12_readAtom_59 hl.1 rfl rfl (by decide) cd_X12_passes ⟨Nat.le_of_ble_eq_true rfl, Nat.le_of_ble_eq_true rfl, Nat.le_of_ble_eq_true rfl, Nat.le_of_ble_eq_true rfl, Nat.le_of_ble_eq_true rfl⟩ (fun v17 H17 L17 S17 K17 q17 => ?_)
      have y17_13 : (fI D H17 11 a0 13).toInt = (fI D H1 11 a0 13).toInt := congrArg Int32.toInt (K17.fI ga0 rfl (by decide) (by decide +kernel))
      have y17_16 : (fI D H17 11 a0 16).toInt = (fI D H1 11 a0 16).toInt := congrArg Int32.toInt (K17.fI ga0 rfl (by decide) (by decide +kernel))
      have lq17 : Lq D H1 H17 a0 := Lq.keep S1.1 ga0 K17 (by decide +kernel) (by decide +kernel) (by decide +kernel)
      have tk17 : Lq D s.heap H17 a0 := tk1.trans lq17
      rcases q17 with q17 | q17
      · skip
        refine lv_if_eq (tgt := 114) hx hb dX12_readAtom_62 (by decide) (fun c18 => ?_) (fun c18 => ?_)
        · have b18 : v17.toInt = (0 : Int32).toInt := i_eq.mp c18
          exact absurd b18 (by omega)
        · have b18 : ¬ v17.toInt = (0 : Int32).toInt := fun z9 => c18 (i_eq.mpr z9)
          refine lv_aload_n hx hb dX12_readAtom_65 rfl (lv_at hl 0 rfl) ?_
          have dd : (fI D H17 11 a0 13).toInt = 1 := by omega
          refine q_gi (T := TX12) C S17.1 ga0 13 kF_X12_197 dX12_readAtom_66 rfl rfl (by decide) rfl (by decide) rfl ?_
          have r19 : 0 ≤ (fI D H17 11 a0 13).toInt ∧ (fI D H17 11 a0 13).toInt ≤ 6 := S17.1.rng ga0 rfl (by decide) rfl
          refine lv_bipush (v := 6) hx hb dX12_readAtom_69 (by decide) ?_
          have k_6 : (6 : Int32).toInt = 6 := by decide
          refine lv_icmp_ne (tgt := 76) hx hb dX12_readAtom_71 (by decide) (fun c20 => ?_) (fun c20 => ?_)
          · have b20 : ¬ (fI D H17 11 a0 13).toInt = (6 : Int32).toInt := fun z9 => c20 (i_eq.mpr z9)
            refine lv_aload_n hx hb dX12_readAtom_76 rfl (lv_at hl 0 rfl) ?_
            refine lv_dup hx hb dX12_readAtom_77 rfl ?_
            refine q_gi (T := TX12) C S17.1 ga0 13 kF_X12_197 dX12_readAtom_78 rfl rfl (by decide) rfl (by decide) rfl ?_
            refine lv_iconst (v := 1) hx hb dX12_readAtom_81 (by decide) ?_
            have k_1 : (1 : Int32).toInt = 1 := by decide
            refine lv_iadd hx hb dX12_readAtom_82 ?_
            refine lv_topi (fun v21 ev21 => ?_)
            have f22 : v21.toInt = (fI D H17 11 a0 13).toInt + (1 : Int32).toInt := by rw [ev21]; exact i_add (by omega) (by omega)
            refine q_put (T := TX12) C S17 ga0 13 kF_X12_197 dX12_readAtom_83 rfl rfl (by decide) (by decide) rfl rfl rfl rfl rfl (vok_i rfl (by omega) (by omega)) (by decide +kernel) (fun H23 L23 S23 P23 => ?_)
            have y23_10 : (fI D H23 11 a0 10).toInt = (fI D H17 11 a0 10).toInt := congrArg Int32.toInt (Pt.o P23 (by decide) (by decide))
            have y23_12 : (fI D H23 11 a0 12).toInt = (fI D H17 11 a0 12).toInt := congrArg Int32.toInt (Pt.o P23 (by decide) (by decide))
            have y23_13 : (fI D H23 11 a0 13).toInt = v21.toInt := congrArg Int32.toInt (Pt.i P23)
            have y23_16 : (fI D H23 11 a0 16).toInt = (fI D H17 11 a0 16).toInt := congrArg Int32.toInt (Pt.o P23 (by decide) (by decide))
            have lq23 : Lq D H17 H23 a0 := Lq.put S17.1 ga0 P23 (by decide) (by decide)
            have tk23 : Lq D s.heap H23 a0 := tk17.trans lq23
            refine lv_aload_n hx hb dX12_readAtom_86 rfl (lv_at hl 0 rfl) ?_
            have rs9 : 0 ≤ (fI D H23 11 a0 16).toInt ∧ (fI D H23 11 a0 16).toInt ≤ 400 := S23.1.rng ga0 rfl (by decide) rfl
            have rp9 : 0 ≤ (fI D H23 11 a0 10).toInt ∧ (fI D H23 11 a0 10).toInt ≤ 400 := S23.1.rng ga0 rfl (by decide) rfl
            refine callV_Ei C S23 (c_X12_readAtom_d2 l D G a0 ga0) kV_X12_205 ga0 (⟨by omega, by omega⟩) (by decide +kernel) dX12_readAtom_87 hl.1 rfl rfl (by decide) cd_X12_readAtom ⟨Nat.le_of_ble_eq_true rfl, Nat.le_of_ble_eq_true rfl, Nat.le_of_ble_eq_true rfl, Nat.le_of_ble_eq_true rfl, Nat.le_of_ble_eq_true rfl⟩ (fun v24 H24 L24 S24 K24 q24 => ?_)
            obtain ⟨q24, sa24, sx24, tq24⟩ := q24
            have lq24 : Lq D H23 H24 a0 := tq24
            have tk24 : Lq D s.heap H24 a0 := tk23.trans lq24
            refine lv_if_ne (tgt := 95) hx hb dX12_readAtom_90 (by decide) (fun c25 => ?_) (fun c25 => ?_)
            · have b25 : ¬ v24.toInt = (0 : Int32).toInt := fun z9 => c25 (i_eq.mpr z9)
              refine lv_aload_n hx hb dX12_readAtom_95 rfl (lv_at hl 0 rfl) ?_
              refine lv_dup hx hb dX12_readAtom_96 rfl ?_
              refine q_gi (T := TX12) C S24.1 ga0 13 kF_X12_197 dX12_readAtom_97 rfl rfl (by decide) rfl (by decide) rfl ?_
              have r26 : 0 ≤ (fI D H24 11 a0 13).toInt ∧ (fI D H24 11 a0 13).toInt ≤ 6 := S24.1.rng ga0 rfl (by decide) rfl
              refine lv_iconst (v := 1) hx hb dX12_readAtom_100 (by decide) ?_
              refine lv_isub hx hb dX12_readAtom_101 ?_
              refine lv_topi (fun v27 ev27 => ?_)
              have f28 : v27.toInt = (fI D H24 11 a0 13).toInt - (1 : Int32).toInt := by rw [ev27]; exact i_sub (by omega) (by omega)
              refine q_put (T := TX12) C S24 ga0 13 kF_X12_197 dX12_readAtom_102 rfl rfl (by decide) (by decide) rfl rfl rfl rfl rfl (vok_i rfl (by omega) (by omega)) (by decide +kernel) (fun H29 L29 S29 P29 => ?_)
              have y29_10 : (fI D H29 11 a0 10).toInt = (fI D H24 11 a0 10).toInt := congrArg Int32.toInt (Pt.o P29 (by decide) (by decide))
              have y29_12 : (fI D H29 11 a0 12).toInt = (fI D H24 11 a0 12).toInt := congrArg Int32.toInt (Pt.o P29 (by decide) (by decide))
              have y29_13 : (fI D H29 11 a0 13).toInt = v27.toInt := congrArg Int32.toInt (Pt.i P29)
              have y29_16 : (fI D H29 11 a0 16).toInt = (fI D H24 11 a0 16).toInt := congrArg Int32.toInt (Pt.o P29 (by decide) (by decide))
              have lq29 : Lq D H24 H29 a0 := Lq.put S24.1 ga0 P29 (by decide) (by decide)
              have tk29 : Lq D s.heap H29 a0 := tk24.trans lq29
              refine lv_aload_n hx hb dX12_readAtom_105 rfl (lv_at hl 0 rfl) ?_
              refine lv_bipush (v := 15) hx hb dX12_readAtom_106 (by decide) ?_
              refine lv_iconst (v := 0) hx hb dX12_readAtom_108 (by decide) ?_
              have rs9 : 0 ≤ (fI D H29 11 a0 16).toInt ∧ (fI D H29 11 a0 16).toInt ≤ 400 := S29.1.rng ga0 rfl (by decide) rfl
              have rp9 : 0 ≤ (fI D H29 11 a0 10).toInt ∧ (fI D H29 11 a0 10).toInt ≤ 400 := S29.1.rng ga0 rfl (by decide) rfl
              have k_15 : (15 : Int32).toInt = 15 := by decide
              refine callV_Ev C S29 (c_X12_emits l D G a0 (15 : Int32) (0 : Int32) ga0) kV_X12_185 ga0 (by omega) (by decide +kernel) dX12_readAtom_109 hl.1 rfl rfl (by decide) cd_X12_emits ⟨Nat.le_of_ble_eq_true rfl, Nat.le_of_ble_eq_true rfl, Nat.le_of_ble_eq_true rfl, Nat.le_of_ble_eq_true rfl, Nat.le_of_ble_eq_true rfl⟩ (fun H30 L30 S30 K30 q30 => ?_)
              obtain ⟨qa30, qb30, tq30⟩ := q30
              have y30_10 : (fI D H30 11 a0 10).toInt = (fI D H29 11 a0 10).toInt := congrArg Int32.toInt (K30.fI ga0 rfl (by decide) (by decide +kernel))
              have y30_12 : (fI D H30 11 a0 12).toInt = (fI D H29 11 a0 12).toInt := congrArg Int32.toInt (K30.fI ga0 rfl (by decide) (by decide +kernel))
              have y30_13 : (fI D H30 11 a0 13).toInt = (fI D H29 11 a0 13).toInt := congrArg Int32.toInt (K30.fI ga0 rfl (by decide) (by decide +kernel))
              have lq30 : Lq D H29 H30 a0 := tq30
              have tk30 : Lq D s.heap H30 a0 := tk29.trans lq30
              refine lv_iconst (v := 1) hx hb dX12_readAtom_112 (by decide) ?_
              exact retE_z hQ C S30 hr dX12_readAtom_113 (z01 (by omega) (by omega)) (⟨by omega, fun _ => by omega, fun _ => (Ex.un (((lq29.trans lq30).ex (sx24 (by omega)) (by omega)).at (j' := (fI D H29 11 a0 16).toInt.toNat) rfl (by omega)) (by rw [qb30]; decide) rfl).at (by omega) (by omega), tk30⟩)
            · have b25 : v24.toInt = (0 : Int32).toInt := i_eq.mp c25
              refine lv_iconst (v := 0) hx hb dX12_readAtom_93 (by decide) ?_
              exact retE_z hQ C S24 hr dX12_readAtom_94 (z01 (by omega) (by omega)) (⟨by omega, fun h9 => absurd h9 (by decide), fun h9 => absurd h9 (by decide), tk24⟩)
          · have b20 : (fI D H17 11 a0 13).toInt = (6 : Int32).toInt := i_eq.mp c20
            exact absurd b20 (by omega)
      · skip
        refine lv_if_eq (tgt := 114) hx hb dX12_readAtom_62 (by decide) (fun c31 => ?_) (fun c31 => ?_)
        · have b31 : v17.toInt = (0 : Int32).toInt := i_eq.mp c31
          refine lv_aload_n hx hb dX12_readAtom_114 rfl (lv_at hl 0 rfl) ?_
          have rs9 : 0 ≤ (fI D H17 11 a0 16).toInt ∧ (fI D H17 11 a0 16).toInt ≤ 400 := S17.1.rng ga0 rfl (by decide) rfl
          have rp9 : 0 ≤ (fI D H17 11 a0 10).toInt ∧ (fI D H17 11 a0 10).toInt ≤ 400 := S17.1.rng ga0 rfl (by decide) rfl
          refine callV_Ei C S17 (c_X12_readTag l D G a0 ga0) kV_X12_208 ga0 (by omega) (by decide +kernel) dX12_readAtom_115 hl.1 rfl rfl (by decide) cd_X12_readTag ⟨Nat.le_of_ble_eq_true rfl, Nat.le_of_ble_eq_true rfl, Nat.le_of_ble_eq_true rfl, Nat.le_of_ble_eq_true rfl, Nat.le_of_ble_eq_true rfl⟩ (fun v32 H32 L32 S32 K32 q32 => ?_)
          obtain ⟨q32, sa32, sx32, tq32, sf32⟩ := q32
          have y32_13 : (fI D H32 11 a0 13).toInt = (fI D H17 11 a0 13).toInt := congrArg Int32.toInt (K32.fI ga0 rfl (by decide) (by decide +kernel))
          have lq32 : Lq D H17 H32 a0 := tq32
          have tk32 : Lq D s.heap H32 a0 := tk17.trans lq32
          refine lv_if_eq (tgt := 123) hx hb dX12_readAtom_118 (by decide) (fun c33 => ?_) (fun c33 => ?_)
          · have b33 : v32.toInt = (0 : Int32).toInt := i_eq.mp c33
            refine lv_aload_n hx hb dX12_readAtom_123 rfl (lv_at hl 0 rfl) ?_
            have rs9 : 0 ≤ (fI D H32 11 a0 16).toInt ∧ (fI D H32 11 a0 16).toInt ≤ 400 := S32.1.rng ga0 rfl (by decide) rfl
            have rp9 : 0 ≤ (fI D H32 11 a0 10).toInt ∧ (fI D H32 11 a0 10).toInt ≤ 400 := S32.1.rng ga0 rfl (by decide) rfl
            refine callV_Ei C S32 (c_X12_readSum l D G a0 ga0) kV_X12_211 ga0 (by omega) (by decide +kernel) dX12_readAtom_124 hl.1 rfl rfl (by decide) cd_X12_readSum ⟨Nat.le_of_ble_eq_true rfl, Nat.le_of_ble_eq_true rfl, Nat.le_of_ble_eq_true rfl, Nat.le_of_ble_eq_true rfl, Nat.le_of_ble_eq_true rfl⟩ (fun v34 H34 L34 S34 K34 q34 => ?_)
            obtain ⟨q34, sa34, sx34, tq34⟩ := q34
            have y34_13 : (fI D H34 11 a0 13).toInt = (fI D H32 11 a0 13).toInt := congrArg Int32.toInt (K34.fI ga0 rfl (by decide) (by decide +kernel))
            have lq34 : Lq D H32 H34 a0 := tq34
            have tk34 : Lq D s.heap H34 a0 := tk32.trans lq34
            refine lv_if_ne (tgt := 132) hx hb dX12_readAtom_127 (by decide) (fun c35 => ?_) (fun c35 => ?_)
            · have b35 : ¬ v34.toInt = (0 : Int32).toInt := fun z9 => c35 (i_eq.mpr z9)
              refine lv_aload_n hx hb dX12_readAtom_132 rfl (lv_at hl 0 rfl) ?_
              refine lv_bipush (v := 60) hx hb dX12_readAtom_133 (by decide) ?_
              have k_60 : (60 : Int32).toInt = 60 := by decide
              refine callV_Ei C S34 (c_X12_sign l D G a0 (60 : Int32) ga0) kV_X12_193 ga0 (trivial) (by decide +kernel) dX12_readAtom_135 hl.1 rfl rfl (by decide) cd_X12_sign ⟨Nat.le_of_ble_eq_true rfl, Nat.le_of_ble_eq_true rfl, Nat.le_of_ble_eq_true rfl, Nat.le_of_ble_eq_true rfl, Nat.le_of_ble_eq_true rfl⟩ (fun v36 H36 L36 S36 K36 q36 => ?_)
              have y36_13 : (fI D H36 11 a0 13).toInt = (fI D H34 11 a0 13).toInt := congrArg Int32.toInt (K36.fI ga0 rfl (by decide) (by decide +kernel))
              have y36_16 : (fI D H36 11 a0 16).toInt = (fI D H34 11 a0 16).toInt := congrArg Int32.toInt (K36.fI ga0 rfl (by decide) (by decide +kernel))
              have lq36 : Lq D H34 H36 a0 := Lq.keep S34.1 ga0 K36 (by decide +kernel) (by decide +kernel) (by decide +kernel)
              have tk36 : Lq D s.heap H36 a0 := tk34.trans lq36
              rcases q36 with q36 | q36
              · skip
                refine lv_istore_n (lv' := [(1, .int v36), (0, .ref a0)]) hx hb dX12_readAtom_138 rfl hl (by decide) rfl (fun ls hl => ?_)
                refine lv_iload_n hx hb dX12_readAtom_139 rfl (lv_at hl 0 rfl) ?_
                refine lv_if_ne (tgt := 152) hx hb dX12_readAtom_140 (by decide) (fun c37 => ?_) (fun c37 => ?_)
                · have b37 : ¬ v36.toInt = (0 : Int32).toInt := fun z9 => c37 (i_eq.mpr z9)
                  refine lv_aload_n hx hb dX12_readAtom_152 rfl (lv_at hl 1 rfl) ?_
                  have rs9 : 0 ≤ (fI D H36 11 a0 16).toInt ∧ (fI D H36 11 a0 16).toInt ≤ 400 := S36.1.rng ga0 rfl (by decide) rfl
                  have rp9 : 0 ≤ (fI D H36 11 a0 10).toInt ∧ (fI D H36 11 a0 10).toInt ≤ 400 := S36.1.rng ga0 rfl (by decide) rfl
                  refine callV_Ei C S36 (c_X12_readSum l D G a0 ga0) kV_X12_211 ga0 (by omega) (by decide +kernel) dX12_readAtom_153 hl.1 rfl rfl (by decide) cd_X12_readSum ⟨Nat.le_of_ble_eq_true rfl, Nat.le_of_ble_eq_true rfl, Nat.le_of_ble_eq_true rfl, Nat.le_of_ble_eq_true rfl, Nat.le_of_ble_eq_true rfl⟩ (fun v38 H38 L38 S38 K38 q38 => ?_)
                  obtain ⟨q38, sa38, sx38, tq38⟩ := q38
                  have y38_13 : (fI D H38 11 a0 13).toInt = (fI D H36 11 a0 13).toInt := congrArg Int32.toInt (K38.fI ga0 rfl (by decide) (by decide +kernel))
                  have lq38 : Lq D H36 H38 a0 := tq38
                  have tk38 : Lq D s.heap H38 a0 := tk36.trans lq38
                  refine lv_if_ne (tgt := 161) hx hb dX12_readAtom_156 (by decide) (fun c39 => ?_) (fun c39 => ?_)
                  · have b39 : ¬ v38.toInt = (0 : Int32).toInt := fun z9 => c39 (i_eq.mpr z9)
                    refine lv_aload_n hx hb dX12_readAtom_161 rfl (lv_at hl 1 rfl) ?_
                    refine lv_iload_n hx hb dX12_readAtom_162 rfl (lv_at hl 0 rfl) ?_
                    refine lv_if_eq (tgt := 171) hx hb dX12_readAtom_163 (by decide) (fun c40 => ?_) (fun c40 => ?_)
                    · have b40 : v36.toInt = (0 : Int32).toInt := i_eq.mp c40
                      exact absurd b40 (by omega)
                    · have b40 : ¬ v36.toInt = (0 : Int32).toInt := fun z9 => c40 (i_eq.mpr z9)
                      refine lv_bipush (v := 13) hx hb dX12_readAtom_166 (by decide) ?_
                      refine lv_goto (tgt := 173) hx hb dX12_readAtom_168 (by decide) ?_
                      refine lv_iconst (v := 0) hx hb dX12_readAtom_173 (by decide) ?_
                      have rs9 : 0 ≤ (fI D H38 11 a0 16).toInt ∧ (fI D H38 11 a0 16).toInt ≤ 400 := S38.1.rng ga0 rfl (by decide) rfl
                      have rp9 : 0 ≤ (fI D H38 11 a0 10).toInt ∧ (fI D H38 11 a0 10).toInt ≤ 400 := S38.1.rng ga0 rfl (by decide) rfl
                      have k_13 : (13 : Int32).toInt = 13 := by decide
                      refine callV_Ev C S38 (c_X12_emits l D G a0 (13 : Int32) (0 : Int32) ga0) kV_X12_185 ga0 (by omega) (by decide +kernel) dX12_readAtom_174 hl.1 rfl rfl (by decide) cd_X12_emits ⟨Nat.le_of_ble_eq_true rfl, Nat.le_of_ble_eq_true rfl, Nat.le_of_ble_eq_true rfl, Nat.le_of_ble_eq_true rfl, Nat.le_of_ble_eq_true rfl⟩ (fun H41 L41 S41 K41 q41 => ?_)
                      obtain ⟨qa41, qb41, tq41⟩ := q41
                      have y41_10 : (fI D H41 11 a0 10).toInt = (fI D H38 11 a0 10).toInt := congrArg Int32.toInt (K41.fI ga0 rfl (by decide) (by decide +kernel))
                      have y41_12 : (fI D H41 11 a0 12).toInt = (fI D H38 11 a0 12).toInt := congrArg Int32.toInt (K41.fI ga0 rfl (by decide) (by decide +kernel))
                      have y41_13 : (fI D H41 11 a0 13).toInt = (fI D H38 11 a0 13).toInt := congrArg Int32.toInt (K41.fI ga0 rfl (by decide) (by decide +kernel))
                      have lq41 : Lq D H38 H41 a0 := tq41
                      have tk41 : Lq D s.heap H41 a0 := tk38.trans lq41
                      refine lv_iconst (v := 1) hx hb dX12_readAtom_177 (by decide) ?_
                      have k_1 : (1 : Int32).toInt = 1 := by decide
                      exact retE_z hQ C S41 hr dX12_readAtom_178 (z01 (by omega) (by omega)) (⟨by omega, fun _ => by omega, fun _ => (Ex.bin (((lq36.trans lq38).trans lq41).ex (sx34 (by omega)) (by omega)) ((lq41.ex (sx38 (by omega)) (by omega)).at (i' := (fI D H34 11 a0 16).toInt.toNat) (by omega) rfl) (by rw [qb41]; decide) rfl).at (by omega) (by omega), tk41⟩)
                  · have b39 : v38.toInt = (0 : Int32).toInt := i_eq.mp c39
                    refine lv_iconst (v := 0) hx hb dX12_readAtom_159 (by decide) ?_
                    exact retE_z hQ C S38 hr dX12_readAtom_160 (z01 (by omega) (by omega)) (⟨by omega, fun h9 => absurd h9 (by decide), fun h9 => absurd h9 (by decide), tk38⟩)
                · have b37 : v36.toInt = (0 : Int32).toInt := i_eq.mp c37
                  exact absurd b37 (by omega)
              · skip
                refine lv_istore_n (lv' := [(1, .int v36), (0, .ref a0)]) hx hb dX12_readAtom_138 rfl hl (by decide) rfl (fun ls hl => ?_)
                refine lv_iload_n hx hb dX12_readAtom_139 rfl (lv_at hl 0 rfl) ?_
                refine lv_if_ne (tgt := 152) hx hb dX12_readAtom_140 (by decide) (fun c42 => ?_) (fun c42 => ?_)
                · have b42 : ¬ v36.toInt = (0 : Int32).toInt := fun z9 => c42 (i_eq.mpr z9)
                  exact absurd b42 (by omega)
                · have b42 : v36.toInt = (0 : Int32).toInt := i_eq.mp c42
                  refine lv_aload_n hx hb dX12_readAtom_143 rfl (lv_at hl 1 rfl) ?_
                  refine lv_bipush (v := 62) hx hb dX12_readAtom_144 (by decide) ?_
                  have k_62 : (62 : Int32).toInt = 62 := by decide
                  refine callV_Ei C S36 (c_X12_sign l D G a0 (62 : Int32) ga0) kV_X12_193 ga0 (trivial) (by decide +kernel) dX12_readAtom_146 hl.1 rfl rfl (by decide) cd_X12_sign ⟨Nat.le_of_ble_eq_true rfl, Nat.le_of_ble_eq_true rfl, Nat.le_of_ble_eq_true rfl, Nat.le_of_ble_eq_true rfl, Nat.le_of_ble_eq_true rfl⟩ (fun v43 H43 L43 S43 K43 q43 => ?_)
                  have y43_13 : (fI D H43 11 a0 13).toInt = (fI D H36 11 a0 13).toInt := congrArg Int32.toInt (K43.fI ga0 rfl (by decide) (by decide +kernel))
                  have y43_16 : (fI D H43 11 a0 16).toInt = (fI D H36 11 a0 16).toInt := congrArg Int32.toInt (K43.fI ga0 rfl (by decide) (by decide +kernel))
                  have lq43 : Lq D H36 H43 a0 := Lq.keep S36.1 ga0 K43 (by decide +kernel) (by decide +kernel) (by decide +kernel)
                  have tk43 : Lq D s.heap H43 a0 := tk36.trans lq43
                  rcases q43 with q43 | q43
                  · skip
                    refine lv_if_eq (tgt := 159) hx hb dX12_readAtom_149 (by decide) (fun c44 => ?_) (fun c44 => ?_)
                    · have b44 : v43.toInt = (0 : Int32).toInt := i_eq.mp c44
                      exact absurd b44 (by omega)
                    · have b44 : ¬ v43.toInt = (0 : Int32).toInt := fun z9 => c44 (i_eq.mpr z9)
                      refine lv_aload_n hx hb dX12_readAtom_152 rfl (lv_at hl 1 rfl) ?_
                      have rs9 : 0 ≤ (fI D H43 11 a0 16).toInt ∧ (fI D H43 11 a0 16).toInt ≤ 400 := S43.1.rng ga0 rfl (by decide) rfl
                      have rp9 : 0 ≤ (fI D H43 11 a0 10).toInt ∧ (fI D H43 11 a0 10).toInt ≤ 400 := S43.1.rng ga0 rfl (by decide) rfl
                      refine callV_Ei C S43 (c_X12_readSum l D G a0 ga0) kV_X12_211 ga0 (by omega) (by decide +kernel) dX12_readAtom_153 hl.1 rfl rfl (by decide) cd_X12_readSum ⟨Nat.le_of_ble_eq_true rfl, Nat.le_of_ble_eq_true rfl, Nat.le_of_ble_eq_true rfl, Nat.le_of_ble_eq_true rfl, Nat.le_of_ble_eq_true rfl⟩ (fun v45 H45 L45 S45 K45 q45 => ?_)
                      obtain ⟨q45, sa45, sx45, tq45⟩ := q45
                      have y45_13 : (fI D H45 11 a0 13).toInt = (fI D H43 11 a0 13).toInt := congrArg Int32.toInt (K45.fI ga0 rfl (by decide) (by decide +kernel))
                      have lq45 : Lq D H43 H45 a0 := tq45
                      have tk45 : Lq D s.heap H45 a0 := tk43.trans lq45
                      refine lv_if_ne (tgt := 161) hx hb dX12_readAtom_156 (by decide) (fun c46 => ?_) (fun c46 => ?_)
                      · have b46 : ¬ v45.toInt = (0 : Int32).toInt := fun z9 => c46 (i_eq.mpr z9)
                        refine lv_aload_n hx hb dX12_readAtom_161 rfl (lv_at hl 1 rfl) ?_
                        refine lv_iload_n hx hb dX12_readAtom_162 rfl (lv_at hl 0 rfl) ?_
                        refine lv_if_eq (tgt := 171) hx hb dX12_readAtom_163 (by decide) (fun c47 => ?_) (fun c47 => ?_)
                        · have b47 : v36.toInt = (0 : Int32).toInt := i_eq.mp c47
                          refine lv_bipush (v := 14) hx hb dX12_readAtom_171 (by decide) ?_
                          refine lv_iconst (v := 0) hx hb dX12_readAtom_173 (by decide) ?_
                          have rs9 : 0 ≤ (fI D H45 11 a0 16).toInt ∧ (fI D H45 11 a0 16).toInt ≤ 400 := S45.1.rng ga0 rfl (by decide) rfl
                          have rp9 : 0 ≤ (fI D H45 11 a0 10).toInt ∧ (fI D H45 11 a0 10).toInt ≤ 400 := S45.1.rng ga0 rfl (by decide) rfl
                          have k_14 : (14 : Int32).toInt = 14 := by decide
                          refine callV_Ev C S45 (c_X12_emits l D G a0 (14 : Int32) (0 : Int32) ga0) kV_X12_185 ga0 (by omega) (by decide +kernel) dX12_readAtom_174 hl.1 rfl rfl (by decide) cd_X12_emits ⟨Nat.le_of_ble_eq_true rfl, Nat.le_of_ble_eq_true rfl, Nat.le_of_ble_eq_true rfl, Nat.le_of_ble_eq_true rfl, Nat.le_of_ble_eq_true rfl⟩ (fun H48 L48 S48 K48 q48 => ?_)
                          obtain ⟨qa48, qb48, tq48⟩ := q48
                          have y48_10 : (fI D H48 11 a0 10).toInt = (fI D H45 11 a0 10).toInt := congrArg Int32.toInt (K48.fI ga0 rfl (by decide) (by decide +kernel))
                          have y48_12 : (fI D H48 11 a0 12).toInt = (fI D H45 11 a0 12).toInt := congrArg Int32.toInt (K48.fI ga0 rfl (by decide) (by decide +kernel))
                          have y48_13 : (fI D H48 11 a0 13).toInt = (fI D H45 11 a0 13).toInt := congrArg Int32.toInt (K48.fI ga0 rfl (by decide) (by decide +kernel))
                          have lq48 : Lq D H45 H48 a0 := tq48
                          have tk48 : Lq D s.heap H48 a0 := tk45.trans lq48
                          refine lv_iconst (v := 1) hx hb dX12_readAtom_177 (by decide) ?_
                          have k_1 : (1 : Int32).toInt = 1 := by decide
                          exact retE_z hQ C S48 hr dX12_readAtom_178 (z01 (by omega) (by omega)) (⟨by omega, fun _ => by omega, fun _ => (Ex.bin ((((lq36.trans lq43).trans lq45).trans lq48).ex (sx34 (by omega)) (by omega)) ((lq48.ex (sx45 (by omega)) (by omega)).at (i' := (fI D H34 11 a0 16).toInt.toNat) (by omega) rfl) (by rw [qb48]; decide) rfl).at (by omega) (by omega), tk48⟩)
                        · have b47 : ¬ v36.toInt = (0 : Int32).toInt := fun z9 => c47 (i_eq.mpr z9)
                          exact absurd b47 (by omega)
                      · have b46 : v45.toInt = (0 : Int32).toInt := i_eq.mp c46
                        refine lv_iconst (v := 0) hx hb dX12_readAtom_159 (by decide) ?_
                        exact retE_z hQ C S45 hr dX12_readAtom_160 (z01 (by omega) (by omega)) (⟨by omega, fun h9 => absurd h9 (by decide), fun h9 => absurd h9 (by decide), tk45⟩)
                  · skip
                    refine lv_if_eq (tgt := 159) hx hb dX12_readAtom_149 (by decide) (fun c49 => ?_) (fun c49 => ?_)
                    · have b49 : v43.toInt = (0 : Int32).toInt := i_eq.mp c49
                      refine lv_iconst (v := 0) hx hb dX12_readAtom_159 (by decide) ?_
                      exact retE_z hQ C S43 hr dX12_readAtom_160 (z01 (by omega) (by omega)) (⟨by omega, fun h9 => absurd h9 (by decide), fun h9 => absurd h9 (by decide), tk43⟩)
                    · have b49 : ¬ v43.toInt = (0 : Int32).toInt := fun z9 => c49 (i_eq.mpr z9)
                      exact absurd b49 (by omega)
            · have b35 : v34.toInt = (0 : Int32).toInt := i_eq.mp c35
              refine lv_iconst (v := 0) hx hb dX12_readAtom_130 (by decide) ?_
              exact retE_z hQ C S34 hr dX12_readAtom_131 (z01 (by omega) (by omega)) (⟨by omega, fun h9 => absurd h9 (by decide), fun h9 => absurd h9 (by decide), tk34⟩)
          · have b33 : ¬ v32.toInt = (0 : Int32).toInt := fun z9 => c33 (i_eq.mpr z9)
            refine lv_iconst (v := 1) hx hb dX12_readAtom_121 (by decide) ?_
            have k_1 : (1 : Int32).toInt = 1 := by decide
            exact retE_z hQ C S32 hr dX12_readAtom_122 (z01 (by omega) (by omega)) (⟨by omega, fun _ => by omega, fun _ => (sx32 (by omega)).at (by omega) rfl, tk32⟩)
        · have b31 : ¬ v17.toInt = (0 : Int32).toInt := fun z9 => c31 (i_eq.mpr z9)
          exact absurd b31 (by omega)
    · have b15 : ¬ v1.toInt = (0 : Int32).toInt := fun z9 => c15 (i_eq.mpr z9)
      exact absurd b15 (by omega)

set_option maxRecDepth 100000 in
set_option maxHeartbeats 4000000 in
theorem c_X12_readAllOf_d1 (l : Launch) (D : DD) (G : Nat → Nat) (a0 : Nat) (ga0 : G a0 = 30) : CE l D G yX12_readAllOf cX12_readAllOf 1 (some .boolean) 23 [.ref a0] (fun H => (fI D H 11 a0 13).toInt = 1 ∧ (fI D H 11 a0 16).toInt + 3 ≤ (fI D H 11 a0 10).toInt) [(30, 10), (30, 12), (30, 16), (31, 0), (30, 13)] (xI (fun H r H1 => (0 ≤ r.toInt ∧ r.toInt ≤ 1) ∧ (r.toInt = 1 → (fI D H1 11 a0 16).toInt - (fI D H 11 a0 16).toInt ≤ (fI D H1 11 a0 10).toInt - (fI D H 11 a0 10).toInt ∧ (fI D H1 11 a0 13).toInt = (fI D H 11 a0 13).toInt ∧ (fI D H 11 a0 10).toInt ≤ (fI D H1 11 a0 10).toInt) ∧ (r.toInt = 1 → Ex (Cs D H1 a0) (fI D H 11 a0 16).toInt.toNat (fI D H1 11 a0 16).toInt.toNat) ∧ Lq D H H1 a0)) := by
  refine enter (by decide) (Nat.le_of_ble_eq_true rfl) ?_
  intro p e s m args below meth c ls Q hA hQ C hr hO hpre hl
  have hx := C.1
  have hb := C.2.1
  have S : Sd D G [(30, 10), (30, 12), (30, 16), (31, 0), (30, 13)] s.heap s.heap [] := Sd.start hO
  have hl : lv_has ls 1 [(0, .ref a0)] := hl
  have rs0 : 0 ≤ (fI D s.heap 11 a0 16).toInt ∧ (fI D s.heap 11 a0 16).toInt ≤ 400 := hO.rng ga0 rfl (by decide) rfl
  have rp0 : 0 ≤ (fI D s.heap 11 a0 10).toInt ∧ (fI D s.heap 11 a0 10).toInt ≤ 400 := hO.rng ga0 rfl (by decide) rfl
  have tk0 : Lq D s.heap s.heap a0 := Lq.refl
  refine lv_aload_n hx hb dX12_readAllOf_0 rfl (lv_at hl 0 rfl) ?_
  refine callV_Ei C S (c_X12_readAtom_d1 l D G a0 ga0) kV_X12_205 ga0 (hpre) (by decide +kernel) dX12_readAllOf_1 hl.1 rfl rfl (by decide) cd_X12_readAtom ⟨Nat.le_of_ble_eq_true rfl, Nat.le_of_ble_eq_true rfl, Nat.le_of_ble_eq_true rfl, Nat.le_of_ble_eq_true rfl, Nat.le_of_ble_eq_true rfl⟩ (fun v1 H1 L1 S1 K1 q1 => ?_)
  obtain ⟨q1, sa1, sx1, tq1⟩ := q1
  have lq1 : Lq D s.heap H1 a0 := tq1
  have tk1 : Lq D s.heap H1 a0 := tk0.trans lq1
  have k_0 : (0 : Int32).toInt = 0 := by decide
  refine lv_if_ne (tgt := 9) hx hb dX12_readAllOf_4 (by decide) (fun c2 => ?_) (fun c2 => ?_)
  · have b2 : ¬ v1.toInt = (0 : Int32).toInt := fun z9 => c2 (i_eq.mpr z9)
    have Lp9 : ∀ (n : Nat)  (H_9 : Heap) (L_9 : List Loc) (ls : Array Slot), (Sd D G [(30, 10), (30, 12), (30, 16), (31, 0), (30, 13)] s.heap H_9 L_9) → (Ex (Cs D H_9 a0) (fI D s.heap 11 a0 16).toInt.toNat (fI D H_9 11 a0 16).toInt.toNat) → ((fI D H_9 11 a0 16).toInt - (fI D s.heap 11 a0 16).toInt ≤ (fI D H_9 11 a0 10).toInt - (fI D s.heap 11 a0 10).toInt ∧ (fI D H_9 11 a0 13).toInt = (fI D s.heap 11 a0 13).toInt ∧ (fI D s.heap 11 a0 10).toInt ≤ (fI D H_9 11 a0 10).toInt) → (Lq D s.heap H_9 a0) → 401 - (fI D H_9 11 a0 10).toInt ≤ (n : Int) → lv_has ls 1 [(0, .ref a0)] → W p l e (rmU 23 0 0) s m args below meth c H_9 L_9 0 0 Q (F0 m 9 ls []) := by
      intro n
      induction n with
      | zero =>
        intro H_9 L_9 ls S_9 u9_0 u9_1 u9_2 hn hl
        have rz : 0 ≤ (fI D H_9 11 a0 10).toInt ∧ (fI D H_9 11 a0 10).toInt ≤ 400 := S_9.1.rng ga0 rfl (by decide) rfl
        exact absurd hn (by omega)
      | succ n ih9 =>
        intro H_9 L_9 ls S_9 u9_0 u9_1 u9_2 hn hl
        have rs9 : 0 ≤ (fI D H_9 11 a0 16).toInt ∧ (fI D H_9 11 a0 16).toInt ≤ 400 := S_9.1.rng ga0 rfl (by decide) rfl
        have rp9 : 0 ≤ (fI D H_9 11 a0 10).toInt ∧ (fI D H_9 11 a0 10).toInt ≤ 400 := S_9.1.rng ga0 rfl (by decide) rfl
        refine lv_aload_n hx hb dX12_readAllOf_9 rfl (lv_at hl 0 rfl) ?_
        refine q_lds C ks_X12_214 dX12_readAllOf_10 (fun a3 ha3 => ?_)
        refine callV_Ei C S_9 (c_X12_passes_w l D G a0 a3 3 ga0 ha3) kV_X12_120 ga0 (trivial) (by decide +kernel) dX12_readAllOf_12 hl.1 rfl rfl (by decide) cd_X12_passes ⟨Nat.le_of_ble_eq_true rfl, Nat.le_of_ble_eq_true rfl, Nat.le_of_ble_eq_true rfl, Nat.le_of_ble_eq_true rfl, Nat.le_of_ble_eq_true rfl⟩ (fun v4 H4 L4 S4 K4 q4 => ?_)
        have y4_13 : (fI D H4 11 a0 13).toInt = (fI D H_9 11 a0 13).toInt := congrArg Int32.toInt (K4.fI ga0 rfl (by decide) (by decide +kernel))
        have y4_16 : (fI D H4 11 a0 16).toInt = (fI D H_9 11 a0 16).toInt := congrArg Int32.toInt (K4.fI ga0 rfl (by decide) (by decide +kernel))
        have lq4 : Lq D H_9 H4 a0 := Lq.keep S_9.1 ga0 K4 (by decide +kernel) (by decide +kernel) (by decide +kernel)
        have tk4 : Lq D s.heap H4 a0 := u9_2.trans lq4
        rcases q4 with q4 | q4
        · skip
          refine lv_if_eq (tgt := 37) hx hb dX12_readAllOf_15 (by decide) (fun c5 => ?_) (fun c5 => ?_)
          · have b5 : v4.toInt = (0 : Int32).toInt := i_eq.mp c5
            exact absurd b5 (by omega)
          · have b5 : ¬ v4.toInt = (0 : Int32).toInt := fun z9 => c5 (i_eq.mpr z9)
            refine lv_aload_n hx hb dX12_readAllOf_18 rfl (lv_at hl 0 rfl) ?_
            have rs9 : 0 ≤ (fI D H4 11 a0 16).toInt ∧ (fI D H4 11 a0 16).toInt ≤ 400 := S4.1.rng ga0 rfl (by decide) rfl
            have rp9 : 0 ≤ (fI D H4 11 a0 10).toInt ∧ (fI D H4 11 a0 10).toInt ≤ 400 := S4.1.rng ga0 rfl (by decide) rfl
            refine callV_Ei C S4 (c_X12_readAtom_d1 l D G a0 ga0) kV_X12_205 ga0 (⟨by omega, by omega⟩) (by decide +kernel) dX12_readAllOf_19 hl.1 rfl rfl (by decide) cd_X12_readAtom ⟨Nat.le_of_ble_eq_true rfl, Nat.le_of_ble_eq_true rfl, Nat.le_of_ble_eq_true rfl, Nat.le_of_ble_eq_true rfl, Nat.le_of_ble_eq_true rfl⟩ (fun v6 H6 L6 S6 K6 q6 => ?_)
            obtain ⟨q6, sa6, sx6, tq6⟩ := q6
            have lq6 : Lq D H4 H6 a0 := tq6
            have tk6 : Lq D s.heap H6 a0 := tk4.trans lq6
            refine lv_if_ne (tgt := 27) hx hb dX12_readAllOf_22 (by decide) (fun c7 => ?_) (fun c7 => ?_)
            · have b7 : ¬ v6.toInt = (0 : Int32).toInt := fun z9 => c7 (i_eq.mpr z9)
              refine lv_aload_n hx hb dX12_readAllOf_27 rfl (lv_at hl 0 rfl) ?_
              refine lv_bipush (v := 16) hx hb dX12_readAllOf_28 (by decide) ?_
              refine lv_iconst (v := 0) hx hb dX12_readAllOf_30 (by decide) ?_
              have rs9 : 0 ≤ (fI D H6 11 a0 16).toInt ∧ (fI D H6 11 a0 16).toInt ≤ 400 := S6.1.rng ga0 rfl (by decide) rfl
              have rp9 : 0 ≤ (fI D H6 11 a0 10).toInt ∧ (fI D H6 11 a0 10).toInt ≤ 400 := S6.1.rng ga0 rfl (by decide) rfl
              have k_16 : (16 : Int32).toInt = 16 := by decide
              refine callV_Ev C S6 (c_X12_emits l D G a0 (16 : Int32) (0 : Int32) ga0) kV_X12_185 ga0 (by omega) (by decide +kernel) dX12_readAllOf_31 hl.1 rfl rfl (by decide) cd_X12_emits ⟨Nat.le_of_ble_eq_true rfl, Nat.le_of_ble_eq_true rfl, Nat.le_of_ble_eq_true rfl, Nat.le_of_ble_eq_true rfl, Nat.le_of_ble_eq_true rfl⟩ (fun H8 L8 S8 K8 q8 => ?_)
              obtain ⟨qa8, qb8, tq8⟩ := q8
              have y8_10 : (fI D H8 11 a0 10).toInt = (fI D H6 11 a0 10).toInt := congrArg Int32.toInt (K8.fI ga0 rfl (by decide) (by decide +kernel))
              have y8_12 : (fI D H8 11 a0 12).toInt = (fI D H6 11 a0 12).toInt := congrArg Int32.toInt (K8.fI ga0 rfl (by decide) (by decide +kernel))
              have y8_13 : (fI D H8 11 a0 13).toInt = (fI D H6 11 a0 13).toInt := congrArg Int32.toInt (K8.fI ga0 rfl (by decide) (by decide +kernel))
              have lq8 : Lq D H6 H8 a0 := tq8
              have tk8 : Lq D s.heap H8 a0 := tk6.trans lq8
              refine lv_goto (tgt := 9) hx hb dX12_readAllOf_34 (by decide) ?_
              have e9 : Ex (Cs D H8 a0) (fI D s.heap 11 a0 16).toInt.toNat (fI D H8 11 a0 16).toInt.toNat := (Ex.bin (((lq4.trans lq6).trans lq8).ex u9_0 (by omega)) ((lq8.ex (sx6 (by omega)) (by omega)).at (i' := (fI D H_9 11 a0 16).toInt.toNat) (by omega) rfl) (by rw [qb8]; decide) rfl).at (by omega) (by omega)
              exact ih9  H8 L8 ls S8 e9 (by omega) tk8 (by omega) (lv_sub hl [0] rfl)
            · have b7 : v6.toInt = (0 : Int32).toInt := i_eq.mp c7
              refine lv_iconst (v := 0) hx hb dX12_readAllOf_25 (by decide) ?_
              exact retE_z hQ C S6 hr dX12_readAllOf_26 (z01 (by omega) (by omega)) (⟨by omega, fun h9 => absurd h9 (by decide), fun h9 => absurd h9 (by decide), tk6⟩)
        · skip
          refine lv_if_eq (tgt := 37) hx hb dX12_readAllOf_15 (by decide) (fun c9 => ?_) (fun c9 => ?_)
          · have b9 : v4.toInt = (0 : Int32).toInt := i_eq.mp c9
            refine lv_iconst (v := 1) hx hb dX12_readAllOf_37 (by decide) ?_
            have k_1 : (1 : Int32).toInt = 1 := by decide
            exact retE_z hQ C S4 hr dX12_readAllOf_38 (z01 (by omega) (by omega)) (⟨by omega, fun _ => by omega, fun _ => (lq4.ex u9_0 (by omega)).at (by omega) (by omega), tk4⟩)
          · have b9 : ¬ v4.toInt = (0 : Int32).toInt := fun z9 => c9 (i_eq.mpr z9)
            exact absurd b9 (by omega)
    have ex0 := sx1 (by omega)
    have rn : 0 ≤ (fI D H1 11 a0 10).toInt ∧ (fI D H1 11 a0 10).toInt ≤ 400 := S1.1.rng ga0 rfl (by decide) rfl
    exact Lp9 402  H1 L1 ls S1 (ex0.at (by omega) rfl) (by omega) tk1  (by omega) (lv_sub hl [0] rfl)
  · have b2 : v1.toInt = (0 : Int32).toInt := i_eq.mp c2
    refine lv_iconst (v := 0) hx hb dX12_readAllOf_7 (by decide) ?_
    exact retE_z hQ C S1 hr dX12_readAllOf_8 (z01 (by omega) (by omega)) (⟨by omega, fun h9 => absurd h9 (by decide), fun h9 => absurd h9 (by decide), tk1⟩)

set_option maxRecDepth 100000 in
set_option maxHeartbeats 4000000 in
theorem c_X12_readCond_d1 (l : Launch) (D : DD) (G : Nat → Nat) (a0 : Nat) (ga0 : G a0 = 30) : CE l D G yX12_readCond cX12_readCond 1 (some .boolean) 24 [.ref a0] (fun H => (fI D H 11 a0 13).toInt = 1 ∧ (fI D H 11 a0 16).toInt + 3 ≤ (fI D H 11 a0 10).toInt) [(30, 10), (30, 12), (30, 16), (31, 0), (30, 13)] (xI (fun H r H1 => (0 ≤ r.toInt ∧ r.toInt ≤ 1) ∧ (r.toInt = 1 → (fI D H1 11 a0 16).toInt - (fI D H 11 a0 16).toInt ≤ (fI D H1 11 a0 10).toInt - (fI D H 11 a0 10).toInt ∧ (fI D H1 11 a0 13).toInt = (fI D H 11 a0 13).toInt ∧ (fI D H 11 a0 10).toInt ≤ (fI D H1 11 a0 10).toInt) ∧ (r.toInt = 1 → Ex (Cs D H1 a0) (fI D H 11 a0 16).toInt.toNat (fI D H1 11 a0 16).toInt.toNat) ∧ Lq D H H1 a0)) := by
  refine enter (by decide) (Nat.le_of_ble_eq_true rfl) ?_
  intro p e s m args below meth c ls Q hA hQ C hr hO hpre hl
  have hx := C.1
  have hb := C.2.1
  have S : Sd D G [(30, 10), (30, 12), (30, 16), (31, 0), (30, 13)] s.heap s.heap [] := Sd.start hO
  have hl : lv_has ls 1 [(0, .ref a0)] := hl
  have rs0 : 0 ≤ (fI D s.heap 11 a0 16).toInt ∧ (fI D s.heap 11 a0 16).toInt ≤ 400 := hO.rng ga0 rfl (by decide) rfl
  have rp0 : 0 ≤ (fI D s.heap 11 a0 10).toInt ∧ (fI D s.heap 11 a0 10).toInt ≤ 400 := hO.rng ga0 rfl (by decide) rfl
  have tk0 : Lq D s.heap s.heap a0 := Lq.refl
  refine lv_aload_n hx hb dX12_readCond_0 rfl (lv_at hl 0 rfl) ?_
  refine callV_Ei C S (c_X12_readAllOf_d1 l D G a0 ga0) kV_X12_216 ga0 (hpre) (by decide +kernel) dX12_readCond_1 hl.1 rfl rfl (by decide) cd_X12_readAllOf ⟨Nat.le_of_ble_eq_true rfl, Nat.le_of_ble_eq_true rfl, Nat.le_of_ble_eq_true rfl, Nat.le_of_ble_eq_true rfl, Nat.le_of_ble_eq_true rfl⟩ (fun v1 H1 L1 S1 K1 q1 => ?_)
  obtain ⟨q1, sa1, sx1, tq1⟩ := q1
  have lq1 : Lq D s.heap H1 a0 := tq1
  have tk1 : Lq D s.heap H1 a0 := tk0.trans lq1
  have k_0 : (0 : Int32).toInt = 0 := by decide
  refine lv_if_ne (tgt := 9) hx hb dX12_readCond_4 (by decide) (fun c2 => ?_) (fun c2 => ?_)
  · have b2 : ¬ v1.toInt = (0 : Int32).toInt := fun z9 => c2 (i_eq.mpr z9)
    have Lp9 : ∀ (n : Nat)  (H_9 : Heap) (L_9 : List Loc) (ls : Array Slot), (Sd D G [(30, 10), (30, 12), (30, 16), (31, 0), (30, 13)] s.heap H_9 L_9) → (Ex (Cs D H_9 a0) (fI D s.heap 11 a0 16).toInt.toNat (fI D H_9 11 a0 16).toInt.toNat) → ((fI D H_9 11 a0 16).toInt - (fI D s.heap 11 a0 16).toInt ≤ (fI D H_9 11 a0 10).toInt - (fI D s.heap 11 a0 10).toInt ∧ (fI D H_9 11 a0 13).toInt = (fI D s.heap 11 a0 13).toInt ∧ (fI D s.heap 11 a0 10).toInt ≤ (fI D H_9 11 a0 10).toInt) → (Lq D s.heap H_9 a0) → 401 - (fI D H_9 11 a0 10).toInt ≤ (n : Int) → lv_has ls 1 [(0, .ref a0)] → W p l e (rmU 24 0 0) s m args below meth c H_9 L_9 0 0 Q (F0 m 9 ls []) := by
      intro n
      induction n with
      | zero =>
        intro H_9 L_9 ls S_9 u9_0 u9_1 u9_2 hn hl
        have rz : 0 ≤ (fI D H_9 11 a0 10).toInt ∧ (fI D H_9 11 a0 10).toInt ≤ 400 := S_9.1.rng ga0 rfl (by decide) rfl
        exact absurd hn (by omega)
      | succ n ih9 =>
        intro H_9 L_9 ls S_9 u9_0 u9_1 u9_2 hn hl
        have rs9 : 0 ≤ (fI D H_9 11 a0 16).toInt ∧ (fI D H_9 11 a0 16).toInt ≤ 400 := S_9.1.rng ga0 rfl (by decide) rfl
        have rp9 : 0 ≤ (fI D H_9 11 a0 10).toInt ∧ (fI D H_9 11 a0 10).toInt ≤ 400 := S_9.1.rng ga0 rfl (by decide) rfl
        refine lv_aload_n hx hb dX12_readCond_9 rfl (lv_at hl 0 rfl) ?_
        refine q_lds C ks_X12_219 dX12_readCond_10 (fun a3 ha3 => ?_)
        refine callV_Ei C S_9 (c_X12_passes_w l D G a0 a3 2 ga0 ha3) kV_X12_120 ga0 (trivial) (by decide +kernel) dX12_readCond_12 hl.1 rfl rfl (by decide) cd_X12_passes ⟨Nat.le_of_ble_eq_true rfl, Nat.le_of_ble_eq_true rfl, Nat.le_of_ble_eq_true rfl, Nat.le_of_ble_eq_true rfl, Nat.le_of_ble_eq_true rfl⟩ (fun v4 H4 L4 S4 K4 q4 => ?_)
        have y4_13 : (fI D H4 11 a0 13).toInt = (fI D H_9 11 a0 13).toInt := congrArg Int32.toInt (K4.fI ga0 rfl (by decide) (by decide +kernel))
        have y4_16 : (fI D H4 11 a0 16).toInt = (fI D H_9 11 a0 16).toInt := congrArg Int32.toInt (K4.fI ga0 rfl (by decide) (by decide +kernel))
        have lq4 : Lq D H_9 H4 a0 := Lq.keep S_9.1 ga0 K4 (by decide +kernel) (by decide +kernel) (by decide +kernel)
        have tk4 : Lq D s.heap H4 a0 := u9_2.trans lq4
        rcases q4 with q4 | q4
        · skip
          refine lv_if_eq (tgt := 37) hx hb dX12_readCond_15 (by decide) (fun c5 => ?_) (fun c5 => ?_)
          · have b5 : v4.toInt = (0 : Int32).toInt := i_eq.mp c5
            exact absurd b5 (by omega)
          · have b5 : ¬ v4.toInt = (0 : Int32).toInt := fun z9 => c5 (i_eq.mpr z9)
            refine lv_aload_n hx hb dX12_readCond_18 rfl (lv_at hl 0 rfl) ?_
            have rs9 : 0 ≤ (fI D H4 11 a0 16).toInt ∧ (fI D H4 11 a0 16).toInt ≤ 400 := S4.1.rng ga0 rfl (by decide) rfl
            have rp9 : 0 ≤ (fI D H4 11 a0 10).toInt ∧ (fI D H4 11 a0 10).toInt ≤ 400 := S4.1.rng ga0 rfl (by decide) rfl
            refine callV_Ei C S4 (c_X12_readAllOf_d1 l D G a0 ga0) kV_X12_216 ga0 (⟨by omega, by omega⟩) (by decide +kernel) dX12_readCond_19 hl.1 rfl rfl (by decide) cd_X12_readAllOf ⟨Nat.le_of_ble_eq_true rfl, Nat.le_of_ble_eq_true rfl, Nat.le_of_ble_eq_true rfl, Nat.le_of_ble_eq_true rfl, Nat.le_of_ble_eq_true rfl⟩ (fun v6 H6 L6 S6 K6 q6 => ?_)
            obtain ⟨q6, sa6, sx6, tq6⟩ := q6
            have lq6 : Lq D H4 H6 a0 := tq6
            have tk6 : Lq D s.heap H6 a0 := tk4.trans lq6
            refine lv_if_ne (tgt := 27) hx hb dX12_readCond_22 (by decide) (fun c7 => ?_) (fun c7 => ?_)
            · have b7 : ¬ v6.toInt = (0 : Int32).toInt := fun z9 => c7 (i_eq.mpr z9)
              refine lv_aload_n hx hb dX12_readCond_27 rfl (lv_at hl 0 rfl) ?_
              refine lv_bipush (v := 17) hx hb dX12_readCond_28 (by decide) ?_
              refine lv_iconst (v := 0) hx hb dX12_readCond_30 (by decide) ?_
              have rs9 : 0 ≤ (fI D H6 11 a0 16).toInt ∧ (fI D H6 11 a0 16).toInt ≤ 400 := S6.1.rng ga0 rfl (by decide) rfl
              have rp9 : 0 ≤ (fI D H6 11 a0 10).toInt ∧ (fI D H6 11 a0 10).toInt ≤ 400 := S6.1.rng ga0 rfl (by decide) rfl
              have k_17 : (17 : Int32).toInt = 17 := by decide
              refine callV_Ev C S6 (c_X12_emits l D G a0 (17 : Int32) (0 : Int32) ga0) kV_X12_185 ga0 (by omega) (by decide +kernel) dX12_readCond_31 hl.1 rfl rfl (by decide) cd_X12_emits ⟨Nat.le_of_ble_eq_true rfl, Nat.le_of_ble_eq_true rfl, Nat.le_of_ble_eq_true rfl, Nat.le_of_ble_eq_true rfl, Nat.le_of_ble_eq_true rfl⟩ (fun H8 L8 S8 K8 q8 => ?_)
              obtain ⟨qa8, qb8, tq8⟩ := q8
              have y8_10 : (fI D H8 11 a0 10).toInt = (fI D H6 11 a0 10).toInt := congrArg Int32.toInt (K8.fI ga0 rfl (by decide) (by decide +kernel))
              have y8_12 : (fI D H8 11 a0 12).toInt = (fI D H6 11 a0 12).toInt := congrArg Int32.toInt (K8.fI ga0 rfl (by decide) (by decide +kernel))
              have y8_13 : (fI D H8 11 a0 13).toInt = (fI D H6 11 a0 13).toInt := congrArg Int32.toInt (K8.fI ga0 rfl (by decide) (by decide +kernel))
              have lq8 : Lq D H6 H8 a0 := tq8
              have tk8 : Lq D s.heap H8 a0 := tk6.trans lq8
              refine lv_goto (tgt := 9) hx hb dX12_readCond_34 (by decide) ?_
              have e9 : Ex (Cs D H8 a0) (fI D s.heap 11 a0 16).toInt.toNat (fI D H8 11 a0 16).toInt.toNat := (Ex.bin (((lq4.trans lq6).trans lq8).ex u9_0 (by omega)) ((lq8.ex (sx6 (by omega)) (by omega)).at (i' := (fI D H_9 11 a0 16).toInt.toNat) (by omega) rfl) (by rw [qb8]; decide) rfl).at (by omega) (by omega)
              exact ih9  H8 L8 ls S8 e9 (by omega) tk8 (by omega) (lv_sub hl [0] rfl)
            · have b7 : v6.toInt = (0 : Int32).toInt := i_eq.mp c7
              refine lv_iconst (v := 0) hx hb dX12_readCond_25 (by decide) ?_
              exact retE_z hQ C S6 hr dX12_readCond_26 (z01 (by omega) (by omega)) (⟨by omega, fun h9 => absurd h9 (by decide), fun h9 => absurd h9 (by decide), tk6⟩)
        · skip
          refine lv_if_eq (tgt := 37) hx hb dX12_readCond_15 (by decide) (fun c9 => ?_) (fun c9 => ?_)
          · have b9 : v4.toInt = (0 : Int32).toInt := i_eq.mp c9
            refine lv_iconst (v := 1) hx hb dX12_readCond_37 (by decide) ?_
            have k_1 : (1 : Int32).toInt = 1 := by decide
            exact retE_z hQ C S4 hr dX12_readCond_38 (z01 (by omega) (by omega)) (⟨by omega, fun _ => by omega, fun _ => (lq4.ex u9_0 (by omega)).at (by omega) (by omega), tk4⟩)
          · have b9 : ¬ v4.toInt = (0 : Int32).toInt := fun z9 => c9 (i_eq.mpr z9)
            exact absurd b9 (by omega)
    have ex0 := sx1 (by omega)
    have rn : 0 ≤ (fI D H1 11 a0 10).toInt ∧ (fI D H1 11 a0 10).toInt ≤ 400 := S1.1.rng ga0 rfl (by decide) rfl
    exact Lp9 402  H1 L1 ls S1 (ex0.at (by omega) rfl) (by omega) tk1  (by omega) (lv_sub hl [0] rfl)
  · have b2 : v1.toInt = (0 : Int32).toInt := i_eq.mp c2
    refine lv_iconst (v := 0) hx hb dX12_readCond_7 (by decide) ?_
    exact retE_z hQ C S1 hr dX12_readCond_8 (z01 (by omega) (by omega)) (⟨by omega, fun h9 => absurd h9 (by decide), fun h9 => absurd h9 (by decide), tk1⟩)

set_option maxRecDepth 100000 in
set_option maxHeartbeats 4000000 in
theorem c_X12_readAtom_d0 (l : Launch) (D : DD) (G : Nat → Nat) (a0 : Nat) (ga0 : G a0 = 30) : CE l D G yX12_readAtom cX12_readAtom 2 (some .boolean) 25 [.ref a0] (fun H => (fI D H 11 a0 13).toInt = 0 ∧ (fI D H 11 a0 16).toInt + 3 ≤ (fI D H 11 a0 10).toInt) [(30, 10), (30, 12), (30, 16), (31, 0), (30, 13)] (xI (fun H r H1 => (0 ≤ r.toInt ∧ r.toInt ≤ 1) ∧ (r.toInt = 1 → (fI D H1 11 a0 16).toInt - (fI D H 11 a0 16).toInt ≤ (fI D H1 11 a0 10).toInt - (fI D H 11 a0 10).toInt ∧ (fI D H1 11 a0 13).toInt = (fI D H 11 a0 13).toInt ∧ (fI D H 11 a0 10).toInt ≤ (fI D H1 11 a0 10).toInt) ∧ (r.toInt = 1 → Ex (Cs D H1 a0) (fI D H 11 a0 16).toInt.toNat (fI D H1 11 a0 16).toInt.toNat) ∧ Lq D H H1 a0)) := by
  refine enter (by decide) (Nat.le_of_ble_eq_true rfl) ?_
  intro p e s m args below meth c ls Q hA hQ C hr hO hpre hl
  have hx := C.1
  have hb := C.2.1
  have S : Sd D G [(30, 10), (30, 12), (30, 16), (31, 0), (30, 13)] s.heap s.heap [] := Sd.start hO
  have hl : lv_has ls 2 [(0, .ref a0)] := hl
  have rs0 : 0 ≤ (fI D s.heap 11 a0 16).toInt ∧ (fI D s.heap 11 a0 16).toInt ≤ 400 := hO.rng ga0 rfl (by decide) rfl
  have rp0 : 0 ≤ (fI D s.heap 11 a0 10).toInt ∧ (fI D s.heap 11 a0 10).toInt ≤ 400 := hO.rng ga0 rfl (by decide) rfl
  have tk0 : Lq D s.heap s.heap a0 := Lq.refl
  refine lv_aload_n hx hb dX12_readAtom_0 rfl (lv_at hl 0 rfl) ?_
  refine lv_bipush (v := 40) hx hb dX12_readAtom_1 (by decide) ?_
  have k_40 : (40 : Int32).toInt = 40 := by decide
  refine callV_Ei C S (c_X12_sign l D G a0 (40 : Int32) ga0) kV_X12_193 ga0 (trivial) (by decide +kernel) dX12_readAtom_3 hl.1 rfl rfl (by decide) cd_X12_sign ⟨Nat.le_of_ble_eq_true rfl, Nat.le_of_ble_eq_true rfl, Nat.le_of_ble_eq_true rfl, Nat.le_of_ble_eq_true rfl, Nat.le_of_ble_eq_true rfl⟩ (fun v1 H1 L1 S1 K1 q1 => ?_)
  have y1_13 : (fI D H1 11 a0 13).toInt = (fI D s.heap 11 a0 13).toInt := congrArg Int32.toInt (K1.fI ga0 rfl (by decide) (by decide +kernel))
  have y1_16 : (fI D H1 11 a0 16).toInt = (fI D s.heap 11 a0 16).toInt := congrArg Int32.toInt (K1.fI ga0 rfl (by decide) (by decide +kernel))
  have lq1 : Lq D s.heap H1 a0 := Lq.keep S.1 ga0 K1 (by decide +kernel) (by decide +kernel) (by decide +kernel)
  have tk1 : Lq D s.heap H1 a0 := tk0.trans lq1
  rcases q1 with q1 | q1
  · skip
    have k_0 : (0 : Int32).toInt = 0 := by decide
    refine lv_if_eq (tgt := 56) hx hb dX12_readAtom_6 (by decide) (fun c2 => ?_) (fun c2 => ?_)
    · have b2 : v1.toInt = (0 : Int32).toInt := i_eq.mp c2
      exact absurd b2 (by omega)
    · have b2 : ¬ v1.toInt = (0 : Int32).toInt := fun z9 => c2 (i_eq.mpr z9)
      refine lv_aload_n hx hb dX12_readAtom_9 rfl (lv_at hl 0 rfl) ?_
      have dd : (fI D H1 11 a0 13).toInt = 0 := by omega
      refine q_gi (T := TX12) C S1.1 ga0 13 kF_X12_197 dX12_readAtom_10 rfl rfl (by decide) rfl (by decide) rfl ?_
      have r3 : 0 ≤ (fI D H1 11 a0 13).toInt ∧ (fI D H1 11 a0 13).toInt ≤ 6 := S1.1.rng ga0 rfl (by decide) rfl
      refine lv_bipush (v := 6) hx hb dX12_readAtom_13 (by decide) ?_
      have k_6 : (6 : Int32).toInt = 6 := by decide
      refine lv_icmp_ne (tgt := 20) hx hb dX12_readAtom_15 (by decide) (fun c4 => ?_) (fun c4 => ?_)
      · have b4 : ¬ (fI D H1 11 a0 13).toInt = (6 : Int32).toInt := fun z9 => c4 (i_eq.mpr z9)
        refine lv_aload_n hx hb dX12_readAtom_20 rfl (lv_at hl 0 rfl) ?_
        refine lv_dup hx hb dX12_readAtom_21 rfl ?_
        refine q_gi (T := TX12) C S1.1 ga0 13 kF_X12_197 dX12_readAtom_22 rfl rfl (by decide) rfl (by decide) rfl ?_
        refine lv_iconst (v := 1) hx hb dX12_readAtom_25 (by decide) ?_
        have k_1 : (1 : Int32).toInt = 1 := by decide
        refine lv_iadd hx hb dX12_readAtom_26 ?_
        refine lv_topi (fun v5 ev5 => ?_)
        have f6 : v5.toInt = (fI D H1 11 a0 13).toInt + (1 : Int32).toInt := by rw [ev5]; exact i_add (by omega) (by omega)
        refine q_put (T := TX12) C S1 ga0 13 kF_X12_197 dX12_readAtom_27 rfl rfl (by decide) (by decide) rfl rfl rfl rfl rfl (vok_i rfl (by omega) (by omega)) (by decide +kernel) (fun H7 L7 S7 P7 => ?_)
        have y7_10 : (fI D H7 11 a0 10).toInt = (fI D H1 11 a0 10).toInt := congrArg Int32.toInt (Pt.o P7 (by decide) (by decide))
        have y7_12 : (fI D H7 11 a0 12).toInt = (fI D H1 11 a0 12).toInt := congrArg Int32.toInt (Pt.o P7 (by decide) (by decide))
        have y7_13 : (fI D H7 11 a0 13).toInt = v5.toInt := congrArg Int32.toInt (Pt.i P7)
        have y7_16 : (fI D H7 11 a0 16).toInt = (fI D H1 11 a0 16).toInt := congrArg Int32.toInt (Pt.o P7 (by decide) (by decide))
        have lq7 : Lq D H1 H7 a0 := Lq.put S1.1 ga0 P7 (by decide) (by decide)
        have tk7 : Lq D s.heap H7 a0 := tk1.trans lq7
        refine lv_aload_n hx hb dX12_readAtom_30 rfl (lv_at hl 0 rfl) ?_
        have rs9 : 0 ≤ (fI D H7 11 a0 16).toInt ∧ (fI D H7 11 a0 16).toInt ≤ 400 := S7.1.rng ga0 rfl (by decide) rfl
        have rp9 : 0 ≤ (fI D H7 11 a0 10).toInt ∧ (fI D H7 11 a0 10).toInt ≤ 400 := S7.1.rng ga0 rfl (by decide) rfl
        refine callV_Ei C S7 (c_X12_readCond_d1 l D G a0 ga0) kV_X12_200 ga0 (⟨by omega, by omega⟩) (by decide +kernel) dX12_readAtom_31 hl.1 rfl rfl (by decide) cd_X12_readCond ⟨Nat.le_of_ble_eq_true rfl, Nat.le_of_ble_eq_true rfl, Nat.le_of_ble_eq_true rfl, Nat.le_of_ble_eq_true rfl, Nat.le_of_ble_eq_true rfl⟩ (fun v8 H8 L8 S8 K8 q8 => ?_)
        obtain ⟨q8, sa8, sx8, tq8⟩ := q8
        have lq8 : Lq D H7 H8 a0 := tq8
        have tk8 : Lq D s.heap H8 a0 := tk7.trans lq8
        refine lv_if_ne (tgt := 39) hx hb dX12_readAtom_34 (by decide) (fun c9 => ?_) (fun c9 => ?_)
        · have b9 : ¬ v8.toInt = (0 : Int32).toInt := fun z9 => c9 (i_eq.mpr z9)
          refine lv_aload_n hx hb dX12_readAtom_39 rfl (lv_at hl 0 rfl) ?_
          refine lv_dup hx hb dX12_readAtom_40 rfl ?_
          refine q_gi (T := TX12) C S8.1 ga0 13 kF_X12_197 dX12_readAtom_41 rfl rfl (by decide) rfl (by decide) rfl ?_
          have r10 : 0 ≤ (fI D H8 11 a0 13).toInt ∧ (fI D H8 11 a0 13).toInt ≤ 6 := S8.1.rng ga0 rfl (by decide) rfl
          refine lv_iconst (v := 1) hx hb dX12_readAtom_44 (by decide) ?_
          refine lv_isub hx hb dX12_readAtom_45 ?_
          refine lv_topi (fun v11 ev11 => ?_)
          have f12 : v11.toInt = (fI D H8 11 a0 13).toInt - (1 : Int32).toInt := by rw [ev11]; exact i_sub (by omega) (by omega)
          refine q_put (T := TX12) C S8 ga0 13 kF_X12_197 dX12_readAtom_46 rfl rfl (by decide) (by decide) rfl rfl rfl rfl rfl (vok_i rfl (by omega) (by omega)) (by decide +kernel) (fun H13 L13 S13 P13 => ?_)
          have y13_10 : (fI D H13 11 a0 10).toInt = (fI D H8 11 a0 10).toInt := congrArg Int32.toInt (Pt.o P13 (by decide) (by decide))
          have y13_12 : (fI D H13 11 a0 12).toInt = (fI D H8 11 a0 12).toInt := congrArg Int32.toInt (Pt.o P13 (by decide) (by decide))
          have y13_13 : (fI D H13 11 a0 13).toInt = v11.toInt := congrArg Int32.toInt (Pt.i P13)
          have y13_16 : (fI D H13 11 a0 16).toInt = (fI D H8 11 a0 16).toInt := congrArg Int32.toInt (Pt.o P13 (by decide) (by decide))
          have lq13 : Lq D H8 H13 a0 := Lq.put S8.1 ga0 P13 (by decide) (by decide)
          have tk13 : Lq D s.heap H13 a0 := tk8.trans lq13
          have rs9 : 0 ≤ (fI D H13 11 a0 16).toInt ∧ (fI D H13 11 a0 16).toInt ≤ 400 := S13.1.rng ga0 rfl (by decide) rfl
          have rp9 : 0 ≤ (fI D H13 11 a0 10).toInt ∧ (fI D H13 11 a0 10).toInt ≤ 400 := S13.1.rng ga0 rfl (by decide) rfl
          refine lv_aload_n hx hb dX12_readAtom_49 rfl (lv_at hl 0 rfl) ?_
          refine lv_bipush (v := 41) hx hb dX12_readAtom_50 (by decide) ?_
          have k_41 : (41 : Int32).toInt = 41 := by decide
          refine callV_Ei C S13 (c_X12_sign l D G a0 (41 : Int32) ga0) kV_X12_193 ga0 (trivial) (by decide +kernel) dX12_readAtom_52 hl.1 rfl rfl (by decide) cd_X12_sign ⟨Nat.le_of_ble_eq_true rfl, Nat.le_of_ble_eq_true rfl, Nat.le_of_ble_eq_true rfl, Nat.le_of_ble_eq_true rfl, Nat.le_of_ble_eq_true rfl⟩ (fun v14 H14 L14 S14 K14 q14 => ?_)
          have y14_13 : (fI D H14 11 a0 13).toInt = (fI D H13 11 a0 13).toInt := congrArg Int32.toInt (K14.fI ga0 rfl (by decide) (by decide +kernel))
          have y14_16 : (fI D H14 11 a0 16).toInt = (fI D H13 11 a0 16).toInt := congrArg Int32.toInt (K14.fI ga0 rfl (by decide) (by decide +kernel))
          have lq14 : Lq D H13 H14 a0 := Lq.keep S13.1 ga0 K14 (by decide +kernel) (by decide +kernel) (by decide +kernel)
          have tk14 : Lq D s.heap H14 a0 := tk13.trans lq14
          rcases q14 with q14 | q14
          · skip
            exact retE_z hQ C S14 hr dX12_readAtom_55 (z01 (by omega) (by omega)) (⟨by omega, fun _ => by omega, fun _ => ((lq13.trans lq14).ex (sx8 (by omega)) (by omega)).at (by omega) (by omega), tk14⟩)
          · skip
            exact retE_z hQ C S14 hr dX12_readAtom_55 (z01 (by omega) (by omega)) (⟨by omega, fun _ => by omega, fun _ => ((lq13.trans lq14).ex (sx8 (by omega)) (by omega)).at (by omega) (by omega), tk14⟩)
        · have b9 : v8.toInt = (0 : Int32).toInt := i_eq.mp c9
          refine lv_iconst (v := 0) hx hb dX12_readAtom_37 (by decide) ?_
          exact retE_z hQ C S8 hr dX12_readAtom_38 (z01 (by omega) (by omega)) (⟨by omega, fun h9 => absurd h9 (by decide), fun h9 => absurd h9 (by decide), tk8⟩)
      · have b4 : (fI D H1 11 a0 13).toInt = (6 : Int32).toInt := i_eq.mp c4
        exact absurd b4 (by omega)
  · skip
    have k_0 : (0 : Int32).toInt = 0 := by decide
    refine lv_if_eq (tgt := 56) hx hb dX12_readAtom_6 (by decide) (fun c15 => ?_) (fun c15 => ?_)
    · have b15 : v1.toInt = (0 : Int32).toInt := i_eq.mp c15
      refine lv_aload_n hx hb dX12_readAtom_56 rfl (lv_at hl 0 rfl) ?_
      refine q_lds C ks_X12_203 dX12_readAtom_57 (fun a16 ha16 => ?_)
      refine callV_Ei C S1 (c_X12_passes_w l D G a0 a16 3 ga0 ha16) kV_X12_120 ga0 (trivial) (by decide +kernel) dX12_readAtom_59 hl.1 rfl rfl (by decide) cd_X12_passes ⟨Nat.le_of_ble_eq_true rfl, Nat.le_of_ble_eq_true rfl, Nat.le_of_ble_eq_true rfl, Nat.le_of_ble_eq_true rfl, Nat.le_of_ble_eq_true rfl⟩ (fun v17 H17 L17 S17 K17 q17 => ?_)
      have y17_13 : (fI D H17 11 a0 13).toInt = (fI D H1 11 a0 13).toInt := congrArg Int32.toInt (K17.fI ga0 rfl (by decide) (by decide +kernel))
      have y17_16 : (fI D H17 11 a0 16).toInt = (fI D H1 11 a0 16).toInt := congrArg Int32.toInt (K17.fI ga0 rfl (by decide) (by decide +kernel))
      have lq17 : Lq D H1 H17 a0 := Lq.keep S1.1 ga0 K17 (by decide +kernel) (by decide +kernel) (by decide +kernel)
      have tk17 : Lq D s.heap H17 a0 := tk1.trans lq17
      rcases q17 with q17 | q17
      · skip
        refine lv_if_eq (tgt := 114) hx hb dX12_readAtom_62 (by decide) (fun c18 => ?_) (fun c18 => ?_)
        · have b18 : v17.toInt = (0 : Int32).toInt := i_eq.mp c18
          exact absurd b18 (by omega)
        · have b18 : ¬ v17.toInt = (0 : Int32).toInt := fun z9 => c18 (i_eq.mpr z9)
          refine lv_aload_n hx hb dX12_readAtom_65 rfl (lv_at hl 0 rfl) ?_
          have dd : (fI D H17 11 a0 13).toInt = 0 := by omega
          refine q_gi (T := TX12) C S17.1 ga0 13 kF_X12_197 dX12_readAtom_66 rfl rfl (by decide) rfl (by decide) rfl ?_
          have r19 : 0 ≤ (fI D H17 11 a0 13).toInt ∧ (fI D H17 11 a0 13).toInt ≤ 6 := S17.1.rng ga0 rfl (by decide) rfl
          refine lv_bipush (v := 6) hx hb dX12_readAtom_69 (by decide) ?_
          have k_6 : (6 : Int32).toInt = 6 := by decide
          refine lv_icmp_ne (tgt := 76) hx hb dX12_readAtom_71 (by decide) (fun c20 => ?_) (fun c20 => ?_)
          · have b20 : ¬ (fI D H17 11 a0 13).toInt = (6 : Int32).toInt := fun z9 => c20 (i_eq.mpr z9)
            refine lv_aload_n hx hb dX12_readAtom_76 rfl (lv_at hl 0 rfl) ?_
            refine lv_dup hx hb dX12_readAtom_77 rfl ?_
            refine q_gi (T := TX12) C S17.1 ga0 13 kF_X12_197 dX12_readAtom_78 rfl rfl (by decide) rfl (by decide) rfl ?_
            refine lv_iconst (v := 1) hx hb dX12_readAtom_81 (by decide) ?_
            have k_1 : (1 : Int32).toInt = 1 := by decide
            refine lv_iadd hx hb dX12_readAtom_82 ?_
            refine lv_topi (fun v21 ev21 => ?_)
            have f22 : v21.toInt = (fI D H17 11 a0 13).toInt + (1 : Int32).toInt := by rw [ev21]; exact i_add (by omega) (by omega)
            refine q_put (T := TX12) C S17 ga0 13 kF_X12_197 dX12_readAtom_83 rfl rfl (by decide) (by decide) rfl rfl rfl rfl rfl (vok_i rfl (by omega) (by omega)) (by decide +kernel) (fun H23 L23 S23 P23 => ?_)
            have y23_10 : (fI D H23 11 a0 10).toInt = (fI D H17 11 a0 10).toInt := congrArg Int32.toInt (Pt.o P23 (by decide) (by decide))
            have y23_12 : (fI D H23 11 a0 12).toInt = (fI D H17 11 a0 12).toInt := congrArg Int32.toInt (Pt.o P23 (by decide) (by decide))
            have y23_13 : (fI D H23 11 a0 13).toInt = v21.toInt := congrArg Int32.toInt (Pt.i P23)
            have y23_16 : (fI D H23 11 a0 16).toInt = (fI D H17 11 a0 16).toInt := congrArg Int32.toInt (Pt.o P23 (by decide) (by decide))
            have lq23 : Lq D H17 H23 a0 := Lq.put S17.1 ga0 P23 (by decide) (by decide)
            have tk23 : Lq D s.heap H23 a0 := tk17.trans lq23
            refine lv_aload_n hx hb dX12_readAtom_86 rfl (lv_at hl 0 rfl) ?_
            have rs9 : 0 ≤ (fI D H23 11 a0 16).toInt ∧ (fI D H23 11 a0 16).toInt ≤ 400 := S23.1.rng ga0 rfl (by decide) rfl
            have rp9 : 0 ≤ (fI D H23 11 a0 10).toInt ∧ (fI D H23 11 a0 10).toInt ≤ 400 := S23.1.rng ga0 rfl (by decide) rfl
            refine callV_Ei C S23 (c_X12_readAtom_d1 l D G a0 ga0) kV_X12_205 ga0 (⟨by omega, by omega⟩) (by decide +kernel) dX12_readAtom_87 hl.1 rfl rfl (by decide) cd_X12_readAtom ⟨Nat.le_of_ble_eq_true rfl, Nat.le_of_ble_eq_true rfl, Nat.le_of_ble_eq_true rfl, Nat.le_of_ble_eq_true rfl, Nat.le_of_ble_eq_true rfl⟩ (fun v24 H24 L24 S24 K24 q24 => ?_)
            obtain ⟨q24, sa24, sx24, tq24⟩ := q24
            have lq24 : Lq D H23 H24 a0 := tq24
            have tk24 : Lq D s.heap H24 a0 := tk23.trans lq24
            refine lv_if_ne (tgt := 95) hx hb dX12_readAtom_90 (by decide) (fun c25 => ?_) (fun c25 => ?_)
            · have b25 : ¬ v24.toInt = (0 : Int32).toInt := fun z9 => c25 (i_eq.mpr z9)
              refine lv_aload_n hx hb dX12_readAtom_95 rfl (lv_at hl 0 rfl) ?_
              refine lv_dup hx hb dX12_readAtom_96 rfl ?_
              refine q_gi (T := TX12) C S24.1 ga0 13 kF_X12_197 dX12_readAtom_97 rfl rfl (by decide) rfl (by decide) rfl ?_
              have r26 : 0 ≤ (fI D H24 11 a0 13).toInt ∧ (fI D H24 11 a0 13).toInt ≤ 6 := S24.1.rng ga0 rfl (by decide) rfl
              refine lv_iconst (v := 1) hx hb dX12_readAtom_100 (by decide) ?_
              refine lv_isub hx hb dX12_readAtom_101 ?_
              refine lv_topi (fun v27 ev27 => ?_)
              have f28 : v27.toInt = (fI D H24 11 a0 13).toInt - (1 : Int32).toInt := by rw [ev27]; exact i_sub (by omega) (by omega)
              refine q_put (T := TX12) C S24 ga0 13 kF_X12_197 dX12_readAtom_102 rfl rfl (by decide) (by decide) rfl rfl rfl rfl rfl (vok_i rfl (by omega) (by omega)) (by decide +kernel) (fun H29 L29 S29 P29 => ?_)
              have y29_10 : (fI D H29 11 a0 10).toInt = (fI D H24 11 a0 10).toInt := congrArg Int32.toInt (Pt.o P29 (by decide) (by decide))
              have y29_12 : (fI D H29 11 a0 12).toInt = (fI D H24 11 a0 12).toInt := congrArg Int32.toInt (Pt.o P29 (by decide) (by decide))
              have y29_13 : (fI D H29 11 a0 13).toInt = v27.toInt := congrArg Int32.toInt (Pt.i P29)
              have y29_16 : (fI D H29 11 a0 16).toInt = (fI D H24 11 a0 16).toInt := congrArg Int32.toInt (Pt.o P29 (by decide) (by decide))
              have lq29 : Lq D H24 H29 a0 := Lq.put S24.1 ga0 P29 (by decide) (by decide)
              have tk29 : Lq D s.heap H29 a0 := tk24.trans lq29
              refine lv_aload_n hx hb dX12_readAtom_105 rfl (lv_at hl 0 rfl) ?_
              refine lv_bipush (v := 15) hx hb dX12_readAtom_106 (by decide) ?_
              refine lv_iconst (v := 0) hx hb dX12_readAtom_108 (by decide) ?_
              have rs9 : 0 ≤ (fI D H29 11 a0 16).toInt ∧ (fI D H29 11 a0 16).toInt ≤ 400 := S29.1.rng ga0 rfl (by decide) rfl
              have rp9 : 0 ≤ (fI D H29 11 a0 10).toInt ∧ (fI D H29 11 a0 10).toInt ≤ 400 := S29.1.rng ga0 rfl (by decide) rfl
              have k_15 : (15 : Int32).toInt = 15 := by decide
              refine callV_Ev C S29 (c_X12_emits l D G a0 (15 : Int32) (0 : Int32) ga0) kV_X12_185 ga0 (by omega) (by decide +kernel) dX12_readAtom_109 hl.1 rfl rfl (by decide) cd_X12_emits ⟨Nat.le_of_ble_eq_true rfl, Nat.le_of_ble_eq_true rfl, Nat.le_of_ble_eq_true rfl, Nat.le_of_ble_eq_true rfl, Nat.le_of_ble_eq_true rfl⟩ (fun H30 L30 S30 K30 q30 => ?_)
              obtain ⟨qa30, qb30, tq30⟩ := q30
              have y30_10 : (fI D H30 11 a0 10).toInt = (fI D H29 11 a0 10).toInt := congrArg Int32.toInt (K30.fI ga0 rfl (by decide) (by decide +kernel))
              have y30_12 : (fI D H30 11 a0 12).toInt = (fI D H29 11 a0 12).toInt := congrArg Int32.toInt (K30.fI ga0 rfl (by decide) (by decide +kernel))
              have y30_13 : (fI D H30 11 a0 13).toInt = (fI D H29 11 a0 13).toInt := congrArg Int32.toInt (K30.fI ga0 rfl (by decide) (by decide +kernel))
              have lq30 : Lq D H29 H30 a0 := tq30
              have tk30 : Lq D s.heap H30 a0 := tk29.trans lq30
              refine lv_iconst (v := 1) hx hb dX12_readAtom_112 (by decide) ?_
              exact retE_z hQ C S30 hr dX12_readAtom_113 (z01 (by omega) (by omega)) (⟨by omega, fun _ => by omega, fun _ => (Ex.un (((lq29.trans lq30).ex (sx24 (by omega)) (by omega)).at (j' := (fI D H29 11 a0 16).toInt.toNat) rfl (by omega)) (by rw [qb30]; decide) rfl).at (by omega) (by omega), tk30⟩)
            · have b25 : v24.toInt = (0 : Int32).toInt := i_eq.mp c25
              refine lv_iconst (v := 0) hx hb dX12_readAtom_93 (by decide) ?_
              exact retE_z hQ C S24 hr dX12_readAtom_94 (z01 (by omega) (by omega)) (⟨by omega, fun h9 => absurd h9 (by decide), fun h9 => absurd h9 (by decide), tk24⟩)
          · have b20 : (fI D H17 11 a0 13).toInt = (6 : Int32).toInt := i_eq.mp c20
            exact absurd b20 (by omega)
      · skip
        refine lv_if_eq (tgt := 114) hx hb dX12_readAtom_62 (by decide) (fun c31 => ?_) (fun c31 => ?_)
        · have b31 : v17.toInt = (0 : Int32).toInt := i_eq.mp c31
          refine lv_aload_n hx hb dX12_readAtom_114 rfl (lv_at hl 0 rfl) ?_
          have rs9 : 0 ≤ (fI D H17 11 a0 16).toInt ∧ (fI D H17 11 a0 16).toInt ≤ 400 := S17.1.rng ga0 rfl (by decide) rfl
          have rp9 : 0 ≤ (fI D H17 11 a0 10).toInt ∧ (fI D H17 11 a0 10).toInt ≤ 400 := S17.1.rng ga0 rfl (by decide) rfl
          refine callV_Ei C S17 (c_X12_readTag l D G a0 ga0) kV_X12_208 ga0 (by omega) (by decide +kernel) dX12_readAtom_115 hl.1 rfl rfl (by decide) cd_X12_readTag ⟨Nat.le_of_ble_eq_true rfl, Nat.le_of_ble_eq_true rfl, Nat.le_of_ble_eq_true rfl, Nat.le_of_ble_eq_true rfl, Nat.le_of_ble_eq_true rfl⟩ (fun v32 H32 L32 S32 K32 q32 => ?_)
          obtain ⟨q32, sa32, sx32, tq32, sf32⟩ := q32
          have y32_13 : (fI D H32 11 a0 13).toInt = (fI D H17 11 a0 13).toInt := congrArg Int32.toInt (K32.fI ga0 rfl (by decide) (by decide +kernel))
          have lq32 : Lq D H17 H32 a0 := tq32
          have tk32 : Lq D s.heap H32 a0 := tk17.trans lq32
          refine lv_if_eq (tgt := 123) hx hb dX12_readAtom_118 (by decide) (fun c33 => ?_) (fun c33 => ?_)
          · have b33 : v32.toInt = (0 : Int32).toInt := i_eq.mp c33
            refine lv_aload_n hx hb dX12_readAtom_123 rfl (lv_at hl 0 rfl) ?_
            have rs9 : 0 ≤ (fI D H32 11 a0 16).toInt ∧ (fI D H32 11 a0 16).toInt ≤ 400 := S32.1.rng ga0 rfl (by decide) rfl
            have rp9 : 0 ≤ (fI D H32 11 a0 10).toInt ∧ (fI D H32 11 a0 10).toInt ≤ 400 := S32.1.rng ga0 rfl (by decide) rfl
            refine callV_Ei C S32 (c_X12_readSum l D G a0 ga0) kV_X12_211 ga0 (by omega) (by decide +kernel) dX12_readAtom_124 hl.1 rfl rfl (by decide) cd_X12_readSum ⟨Nat.le_of_ble_eq_true rfl, Nat.le_of_ble_eq_true rfl, Nat.le_of_ble_eq_true rfl, Nat.le_of_ble_eq_true rfl, Nat.le_of_ble_eq_true rfl⟩ (fun v34 H34 L34 S34 K34 q34 => ?_)
            obtain ⟨q34, sa34, sx34, tq34⟩ := q34
            have y34_13 : (fI D H34 11 a0 13).toInt = (fI D H32 11 a0 13).toInt := congrArg Int32.toInt (K34.fI ga0 rfl (by decide) (by decide +kernel))
            have lq34 : Lq D H32 H34 a0 := tq34
            have tk34 : Lq D s.heap H34 a0 := tk32.trans lq34
            refine lv_if_ne (tgt := 132) hx hb dX12_readAtom_127 (by decide) (fun c35 => ?_) (fun c35 => ?_)
            · have b35 : ¬ v34.toInt = (0 : Int32).toInt := fun z9 => c35 (i_eq.mpr z9)
              refine lv_aload_n hx hb dX12_readAtom_132 rfl (lv_at hl 0 rfl) ?_
              refine lv_bipush (v := 60) hx hb dX12_readAtom_133 (by decide) ?_
              have k_60 : (60 : Int32).toInt = 60 := by decide
              refine callV_Ei C S34 (c_X12_sign l D G a0 (60 : Int32) ga0) kV_X12_193 ga0 (trivial) (by decide +kernel) dX12_readAtom_135 hl.1 rfl rfl (by decide) cd_X12_sign ⟨Nat.le_of_ble_eq_true rfl, Nat.le_of_ble_eq_true rfl, Nat.le_of_ble_eq_true rfl, Nat.le_of_ble_eq_true rfl, Nat.le_of_ble_eq_true rfl⟩ (fun v36 H36 L36 S36 K36 q36 => ?_)
              have y36_13 : (fI D H36 11 a0 13).toInt = (fI D H34 11 a0 13).toInt := congrArg Int32.toInt (K36.fI ga0 rfl (by decide) (by decide +kernel))
              have y36_16 : (fI D H36 11 a0 16).toInt = (fI D H34 11 a0 16).toInt := congrArg Int32.toInt (K36.fI ga0 rfl (by decide) (by decide +kernel))
              have lq36 : Lq D H34 H36 a0 := Lq.keep S34.1 ga0 K36 (by decide +kernel) (by decide +kernel) (by decide +kernel)
              have tk36 : Lq D s.heap H36 a0 := tk34.trans lq36
              rcases q36 with q36 | q36
              · skip
                refine lv_istore_n (lv' := [(1, .int v36), (0, .ref a0)]) hx hb dX12_readAtom_138 rfl hl (by decide) rfl (fun ls hl => ?_)
                refine lv_iload_n hx hb dX12_readAtom_139 rfl (lv_at hl 0 rfl) ?_
                refine lv_if_ne (tgt := 152) hx hb dX12_readAtom_140 (by decide) (fun c37 => ?_) (fun c37 => ?_)
                · have b37 : ¬ v36.toInt = (0 : Int32).toInt := fun z9 => c37 (i_eq.mpr z9)
                  refine lv_aload_n hx hb dX12_readAtom_152 rfl (lv_at hl 1 rfl) ?_
                  have rs9 : 0 ≤ (fI D H36 11 a0 16).toInt ∧ (fI D H36 11 a0 16).toInt ≤ 400 := S36.1.rng ga0 rfl (by decide) rfl
                  have rp9 : 0 ≤ (fI D H36 11 a0 10).toInt ∧ (fI D H36 11 a0 10).toInt ≤ 400 := S36.1.rng ga0 rfl (by decide) rfl
                  refine callV_Ei C S36 (c_X12_readSum l D G a0 ga0) kV_X12_211 ga0 (by omega) (by decide +kernel) dX12_readAtom_153 hl.1 rfl rfl (by decide) cd_X12_readSum ⟨Nat.le_of_ble_eq_true rfl, Nat.le_of_ble_eq_true rfl, Nat.le_of_ble_eq_true rfl, Nat.le_of_ble_eq_true rfl, Nat.le_of_ble_eq_true rfl⟩ (fun v38 H38 L38 S38 K38 q38 => ?_)
                  obtain ⟨q38, sa38, sx38, tq38⟩ := q38
                  have y38_13 : (fI D H38 11 a0 13).toInt = (fI D H36 11 a0 13).toInt := congrArg Int32.toInt (K38.fI ga0 rfl (by decide) (by decide +kernel))
                  have lq38 : Lq D H36 H38 a0 := tq38
                  have tk38 : Lq D s.heap H38 a0 := tk36.trans lq38
                  refine lv_if_ne (tgt := 161) hx hb dX12_readAtom_156 (by decide) (fun c39 => ?_) (fun c39 => ?_)
                  · have b39 : ¬ v38.toInt = (0 : Int32).toInt := fun z9 => c39 (i_eq.mpr z9)
                    refine lv_aload_n hx hb dX12_readAtom_161 rfl (lv_at hl 1 rfl) ?_
                    refine lv_iload_n hx hb dX12_readAtom_162 rfl (lv_at hl 0 rfl) ?_
                    refine lv_if_eq (tgt := 171) hx hb dX12_readAtom_163 (by decide) (fun c40 => ?_) (fun c40 => ?_)
                    · have b40 : v36.toInt = (0 : Int32).toInt := i_eq.mp c40
                      exact absurd b40 (by omega)
                    · have b40 : ¬ v36.toInt = (0 : Int32).toInt := fun z9 => c40 (i_eq.mpr z9)
                      refine lv_bipush (v := 13) hx hb dX12_readAtom_166 (by decide) ?_
                      refine lv_goto (tgt := 173) hx hb dX12_readAtom_168 (by decide) ?_
                      refine lv_iconst (v := 0) hx hb dX12_readAtom_173 (by decide) ?_
                      have rs9 : 0 ≤ (fI D H38 11 a0 16).toInt ∧ (fI D H38 11 a0 16).toInt ≤ 400 := S38.1.rng ga0 rfl (by decide) rfl
                      have rp9 : 0 ≤ (fI D H38 11 a0 10).toInt ∧ (fI D H38 11 a0 10).toInt ≤ 400 := S38.1.rng ga0 rfl (by decide) rfl
                      have k_13 : (13 : Int32).toInt = 13 := by decide
                      refine callV_Ev C S38 (c_X12_emits l D G a0 (13 : Int32) (0 : Int32) ga0) kV_X12_185 ga0 (by omega) (by decide +kernel) dX12_readAtom_174 hl.1 rfl rfl (by decide) cd_X12_emits ⟨Nat.le_of_ble_eq_true rfl, Nat.le_of_ble_eq_true rfl, Nat.le_of_ble_eq_true rfl, Nat.le_of_ble_eq_true rfl, Nat.le_of_ble_eq_true rfl⟩ (fun H41 L41 S41 K41 q41 => ?_)
                      obtain ⟨qa41, qb41, tq41⟩ := q41
                      have y41_10 : (fI D H41 11 a0 10).toInt = (fI D H38 11 a0 10).toInt := congrArg Int32.toInt (K41.fI ga0 rfl (by decide) (by decide +kernel))
                      have y41_12 : (fI D H41 11 a0 12).toInt = (fI D H38 11 a0 12).toInt := congrArg Int32.toInt (K41.fI ga0 rfl (by decide) (by decide +kernel))
                      have y41_13 : (fI D H41 11 a0 13).toInt = (fI D H38 11 a0 13).toInt := congrArg Int32.toInt (K41.fI ga0 rfl (by decide) (by decide +kernel))
                      have lq41 : Lq D H38 H41 a0 := tq41
                      have tk41 : Lq D s.heap H41 a0 := tk38.trans lq41
                      refine lv_iconst (v := 1) hx hb dX12_readAtom_177 (by decide) ?_
                      have k_1 : (1 : Int32).toInt = 1 := by decide
                      exact retE_z hQ C S41 hr dX12_readAtom_178 (z01 (by omega) (by omega)) (⟨by omega, fun _ => by omega, fun _ => (Ex.bin (((lq36.trans lq38).trans lq41).ex (sx34 (by omega)) (by omega)) ((lq41.ex (sx38 (by omega)) (by omega)).at (i' := (fI D H34 11 a0 16).toInt.toNat) (by omega) rfl) (by rw [qb41]; decide) rfl).at (by omega) (by omega), tk41⟩)
                  · have b39 : v38.toInt = (0 : Int32).toInt := i_eq.mp c39
                    refine lv_iconst (v := 0) hx hb dX12_readAtom_159 (by decide) ?_
                    exact retE_z hQ C S38 hr dX12_readAtom_160 (z01 (by omega) (by omega)) (⟨by omega, fun h9 => absurd h9 (by decide), fun h9 => absurd h9 (by decide), tk38⟩)
                · have b37 : v36.toInt = (0 : Int32).toInt := i_eq.mp c37
                  exact absurd b37 (by omega)
              · skip
                refine lv_istore_n (lv' := [(1, .int v36), (0, .ref a0)]) hx hb dX12_readAtom_138 rfl hl (by decide) rfl (fun ls hl => ?_)
                refine lv_iload_n hx hb dX12_readAtom_139 rfl (lv_at hl 0 rfl) ?_
                refine lv_if_ne (tgt := 152) hx hb dX12_readAtom_140 (by decide) (fun c42 => ?_) (fun c42 => ?_)
                · have b42 : ¬ v36.toInt = (0 : Int32).toInt := fun z9 => c42 (i_eq.mpr z9)
                  exact absurd b42 (by omega)
                · have b42 : v36.toInt = (0 : Int32).toInt := i_eq.mp c42
                  refine lv_aload_n hx hb dX12_readAtom_143 rfl (lv_at hl 1 rfl) ?_
                  refine lv_bipush (v := 62) hx hb dX12_readAtom_144 (by decide) ?_
                  have k_62 : (62 : Int32).toInt = 62 := by decide
                  refine callV_Ei C S36 (c_X12_sign l D G a0 (62 : Int32) ga0) kV_X12_193 ga0 (trivial) (by decide +kernel) dX12_readAtom_146 hl.1 rfl rfl (by decide) cd_X12_sign ⟨Nat.le_of_ble_eq_true rfl, Nat.le_of_ble_eq_true rfl, Nat.le_of_ble_eq_true rfl, Nat.le_of_ble_eq_true rfl, Nat.le_of_ble_eq_true rfl⟩ (fun v43 H43 L43 S43 K43 q43 => ?_)
                  have y43_13 : (fI D H43 11 a0 13).toInt = (fI D H36 11 a0 13).toInt := congrArg Int32.toInt (K43.fI ga0 rfl (by decide) (by decide +kernel))
                  have y43_16 : (fI D H43 11 a0 16).toInt = (fI D H36 11 a0 16).toInt := congrArg Int32.toInt (K43.fI ga0 rfl (by decide) (by decide +kernel))
                  have lq43 : Lq D H36 H43 a0 := Lq.keep S36.1 ga0 K43 (by decide +kernel) (by decide +kernel) (by decide +kernel)
                  have tk43 : Lq D s.heap H43 a0 := tk36.trans lq43
                  rcases q43 with q43 | q43
                  · skip
                    refine lv_if_eq (tgt := 159) hx hb dX12_readAtom_149 (by decide) (fun c44 => ?_) (fun c44 => ?_)
                    · have b44 : v43.toInt = (0 : Int32).toInt := i_eq.mp c44
                      exact absurd b44 (by omega)
                    · have b44 : ¬ v43.toInt = (0 : Int32).toInt := fun z9 => c44 (i_eq.mpr z9)
                      refine lv_aload_n hx hb dX12_readAtom_152 rfl (lv_at hl 1 rfl) ?_
                      have rs9 : 0 ≤ (fI D H43 11 a0 16).toInt ∧ (fI D H43 11 a0 16).toInt ≤ 400 := S43.1.rng ga0 rfl (by decide) rfl
                      have rp9 : 0 ≤ (fI D H43 11 a0 10).toInt ∧ (fI D H43 11 a0 10).toInt ≤ 400 := S43.1.rng ga0 rfl (by decide) rfl
                      refine callV_Ei C S43 (c_X12_readSum l D G a0 ga0) kV_X12_211 ga0 (by omega) (by decide +kernel) dX12_readAtom_153 hl.1 rfl rfl (by decide) cd_X12_readSum ⟨Nat.le_of_ble_eq_true rfl, Nat.le_of_ble_eq_true rfl, Nat.le_of_ble_eq_true rfl, Nat.le_of_ble_eq_true rfl, Nat.le_of_ble_eq_true rfl⟩ (fun v45 H45 L45 S45 K45 q45 => ?_)
                      obtain ⟨q45, sa45, sx45, tq45⟩ := q45
                      have y45_13 : (fI D H45 11 a0 13).toInt = (fI D H43 11 a0 13).toInt := congrArg Int32.toInt (K45.fI ga0 rfl (by decide) (by decide +kernel))
                      have lq45 : Lq D H43 H45 a0 := tq45
                      have tk45 : Lq D s.heap H45 a0 := tk43.trans lq45
                      refine lv_if_ne (tgt := 161) hx hb dX12_readAtom_156 (by decide) (fun c46 => ?_) (fun c46 => ?_)
                      · have b46 : ¬ v45.toInt = (0 : Int32).toInt := fun z9 => c46 (i_eq.mpr z9)
                        refine lv_aload_n hx hb dX12_readAtom_161 rfl (lv_at hl 1 rfl) ?_
                        refine lv_iload_n hx hb dX12_readAtom_162 rfl (lv_at hl 0 rfl) ?_
                        refine lv_if_eq (tgt := 171) hx hb dX12_readAtom_163 (by decide) (fun c47 => ?_) (fun c47 => ?_)
                        · have b47 : v36.toInt = (0 : Int32).toInt := i_eq.mp c47
                          refine lv_bipush (v := 14) hx hb dX12_readAtom_171 (by decide) ?_
                          refine lv_iconst (v := 0) hx hb dX12_readAtom_173 (by decide) ?_
                          have rs9 : 0 ≤ (fI D H45 11 a0 16).toInt ∧ (fI D H45 11 a0 16).toInt ≤ 400 := S45.1.rng ga0 rfl (by decide) rfl
                          have rp9 : 0 ≤ (fI D H45 11 a0 10).toInt ∧ (fI D H45 11 a0 10).toInt ≤ 400 := S45.1.rng ga0 rfl (by decide) rfl
                          have k_14 : (14 : Int32).toInt = 14 := by decide
                          refine callV_Ev C S45 (c_X12_emits l D G a0 (14 : Int32) (0 : Int32) ga0) kV_X12_185 ga0 (by omega) (by decide +kernel) dX12_readAtom_174 hl.1 rfl rfl (by decide) cd_X12_emits ⟨Nat.le_of_ble_eq_true rfl, Nat.le_of_ble_eq_true rfl, Nat.le_of_ble_eq_true rfl, Nat.le_of_ble_eq_true rfl, Nat.le_of_ble_eq_true rfl⟩ (fun H48 L48 S48 K48 q48 => ?_)
                          obtain ⟨qa48, qb48, tq48⟩ := q48
                          have y48_10 : (fI D H48 11 a0 10).toInt = (fI D H45 11 a0 10).toInt := congrArg Int32.toInt (K48.fI ga0 rfl (by decide) (by decide +kernel))
                          have y48_12 : (fI D H48 11 a0 12).toInt = (fI D H45 11 a0 12).toInt := congrArg Int32.toInt (K48.fI ga0 rfl (by decide) (by decide +kernel))
                          have y48_13 : (fI D H48 11 a0 13).toInt = (fI D H45 11 a0 13).toInt := congrArg Int32.toInt (K48.fI ga0 rfl (by decide) (by decide +kernel))
                          have lq48 : Lq D H45 H48 a0 := tq48
                          have tk48 : Lq D s.heap H48 a0 := tk45.trans lq48
                          refine lv_iconst (v := 1) hx hb dX12_readAtom_177 (by decide) ?_
                          have k_1 : (1 : Int32).toInt = 1 := by decide
                          exact retE_z hQ C S48 hr dX12_readAtom_178 (z01 (by omega) (by omega)) (⟨by omega, fun _ => by omega, fun _ => (Ex.bin ((((lq36.trans lq43).trans lq45).trans lq48).ex (sx34 (by omega)) (by omega)) ((lq48.ex (sx45 (by omega)) (by omega)).at (i' := (fI D H34 11 a0 16).toInt.toNat) (by omega) rfl) (by rw [qb48]; decide) rfl).at (by omega) (by omega), tk48⟩)
                        · have b47 : ¬ v36.toInt = (0 : Int32).toInt := fun z9 => c47 (i_eq.mpr z9)
                          exact absurd b47 (by omega)
                      · have b46 : v45.toInt = (0 : Int32).toInt := i_eq.mp c46
                        refine lv_iconst (v := 0) hx hb dX12_readAtom_159 (by decide) ?_
                        exact retE_z hQ C S45 hr dX12_readAtom_160 (z01 (by omega) (by omega)) (⟨by omega, fun h9 => absurd h9 (by decide), fun h9 => absurd h9 (by decide), tk45⟩)
                  · skip
                    refine lv_if_eq (tgt := 159) hx hb dX12_readAtom_149 (by decide) (fun c49 => ?_) (fun c49 => ?_)
                    · have b49 : v43.toInt = (0 : Int32).toInt := i_eq.mp c49
                      refine lv_iconst (v := 0) hx hb dX12_readAtom_159 (by decide) ?_
                      exact retE_z hQ C S43 hr dX12_readAtom_160 (z01 (by omega) (by omega)) (⟨by omega, fun h9 => absurd h9 (by decide), fun h9 => absurd h9 (by decide), tk43⟩)
                    · have b49 : ¬ v43.toInt = (0 : Int32).toInt := fun z9 => c49 (i_eq.mpr z9)
                      exact absurd b49 (by omega)
            · have b35 : v34.toInt = (0 : Int32).toInt := i_eq.mp c35
              refine lv_iconst (v := 0) hx hb dX12_readAtom_130 (by decide) ?_
              exact retE_z hQ C S34 hr dX12_readAtom_131 (z01 (by omega) (by omega)) (⟨by omega, fun h9 => absurd h9 (by decide), fun h9 => absurd h9 (by decide), tk34⟩)
          · have b33 : ¬ v32.toInt = (0 : Int32).toInt := fun z9 => c33 (i_eq.mpr z9)
            refine lv_iconst (v := 1) hx hb dX12_readAtom_121 (by decide) ?_
            have k_1 : (1 : Int32).toInt = 1 := by decide
            exact retE_z hQ C S32 hr dX12_readAtom_122 (z01 (by omega) (by omega)) (⟨by omega, fun _ => by omega, fun _ => (sx32 (by omega)).at (by omega) rfl, tk32⟩)
        · have b31 : ¬ v17.toInt = (0 : Int32).toInt := fun z9 => c31 (i_eq.mpr z9)
          exact absurd b31 (by omega)
    · have b15 : ¬ v1.toInt = (0 : Int32).toInt := fun z9 => c15 (i_eq.mpr z9)
      exact absurd b15 (by omega)

set_option maxRecDepth 100000 in
set_option maxHeartbeats 4000000 in
theorem c_X12_readAllOf_d0 (l : Launch) (D : DD) (G : Nat → Nat) (a0 : Nat) (ga0 : G a0 = 30) : CE l D G yX12_readAllOf cX12_readAllOf 1 (some .boolean) 26 [.ref a0] (fun H => (fI D H 11 a0 13).toInt = 0 ∧ (fI D H 11 a0 16).toInt + 3 ≤ (fI D H 11 a0 10).toInt) [(30, 10), (30, 12), (30, 16), (31, 0), (30, 13)] (xI (fun H r H1 => (0 ≤ r.toInt ∧ r.toInt ≤ 1) ∧ (r.toInt = 1 → (fI D H1 11 a0 16).toInt - (fI D H 11 a0 16).toInt ≤ (fI D H1 11 a0 10).toInt - (fI D H 11 a0 10).toInt ∧ (fI D H1 11 a0 13).toInt = (fI D H 11 a0 13).toInt ∧ (fI D H 11 a0 10).toInt ≤ (fI D H1 11 a0 10).toInt) ∧ (r.toInt = 1 → Ex (Cs D H1 a0) (fI D H 11 a0 16).toInt.toNat (fI D H1 11 a0 16).toInt.toNat) ∧ Lq D H H1 a0)) := by
  refine enter (by decide) (Nat.le_of_ble_eq_true rfl) ?_
  intro p e s m args below meth c ls Q hA hQ C hr hO hpre hl
  have hx := C.1
  have hb := C.2.1
  have S : Sd D G [(30, 10), (30, 12), (30, 16), (31, 0), (30, 13)] s.heap s.heap [] := Sd.start hO
  have hl : lv_has ls 1 [(0, .ref a0)] := hl
  have rs0 : 0 ≤ (fI D s.heap 11 a0 16).toInt ∧ (fI D s.heap 11 a0 16).toInt ≤ 400 := hO.rng ga0 rfl (by decide) rfl
  have rp0 : 0 ≤ (fI D s.heap 11 a0 10).toInt ∧ (fI D s.heap 11 a0 10).toInt ≤ 400 := hO.rng ga0 rfl (by decide) rfl
  have tk0 : Lq D s.heap s.heap a0 := Lq.refl
  refine lv_aload_n hx hb dX12_readAllOf_0 rfl (lv_at hl 0 rfl) ?_
  refine callV_Ei C S (c_X12_readAtom_d0 l D G a0 ga0) kV_X12_205 ga0 (hpre) (by decide +kernel) dX12_readAllOf_1 hl.1 rfl rfl (by decide) cd_X12_readAtom ⟨Nat.le_of_ble_eq_true rfl, Nat.le_of_ble_eq_true rfl, Nat.le_of_ble_eq_true rfl, Nat.le_of_ble_eq_true rfl, Nat.le_of_ble_eq_true rfl⟩ (fun v1 H1 L1 S1 K1 q1 => ?_)
  obtain ⟨q1, sa1, sx1, tq1⟩ := q1
  have lq1 : Lq D s.heap H1 a0 := tq1
  have tk1 : Lq D s.heap H1 a0 := tk0.trans lq1
  have k_0 : (0 : Int32).toInt = 0 := by decide
  refine lv_if_ne (tgt := 9) hx hb dX12_readAllOf_4 (by decide) (fun c2 => ?_) (fun c2 => ?_)
  · have b2 : ¬ v1.toInt = (0 : Int32).toInt := fun z9 => c2 (i_eq.mpr z9)
    have Lp9 : ∀ (n : Nat)  (H_9 : Heap) (L_9 : List Loc) (ls : Array Slot), (Sd D G [(30, 10), (30, 12), (30, 16), (31, 0), (30, 13)] s.heap H_9 L_9) → (Ex (Cs D H_9 a0) (fI D s.heap 11 a0 16).toInt.toNat (fI D H_9 11 a0 16).toInt.toNat) → ((fI D H_9 11 a0 16).toInt - (fI D s.heap 11 a0 16).toInt ≤ (fI D H_9 11 a0 10).toInt - (fI D s.heap 11 a0 10).toInt ∧ (fI D H_9 11 a0 13).toInt = (fI D s.heap 11 a0 13).toInt ∧ (fI D s.heap 11 a0 10).toInt ≤ (fI D H_9 11 a0 10).toInt) → (Lq D s.heap H_9 a0) → 401 - (fI D H_9 11 a0 10).toInt ≤ (n : Int) → lv_has ls 1 [(0, .ref a0)] → W p l e (rmU 26 0 0) s m args below meth c H_9 L_9 0 0 Q (F0 m 9 ls []) := by
      intro n
      induction n with
      | zero =>
        intro H_9 L_9 ls S_9 u9_0 u9_1 u9_2 hn hl
        have rz : 0 ≤ (fI D H_9 11 a0 10).toInt ∧ (fI D H_9 11 a0 10).toInt ≤ 400 := S_9.1.rng ga0 rfl (by decide) rfl
        exact absurd hn (by omega)
      | succ n ih9 =>
        intro H_9 L_9 ls S_9 u9_0 u9_1 u9_2 hn hl
        have rs9 : 0 ≤ (fI D H_9 11 a0 16).toInt ∧ (fI D H_9 11 a0 16).toInt ≤ 400 := S_9.1.rng ga0 rfl (by decide) rfl
        have rp9 : 0 ≤ (fI D H_9 11 a0 10).toInt ∧ (fI D H_9 11 a0 10).toInt ≤ 400 := S_9.1.rng ga0 rfl (by decide) rfl
        refine lv_aload_n hx hb dX12_readAllOf_9 rfl (lv_at hl 0 rfl) ?_
        refine q_lds C ks_X12_214 dX12_readAllOf_10 (fun a3 ha3 => ?_)
        refine callV_Ei C S_9 (c_X12_passes_w l D G a0 a3 3 ga0 ha3) kV_X12_120 ga0 (trivial) (by decide +kernel) dX12_readAllOf_12 hl.1 rfl rfl (by decide) cd_X12_passes ⟨Nat.le_of_ble_eq_true rfl, Nat.le_of_ble_eq_true rfl, Nat.le_of_ble_eq_true rfl, Nat.le_of_ble_eq_true rfl, Nat.le_of_ble_eq_true rfl⟩ (fun v4 H4 L4 S4 K4 q4 => ?_)
        have y4_13 : (fI D H4 11 a0 13).toInt = (fI D H_9 11 a0 13).toInt := congrArg Int32.toInt (K4.fI ga0 rfl (by decide) (by decide +kernel))
        have y4_16 : (fI D H4 11 a0 16).toInt = (fI D H_9 11 a0 16).toInt := congrArg Int32.toInt (K4.fI ga0 rfl (by decide) (by decide +kernel))
        have lq4 : Lq D H_9 H4 a0 := Lq.keep S_9.1 ga0 K4 (by decide +kernel) (by decide +kernel) (by decide +kernel)
        have tk4 : Lq D s.heap H4 a0 := u9_2.trans lq4
        rcases q4 with q4 | q4
        · skip
          refine lv_if_eq (tgt := 37) hx hb dX12_readAllOf_15 (by decide) (fun c5 => ?_) (fun c5 => ?_)
          · have b5 : v4.toInt = (0 : Int32).toInt := i_eq.mp c5
            exact absurd b5 (by omega)
          · have b5 : ¬ v4.toInt = (0 : Int32).toInt := fun z9 => c5 (i_eq.mpr z9)
            refine lv_aload_n hx hb dX12_readAllOf_18 rfl (lv_at hl 0 rfl) ?_
            have rs9 : 0 ≤ (fI D H4 11 a0 16).toInt ∧ (fI D H4 11 a0 16).toInt ≤ 400 := S4.1.rng ga0 rfl (by decide) rfl
            have rp9 : 0 ≤ (fI D H4 11 a0 10).toInt ∧ (fI D H4 11 a0 10).toInt ≤ 400 := S4.1.rng ga0 rfl (by decide) rfl
            refine callV_Ei C S4 (c_X12_readAtom_d0 l D G a0 ga0) kV_X12_205 ga0 (⟨by omega, by omega⟩) (by decide +kernel) dX12_readAllOf_19 hl.1 rfl rfl (by decide) cd_X12_readAtom ⟨Nat.le_of_ble_eq_true rfl, Nat.le_of_ble_eq_true rfl, Nat.le_of_ble_eq_true rfl, Nat.le_of_ble_eq_true rfl, Nat.le_of_ble_eq_true rfl⟩ (fun v6 H6 L6 S6 K6 q6 => ?_)
            obtain ⟨q6, sa6, sx6, tq6⟩ := q6
            have lq6 : Lq D H4 H6 a0 := tq6
            have tk6 : Lq D s.heap H6 a0 := tk4.trans lq6
            refine lv_if_ne (tgt := 27) hx hb dX12_readAllOf_22 (by decide) (fun c7 => ?_) (fun c7 => ?_)
            · have b7 : ¬ v6.toInt = (0 : Int32).toInt := fun z9 => c7 (i_eq.mpr z9)
              refine lv_aload_n hx hb dX12_readAllOf_27 rfl (lv_at hl 0 rfl) ?_
              refine lv_bipush (v := 16) hx hb dX12_readAllOf_28 (by decide) ?_
              refine lv_iconst (v := 0) hx hb dX12_readAllOf_30 (by decide) ?_
              have rs9 : 0 ≤ (fI D H6 11 a0 16).toInt ∧ (fI D H6 11 a0 16).toInt ≤ 400 := S6.1.rng ga0 rfl (by decide) rfl
              have rp9 : 0 ≤ (fI D H6 11 a0 10).toInt ∧ (fI D H6 11 a0 10).toInt ≤ 400 := S6.1.rng ga0 rfl (by decide) rfl
              have k_16 : (16 : Int32).toInt = 16 := by decide
              refine callV_Ev C S6 (c_X12_emits l D G a0 (16 : Int32) (0 : Int32) ga0) kV_X12_185 ga0 (by omega) (by decide +kernel) dX12_readAllOf_31 hl.1 rfl rfl (by decide) cd_X12_emits ⟨Nat.le_of_ble_eq_true rfl, Nat.le_of_ble_eq_true rfl, Nat.le_of_ble_eq_true rfl, Nat.le_of_ble_eq_true rfl, Nat.le_of_ble_eq_true rfl⟩ (fun H8 L8 S8 K8 q8 => ?_)
              obtain ⟨qa8, qb8, tq8⟩ := q8
              have y8_10 : (fI D H8 11 a0 10).toInt = (fI D H6 11 a0 10).toInt := congrArg Int32.toInt (K8.fI ga0 rfl (by decide) (by decide +kernel))
              have y8_12 : (fI D H8 11 a0 12).toInt = (fI D H6 11 a0 12).toInt := congrArg Int32.toInt (K8.fI ga0 rfl (by decide) (by decide +kernel))
              have y8_13 : (fI D H8 11 a0 13).toInt = (fI D H6 11 a0 13).toInt := congrArg Int32.toInt (K8.fI ga0 rfl (by decide) (by decide +kernel))
              have lq8 : Lq D H6 H8 a0 := tq8
              have tk8 : Lq D s.heap H8 a0 := tk6.trans lq8
              refine lv_goto (tgt := 9) hx hb dX12_readAllOf_34 (by decide) ?_
              have e9 : Ex (Cs D H8 a0) (fI D s.heap 11 a0 16).toInt.toNat (fI D H8 11 a0 16).toInt.toNat := (Ex.bin (((lq4.trans lq6).trans lq8).ex u9_0 (by omega)) ((lq8.ex (sx6 (by omega)) (by omega)).at (i' := (fI D H_9 11 a0 16).toInt.toNat) (by omega) rfl) (by rw [qb8]; decide) rfl).at (by omega) (by omega)
              exact ih9  H8 L8 ls S8 e9 (by omega) tk8 (by omega) (lv_sub hl [0] rfl)
            · have b7 : v6.toInt = (0 : Int32).toInt := i_eq.mp c7
              refine lv_iconst (v := 0) hx hb dX12_readAllOf_25 (by decide) ?_
              exact retE_z hQ C S6 hr dX12_readAllOf_26 (z01 (by omega) (by omega)) (⟨by omega, fun h9 => absurd h9 (by decide), fun h9 => absurd h9 (by decide), tk6⟩)
        · skip
          refine lv_if_eq (tgt := 37) hx hb dX12_readAllOf_15 (by decide) (fun c9 => ?_) (fun c9 => ?_)
          · have b9 : v4.toInt = (0 : Int32).toInt := i_eq.mp c9
            refine lv_iconst (v := 1) hx hb dX12_readAllOf_37 (by decide) ?_
            have k_1 : (1 : Int32).toInt = 1 := by decide
            exact retE_z hQ C S4 hr dX12_readAllOf_38 (z01 (by omega) (by omega)) (⟨by omega, fun _ => by omega, fun _ => (lq4.ex u9_0 (by omega)).at (by omega) (by omega), tk4⟩)
          · have b9 : ¬ v4.toInt = (0 : Int32).toInt := fun z9 => c9 (i_eq.mpr z9)
            exact absurd b9 (by omega)
    have ex0 := sx1 (by omega)
    have rn : 0 ≤ (fI D H1 11 a0 10).toInt ∧ (fI D H1 11 a0 10).toInt ≤ 400 := S1.1.rng ga0 rfl (by decide) rfl
    exact Lp9 402  H1 L1 ls S1 (ex0.at (by omega) rfl) (by omega) tk1  (by omega) (lv_sub hl [0] rfl)
  · have b2 : v1.toInt = (0 : Int32).toInt := i_eq.mp c2
    refine lv_iconst (v := 0) hx hb dX12_readAllOf_7 (by decide) ?_
    exact retE_z hQ C S1 hr dX12_readAllOf_8 (z01 (by omega) (by omega)) (⟨by omega, fun h9 => absurd h9 (by decide), fun h9 => absurd h9 (by decide), tk1⟩)

set_option maxRecDepth 100000 in
set_option maxHeartbeats 4000000 in
theorem c_X12_readCond_d0 (l : Launch) (D : DD) (G : Nat → Nat) (a0 : Nat) (ga0 : G a0 = 30) : CE l D G yX12_readCond cX12_readCond 1 (some .boolean) 27 [.ref a0] (fun H => (fI D H 11 a0 13).toInt = 0 ∧ (fI D H 11 a0 16).toInt + 3 ≤ (fI D H 11 a0 10).toInt) [(30, 10), (30, 12), (30, 16), (31, 0), (30, 13)] (xI (fun H r H1 => (0 ≤ r.toInt ∧ r.toInt ≤ 1) ∧ (r.toInt = 1 → (fI D H1 11 a0 16).toInt - (fI D H 11 a0 16).toInt ≤ (fI D H1 11 a0 10).toInt - (fI D H 11 a0 10).toInt ∧ (fI D H1 11 a0 13).toInt = (fI D H 11 a0 13).toInt ∧ (fI D H 11 a0 10).toInt ≤ (fI D H1 11 a0 10).toInt) ∧ (r.toInt = 1 → Ex (Cs D H1 a0) (fI D H 11 a0 16).toInt.toNat (fI D H1 11 a0 16).toInt.toNat) ∧ Lq D H H1 a0)) := by
  refine enter (by decide) (Nat.le_of_ble_eq_true rfl) ?_
  intro p e s m args below meth c ls Q hA hQ C hr hO hpre hl
  have hx := C.1
  have hb := C.2.1
  have S : Sd D G [(30, 10), (30, 12), (30, 16), (31, 0), (30, 13)] s.heap s.heap [] := Sd.start hO
  have hl : lv_has ls 1 [(0, .ref a0)] := hl
  have rs0 : 0 ≤ (fI D s.heap 11 a0 16).toInt ∧ (fI D s.heap 11 a0 16).toInt ≤ 400 := hO.rng ga0 rfl (by decide) rfl
  have rp0 : 0 ≤ (fI D s.heap 11 a0 10).toInt ∧ (fI D s.heap 11 a0 10).toInt ≤ 400 := hO.rng ga0 rfl (by decide) rfl
  have tk0 : Lq D s.heap s.heap a0 := Lq.refl
  refine lv_aload_n hx hb dX12_readCond_0 rfl (lv_at hl 0 rfl) ?_
  refine callV_Ei C S (c_X12_readAllOf_d0 l D G a0 ga0) kV_X12_216 ga0 (hpre) (by decide +kernel) dX12_readCond_1 hl.1 rfl rfl (by decide) cd_X12_readAllOf ⟨Nat.le_of_ble_eq_true rfl, Nat.le_of_ble_eq_true rfl, Nat.le_of_ble_eq_true rfl, Nat.le_of_ble_eq_true rfl, Nat.le_of_ble_eq_true rfl⟩ (fun v1 H1 L1 S1 K1 q1 => ?_)
  obtain ⟨q1, sa1, sx1, tq1⟩ := q1
  have lq1 : Lq D s.heap H1 a0 := tq1
  have tk1 : Lq D s.heap H1 a0 := tk0.trans lq1
  have k_0 : (0 : Int32).toInt = 0 := by decide
  refine lv_if_ne (tgt := 9) hx hb dX12_readCond_4 (by decide) (fun c2 => ?_) (fun c2 => ?_)
  · have b2 : ¬ v1.toInt = (0 : Int32).toInt := fun z9 => c2 (i_eq.mpr z9)
    have Lp9 : ∀ (n : Nat)  (H_9 : Heap) (L_9 : List Loc) (ls : Array Slot), (Sd D G [(30, 10), (30, 12), (30, 16), (31, 0), (30, 13)] s.heap H_9 L_9) → (Ex (Cs D H_9 a0) (fI D s.heap 11 a0 16).toInt.toNat (fI D H_9 11 a0 16).toInt.toNat) → ((fI D H_9 11 a0 16).toInt - (fI D s.heap 11 a0 16).toInt ≤ (fI D H_9 11 a0 10).toInt - (fI D s.heap 11 a0 10).toInt ∧ (fI D H_9 11 a0 13).toInt = (fI D s.heap 11 a0 13).toInt ∧ (fI D s.heap 11 a0 10).toInt ≤ (fI D H_9 11 a0 10).toInt) → (Lq D s.heap H_9 a0) → 401 - (fI D H_9 11 a0 10).toInt ≤ (n : Int) → lv_has ls 1 [(0, .ref a0)] → W p l e (rmU 27 0 0) s m args below meth c H_9 L_9 0 0 Q (F0 m 9 ls []) := by
      intro n
      induction n with
      | zero =>
        intro H_9 L_9 ls S_9 u9_0 u9_1 u9_2 hn hl
        have rz : 0 ≤ (fI D H_9 11 a0 10).toInt ∧ (fI D H_9 11 a0 10).toInt ≤ 400 := S_9.1.rng ga0 rfl (by decide) rfl
        exact absurd hn (by omega)
      | succ n ih9 =>
        intro H_9 L_9 ls S_9 u9_0 u9_1 u9_2 hn hl
        have rs9 : 0 ≤ (fI D H_9 11 a0 16).toInt ∧ (fI D H_9 11 a0 16).toInt ≤ 400 := S_9.1.rng ga0 rfl (by decide) rfl
        have rp9 : 0 ≤ (fI D H_9 11 a0 10).toInt ∧ (fI D H_9 11 a0 10).toInt ≤ 400 := S_9.1.rng ga0 rfl (by decide) rfl
        refine lv_aload_n hx hb dX12_readCond_9 rfl (lv_at hl 0 rfl) ?_
        refine q_lds C ks_X12_219 dX12_readCond_10 (fun a3 ha3 => ?_)
        refine callV_Ei C S_9 (c_X12_passes_w l D G a0 a3 2 ga0 ha3) kV_X12_120 ga0 (trivial) (by decide +kernel) dX12_readCond_12 hl.1 rfl rfl (by decide) cd_X12_passes ⟨Nat.le_of_ble_eq_true rfl, Nat.le_of_ble_eq_true rfl, Nat.le_of_ble_eq_true rfl, Nat.le_of_ble_eq_true rfl, Nat.le_of_ble_eq_true rfl⟩ (fun v4 H4 L4 S4 K4 q4 => ?_)
        have y4_13 : (fI D H4 11 a0 13).toInt = (fI D H_9 11 a0 13).toInt := congrArg Int32.toInt (K4.fI ga0 rfl (by decide) (by decide +kernel))
        have y4_16 : (fI D H4 11 a0 16).toInt = (fI D H_9 11 a0 16).toInt := congrArg Int32.toInt (K4.fI ga0 rfl (by decide) (by decide +kernel))
        have lq4 : Lq D H_9 H4 a0 := Lq.keep S_9.1 ga0 K4 (by decide +kernel) (by decide +kernel) (by decide +kernel)
        have tk4 : Lq D s.heap H4 a0 := u9_2.trans lq4
        rcases q4 with q4 | q4
        · skip
          refine lv_if_eq (tgt := 37) hx hb dX12_readCond_15 (by decide) (fun c5 => ?_) (fun c5 => ?_)
          · have b5 : v4.toInt = (0 : Int32).toInt := i_eq.mp c5
            exact absurd b5 (by omega)
          · have b5 : ¬ v4.toInt = (0 : Int32).toInt := fun z9 => c5 (i_eq.mpr z9)
            refine lv_aload_n hx hb dX12_readCond_18 rfl (lv_at hl 0 rfl) ?_
            have rs9 : 0 ≤ (fI D H4 11 a0 16).toInt ∧ (fI D H4 11 a0 16).toInt ≤ 400 := S4.1.rng ga0 rfl (by decide) rfl
            have rp9 : 0 ≤ (fI D H4 11 a0 10).toInt ∧ (fI D H4 11 a0 10).toInt ≤ 400 := S4.1.rng ga0 rfl (by decide) rfl
            refine callV_Ei C S4 (c_X12_readAllOf_d0 l D G a0 ga0) kV_X12_216 ga0 (⟨by omega, by omega⟩) (by decide +kernel) dX12_readCond_19 hl.1 rfl rfl (by decide) cd_X12_readAllOf ⟨Nat.le_of_ble_eq_true rfl, Nat.le_of_ble_eq_true rfl, Nat.le_of_ble_eq_true rfl, Nat.le_of_ble_eq_true rfl, Nat.le_of_ble_eq_true rfl⟩ (fun v6 H6 L6 S6 K6 q6 => ?_)
            obtain ⟨q6, sa6, sx6, tq6⟩ := q6
            have lq6 : Lq D H4 H6 a0 := tq6
            have tk6 : Lq D s.heap H6 a0 := tk4.trans lq6
            refine lv_if_ne (tgt := 27) hx hb dX12_readCond_22 (by decide) (fun c7 => ?_) (fun c7 => ?_)
            · have b7 : ¬ v6.toInt = (0 : Int32).toInt := fun z9 => c7 (i_eq.mpr z9)
              refine lv_aload_n hx hb dX12_readCond_27 rfl (lv_at hl 0 rfl) ?_
              refine lv_bipush (v := 17) hx hb dX12_readCond_28 (by decide) ?_
              refine lv_iconst (v := 0) hx hb dX12_readCond_30 (by decide) ?_
              have rs9 : 0 ≤ (fI D H6 11 a0 16).toInt ∧ (fI D H6 11 a0 16).toInt ≤ 400 := S6.1.rng ga0 rfl (by decide) rfl
              have rp9 : 0 ≤ (fI D H6 11 a0 10).toInt ∧ (fI D H6 11 a0 10).toInt ≤ 400 := S6.1.rng ga0 rfl (by decide) rfl
              have k_17 : (17 : Int32).toInt = 17 := by decide
              refine callV_Ev C S6 (c_X12_emits l D G a0 (17 : Int32) (0 : Int32) ga0) kV_X12_185 ga0 (by omega) (by decide +kernel) dX12_readCond_31 hl.1 rfl rfl (by decide) cd_X12_emits ⟨Nat.le_of_ble_eq_true rfl, Nat.le_of_ble_eq_true rfl, Nat.le_of_ble_eq_true rfl, Nat.le_of_ble_eq_true rfl, Nat.le_of_ble_eq_true rfl⟩ (fun H8 L8 S8 K8 q8 => ?_)
              obtain ⟨qa8, qb8, tq8⟩ := q8
              have y8_10 : (fI D H8 11 a0 10).toInt = (fI D H6 11 a0 10).toInt := congrArg Int32.toInt (K8.fI ga0 rfl (by decide) (by decide +kernel))
              have y8_12 : (fI D H8 11 a0 12).toInt = (fI D H6 11 a0 12).toInt := congrArg Int32.toInt (K8.fI ga0 rfl (by decide) (by decide +kernel))
              have y8_13 : (fI D H8 11 a0 13).toInt = (fI D H6 11 a0 13).toInt := congrArg Int32.toInt (K8.fI ga0 rfl (by decide) (by decide +kernel))
              have lq8 : Lq D H6 H8 a0 := tq8
              have tk8 : Lq D s.heap H8 a0 := tk6.trans lq8
              refine lv_goto (tgt := 9) hx hb dX12_readCond_34 (by decide) ?_
              have e9 : Ex (Cs D H8 a0) (fI D s.heap 11 a0 16).toInt.toNat (fI D H8 11 a0 16).toInt.toNat := (Ex.bin (((lq4.trans lq6).trans lq8).ex u9_0 (by omega)) ((lq8.ex (sx6 (by omega)) (by omega)).at (i' := (fI D H_9 11 a0 16).toInt.toNat) (by omega) rfl) (by rw [qb8]; decide) rfl).at (by omega) (by omega)
              exact ih9  H8 L8 ls S8 e9 (by omega) tk8 (by omega) (lv_sub hl [0] rfl)
            · have b7 : v6.toInt = (0 : Int32).toInt := i_eq.mp c7
              refine lv_iconst (v := 0) hx hb dX12_readCond_25 (by decide) ?_
              exact retE_z hQ C S6 hr dX12_readCond_26 (z01 (by omega) (by omega)) (⟨by omega, fun h9 => absurd h9 (by decide), fun h9 => absurd h9 (by decide), tk6⟩)
        · skip
          refine lv_if_eq (tgt := 37) hx hb dX12_readCond_15 (by decide) (fun c9 => ?_) (fun c9 => ?_)
          · have b9 : v4.toInt = (0 : Int32).toInt := i_eq.mp c9
            refine lv_iconst (v := 1) hx hb dX12_readCond_37 (by decide) ?_
            have k_1 : (1 : Int32).toInt = 1 := by decide
            exact retE_z hQ C S4 hr dX12_readCond_38 (z01 (by omega) (by omega)) (⟨by omega, fun _ => by omega, fun _ => (lq4.ex u9_0 (by omega)).at (by omega) (by omega), tk4⟩)
          · have b9 : ¬ v4.toInt = (0 : Int32).toInt := fun z9 => c9 (i_eq.mpr z9)
            exact absurd b9 (by omega)
    have ex0 := sx1 (by omega)
    have rn : 0 ≤ (fI D H1 11 a0 10).toInt ∧ (fI D H1 11 a0 10).toInt ≤ 400 := S1.1.rng ga0 rfl (by decide) rfl
    exact Lp9 402  H1 L1 ls S1 (ex0.at (by omega) rfl) (by omega) tk1  (by omega) (lv_sub hl [0] rfl)
  · have b2 : v1.toInt = (0 : Int32).toInt := i_eq.mp c2
    refine lv_iconst (v := 0) hx hb dX12_readCond_7 (by decide) ?_
    exact retE_z hQ C S1 hr dX12_readCond_8 (z01 (by omega) (by omega)) (⟨by omega, fun h9 => absurd h9 (by decide), fun h9 => absurd h9 (by decide), tk1⟩)
