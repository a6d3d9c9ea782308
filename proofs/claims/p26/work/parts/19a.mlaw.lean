set_option maxRecDepth 100000 in
set_option maxHeartbeats 4000000 in
theorem c_X12_emits (l : Launch) (D : DD) (G : Nat → Nat) (a0 : Nat) (x1 : Int32) (x2 : Int32) (ga0 : G a0 = 30) : CE l D G yX12_emits cX12_emits 3 none 0 [.ref a0, .int x1, .int x2] (fun H => (fI D H 11 a0 16).toInt ≤ 399) [(30, 16), (31, 0)] (xV (fun H H1 => (fI D H1 11 a0 16).toInt = (fI D H 11 a0 16).toInt + 1 ∧ Cs D H1 a0 (fI D H 11 a0 16).toInt.toNat = x1 ∧ Lq D H H1 a0)) := by
  refine enter (by decide) (Nat.le_of_ble_eq_true rfl) ?_
  intro p e s m args below meth c ls Q hA hQ C hr hO hpre hl
  have hx := C.1
  have hb := C.2.1
  have S : Sd D G [(30, 16), (31, 0)] s.heap s.heap [] := Sd.start hO
  have hl : lv_has ls 3 [(0, .ref a0), (1, .int x1), (2, .int x2)] := hl
  have rs0 : 0 ≤ (fI D s.heap 11 a0 16).toInt ∧ (fI D s.heap 11 a0 16).toInt ≤ 400 := hO.rng ga0 rfl (by decide) rfl
  refine lv_aload_n hx hb dX12_emits_0 rfl (lv_at hl 0 rfl) ?_
  refine q_gr (T := TX12) C S.1 ga0 1 kF_X12_13 dX12_emits_1 rfl rfl (by decide) rfl (by decide) rfl (fun g1 => ?_)
  refine lv_sipush (v := 1252) hx hb dX12_emits_4 (by decide) ?_
  refine lv_iconst (v := 2) hx hb dX12_emits_7 (by decide) ?_
  refine lv_aload_n hx hb dX12_emits_8 rfl (lv_at hl 0 rfl) ?_
  refine q_gi (T := TX12) C S.1 ga0 16 kF_X12_182 dX12_emits_9 rfl rfl (by decide) rfl (by decide) rfl ?_
  have r2 : 0 ≤ (fI D s.heap 11 a0 16).toInt ∧ (fI D s.heap 11 a0 16).toInt ≤ 400 := S.1.rng ga0 rfl (by decide) rfl
  have k_2 : (2 : Int32).toInt = 2 := by decide
  refine lv_imul hx hb dX12_emits_12 ?_
  refine lv_topi (fun v3 ev3 => ?_)
  have f4 : v3.toInt = (2) * (fI D s.heap 11 a0 16).toInt := by rw [ev3]; exact i_cmul k_2 (by omega) (by omega)
  have k_1252 : (1252 : Int32).toInt = 1252 := by decide
  refine lv_iadd hx hb dX12_emits_13 ?_
  refine lv_topi (fun v5 ev5 => ?_)
  have f6 : v5.toInt = (1252 : Int32).toInt + v3.toInt := by rw [ev5]; exact i_add (by omega) (by omega)
  refine lv_iload_n hx hb dX12_emits_14 rfl (lv_at hl 1 rfl) ?_
  have n7 : aN s.heap (fR D s.heap 11 a0 1) = 2052 := len_31 S.1 g1
  refine q_iast C S g1 (by omega) (by omega) dX12_emits_15 rfl (by decide) (by decide +kernel) (fun _ _ h => wk_high _ _ (by omega) h) (fun H8 L8 S8 P8 => ?_) (hs := fun _ => Or.inr (vy_no (by omega) (by omega) (by omega) (by omega) (fun h9 hh9 => by omega) (fun j9 hj9 => by omega)))
  have y8_16 : (fI D H8 11 a0 16).toInt = (fI D s.heap 11 a0 16).toInt := congrArg Int32.toInt (Pa.f P8 (ne_role ga0 g1 (by decide)))
  refine lv_aload_n hx hb dX12_emits_16 rfl (lv_at hl 0 rfl) ?_
  refine q_gr (T := TX12) C S8.1 ga0 1 kF_X12_13 dX12_emits_17 rfl rfl (by decide) rfl (by decide) rfl (fun g9 => ?_)
  refine lv_sipush (v := 1252) hx hb dX12_emits_20 (by decide) ?_
  refine lv_iconst (v := 2) hx hb dX12_emits_23 (by decide) ?_
  refine lv_aload_n hx hb dX12_emits_24 rfl (lv_at hl 0 rfl) ?_
  refine q_gi (T := TX12) C S8.1 ga0 16 kF_X12_182 dX12_emits_25 rfl rfl (by decide) rfl (by decide) rfl ?_
  have c10 : (fI D H8 11 a0 16).toInt = (fI D s.heap 11 a0 16).toInt := by rw [Pa.f P8 (ne_role ga0 g1 (by decide))]
  have r11 : 0 ≤ (fI D H8 11 a0 16).toInt ∧ (fI D H8 11 a0 16).toInt ≤ 400 := S8.1.rng ga0 rfl (by decide) rfl
  refine lv_imul hx hb dX12_emits_28 ?_
  refine lv_topi (fun v12 ev12 => ?_)
  have f13 : v12.toInt = (2) * (fI D H8 11 a0 16).toInt := by rw [ev12]; exact i_cmul k_2 (by omega) (by omega)
  refine lv_iadd hx hb dX12_emits_29 ?_
  refine lv_topi (fun v14 ev14 => ?_)
  have f15 : v14.toInt = (1252 : Int32).toInt + v12.toInt := by rw [ev14]; exact i_add (by omega) (by omega)
  refine lv_iconst (v := 1) hx hb dX12_emits_30 (by decide) ?_
  have k_1 : (1 : Int32).toInt = 1 := by decide
  refine lv_iadd hx hb dX12_emits_31 ?_
  refine lv_topi (fun v16 ev16 => ?_)
  have f17 : v16.toInt = v14.toInt + (1 : Int32).toInt := by rw [ev16]; exact i_add (by omega) (by omega)
  refine lv_iload_n hx hb dX12_emits_32 rfl (lv_at hl 2 rfl) ?_
  have n18 : aN H8 (fR D H8 11 a0 1) = 2052 := len_31 S8.1 g9
  refine q_iast C S8 g9 (by omega) (by omega) dX12_emits_33 rfl (by decide) (by decide +kernel) (fun _ _ h => wk_high _ _ (by omega) h) (fun H19 L19 S19 P19 => ?_) (hs := fun _ => Or.inr (vy_no (by omega) (by omega) (by omega) (by omega) (fun h9 hh9 => by omega) (fun j9 hj9 => by omega)))
  have y19_16 : (fI D H19 11 a0 16).toInt = (fI D H8 11 a0 16).toInt := congrArg Int32.toInt (Pa.f P19 (ne_role ga0 g9 (by decide)))
  refine lv_aload_n hx hb dX12_emits_34 rfl (lv_at hl 0 rfl) ?_
  refine lv_dup hx hb dX12_emits_35 rfl ?_
  refine q_gi (T := TX12) C S19.1 ga0 16 kF_X12_182 dX12_emits_36 rfl rfl (by decide) rfl (by decide) rfl ?_
  have c20 : (fI D H19 11 a0 16).toInt = (fI D H8 11 a0 16).toInt := by rw [Pa.f P19 (ne_role ga0 g9 (by decide))]
  have r21 : 0 ≤ (fI D H19 11 a0 16).toInt ∧ (fI D H19 11 a0 16).toInt ≤ 400 := S19.1.rng ga0 rfl (by decide) rfl
  refine lv_iconst (v := 1) hx hb dX12_emits_39 (by decide) ?_
  refine lv_iadd hx hb dX12_emits_40 ?_
  refine lv_topi (fun v22 ev22 => ?_)
  have f23 : v22.toInt = (fI D H19 11 a0 16).toInt + (1 : Int32).toInt := by rw [ev22]; exact i_add (by omega) (by omega)
  refine q_put (T := TX12) C S19 ga0 16 kF_X12_182 dX12_emits_41 rfl rfl (by decide) (by decide) rfl rfl rfl rfl rfl (vok_i rfl (by omega) (by omega)) (by decide +kernel) (fun H24 L24 S24 P24 => ?_)
  have y24_16 : (fI D H24 11 a0 16).toInt = v22.toInt := congrArg Int32.toInt (Pt.i P24)
  exact retE_v hQ C S24 hr dX12_emits_44 (by have z9 := Lq.emit hO S8.1 S19.1 ga0 P8 (by omega) (by omega) (by omega) P19 (by omega) P24 (by omega); exact z9)

set_option maxRecDepth 100000 in
set_option maxHeartbeats 4000000 in
theorem c_X12_readPart (l : Launch) (D : DD) (G : Nat → Nat) (a0 : Nat) (T : Tx) (b : Nat) (ga0 : G a0 = 30) : CE l D G yX12_readPart cX12_readPart 2 (some .boolean) 5 [.ref a0] (fun H => ((fI D H 11 a0 16).toInt + 3 ≤ (fI D H 11 a0 10).toInt) ∧ (RB D H a0 T b)) [(30, 10), (30, 12), (30, 16), (31, 0)] (xI (fun H r H1 => ((0 ≤ r.toInt ∧ r.toInt ≤ 1) ∧ (r.toInt = 1 → (fI D H1 11 a0 16).toInt - (fI D H 11 a0 16).toInt ≤ (fI D H1 11 a0 10).toInt - (fI D H 11 a0 10).toInt ∧ (fI D H1 11 a0 13).toInt = (fI D H 11 a0 13).toInt ∧ (fI D H 11 a0 10).toInt ≤ (fI D H1 11 a0 10).toInt) ∧ (r.toInt = 1 → Ex (Cs D H1 a0) (fI D H 11 a0 16).toInt.toNat (fI D H1 11 a0 16).toInt.toNat) ∧ Lq D H H1 a0) ∧ (RR D H1 a0 T (prtR T b) r))) := by
  refine enter (by decide) (Nat.le_of_ble_eq_true rfl) ?_
  intro p e s m args below meth c ls Q hA hQ C hr hO hpre hl
  have hx := C.1
  have hb := C.2.1
  have S : Sd D G [(30, 10), (30, 12), (30, 16), (31, 0)] s.heap s.heap [] := Sd.start hO
  have hl : lv_has ls 2 [(0, .ref a0)] := hl
  have rs0 : 0 ≤ (fI D s.heap 11 a0 16).toInt ∧ (fI D s.heap 11 a0 16).toInt ≤ 400 := hO.rng ga0 rfl (by decide) rfl
  have rp0 : 0 ≤ (fI D s.heap 11 a0 10).toInt ∧ (fI D s.heap 11 a0 10).toInt ≤ 400 := hO.rng ga0 rfl (by decide) rfl
  obtain ⟨hpre, hf⟩ := hpre
  have ts0 := hf
  have hT : T.2 ≤ 400 := ts0.le hO ga0
  have tk0 : Lq D s.heap s.heap a0 := Lq.refl
  refine lv_aload_n hx hb dX12_readPart_0 rfl (lv_at hl 0 rfl) ?_
  refine callV_Ev C S (c_X12_letters_f l D G a0 T b ga0) kV_X12_102 ga0 (⟨trivial, ts0⟩) (by decide +kernel) dX12_readPart_1 hl.1 rfl rfl (by decide) cd_X12_letters ⟨Nat.le_of_ble_eq_true rfl, Nat.le_of_ble_eq_true rfl, Nat.le_of_ble_eq_true rfl, Nat.le_of_ble_eq_true rfl, Nat.le_of_ble_eq_true rfl⟩ (fun H1 L1 S1 K1 q1 => ?_)
  obtain ⟨q1, fq1⟩ := q1
  have y1_13 : (fI D H1 11 a0 13).toInt = (fI D s.heap 11 a0 13).toInt := congrArg Int32.toInt (K1.fI ga0 rfl (by decide) (by decide +kernel))
  have y1_16 : (fI D H1 11 a0 16).toInt = (fI D s.heap 11 a0 16).toInt := congrArg Int32.toInt (K1.fI ga0 rfl (by decide) (by decide +kernel))
  have lq1 : Lq D s.heap H1 a0 := Lq.keep S.1 ga0 K1 (by decide +kernel) (by decide +kernel) (by decide +kernel)
  have tk1 : Lq D s.heap H1 a0 := tk0.trans lq1
  refine lv_aload_n hx hb dX12_readPart_4 rfl (lv_at hl 0 rfl) ?_
  refine q_gi (T := TX12) C S1.1 ga0 10 kF_X12_78 dX12_readPart_5 rfl rfl (by decide) rfl (by decide) rfl ?_
  have r2 : 0 ≤ (fI D H1 11 a0 10).toInt ∧ (fI D H1 11 a0 10).toInt ≤ 400 := S1.1.rng ga0 rfl (by decide) rfl
  refine lv_aload_n hx hb dX12_readPart_8 rfl (lv_at hl 0 rfl) ?_
  refine q_gi (T := TX12) C S1.1 ga0 12 kF_X12_87 dX12_readPart_9 rfl rfl (by decide) rfl (by decide) rfl ?_
  have r3 : 0 ≤ (fI D H1 11 a0 12).toInt ∧ (fI D H1 11 a0 12).toInt ≤ 400 := S1.1.rng ga0 rfl (by decide) rfl
  refine lv_icmp_ne (tgt := 34) hx hb dX12_readPart_12 (by decide) (fun c4 => ?_) (fun c4 => ?_)
  · have b4 : ¬ (fI D H1 11 a0 10).toInt = (fI D H1 11 a0 12).toInt := fun z9 => c4 (i_eq.mpr z9)
    have nk5 : kd T b = 1 := Classical.byContradiction (fun z9 => by have z8 := fq1.2.2.2.2 z9; have z7 := fq1.2.2.1; omega)
    refine lv_aload_n hx hb dX12_readPart_34 rfl (lv_at hl 0 rfl) ?_
    refine q_lds C ks_X12_153 dX12_readPart_35 (fun a6 ha6 wa6 => ?_)
    refine callV_Pi C S1.1 S1.2.1.2.1 (c_X12_isWord_f l D G a0 a6 5 w_house T b ga0 ha6 (Wc.of wa6 kw_house) (by decide)) kV_X12_105 ga0 (⟨trivial, fq1⟩) dX12_readPart_37 hl.1 rfl rfl (by decide) cd_X12_isWord ⟨Nat.le_of_ble_eq_true rfl, Nat.le_of_ble_eq_true rfl, Nat.le_of_ble_eq_true rfl, Nat.le_of_ble_eq_true rfl, Nat.le_of_ble_eq_true rfl⟩ (fun v7 q7 => ?_)
    obtain ⟨q7, fq7⟩ := q7
    rcases fq7 with ⟨z7, y7⟩ | ⟨z7, y7⟩
    · skip
      have k_0 : (0 : Int32).toInt = 0 := by decide
      refine lv_if_eq (tgt := 47) hx hb dX12_readPart_40 (by decide) (fun c8 => ?_) (fun c8 => ?_)
      · have b8 : v7.toInt = (0 : Int32).toInt := i_eq.mp c8
        exact absurd b8 (by omega)
      · have b8 : ¬ v7.toInt = (0 : Int32).toInt := fun z9 => c8 (i_eq.mpr z9)
        refine lv_iconst (v := 0) hx hb dX12_readPart_43 (by decide) ?_
        refine lv_goto (tgt := 113) hx hb dX12_readPart_44 (by decide) ?_
        have bg9 := fq1.2.2.1
        have rb9 := fq1.rb1 (isW_k y7)
        refine lv_istore_n (lv' := [(1, .int (0 : Int32)), (0, .ref a0)]) hx hb dX12_readPart_113 rfl hl (by decide) rfl (fun ls hl => ?_)
        refine lv_aload_n hx hb dX12_readPart_114 rfl (lv_at hl 1 rfl) ?_
        refine lv_iload_n hx hb dX12_readPart_115 rfl (lv_at hl 0 rfl) ?_
        refine lv_iconst (v := 0) hx hb dX12_readPart_116 (by decide) ?_
        have rs9 : 0 ≤ (fI D H1 11 a0 16).toInt ∧ (fI D H1 11 a0 16).toInt ≤ 400 := S1.1.rng ga0 rfl (by decide) rfl
        have rp9 : 0 ≤ (fI D H1 11 a0 10).toInt ∧ (fI D H1 11 a0 10).toInt ≤ 400 := S1.1.rng ga0 rfl (by decide) rfl
        refine callV_Ev C S1 (c_X12_emits l D G a0 (0 : Int32) (0 : Int32) ga0) kV_X12_185 ga0 (by omega) (by decide +kernel) dX12_readPart_117 hl.1 rfl rfl (by decide) cd_X12_emits ⟨Nat.le_of_ble_eq_true rfl, Nat.le_of_ble_eq_true rfl, Nat.le_of_ble_eq_true rfl, Nat.le_of_ble_eq_true rfl, Nat.le_of_ble_eq_true rfl⟩ (fun H10 L10 S10 K10 q10 => ?_)
        obtain ⟨qa10, qb10, tq10⟩ := q10
        have y10_10 : (fI D H10 11 a0 10).toInt = (fI D H1 11 a0 10).toInt := congrArg Int32.toInt (K10.fI ga0 rfl (by decide) (by decide +kernel))
        have y10_12 : (fI D H10 11 a0 12).toInt = (fI D H1 11 a0 12).toInt := congrArg Int32.toInt (K10.fI ga0 rfl (by decide) (by decide +kernel))
        have y10_13 : (fI D H10 11 a0 13).toInt = (fI D H1 11 a0 13).toInt := congrArg Int32.toInt (K10.fI ga0 rfl (by decide) (by decide +kernel))
        have lq10 : Lq D H1 H10 a0 := tq10
        have tk10 : Lq D s.heap H10 a0 := tk1.trans lq10
        have bg10 : (fI D H10 11 a0 12).toInt = ((b : Nat) : Int) := by rw [K10.fI ga0 rfl (by decide) (by decide +kernel)]; exact bg9
        have rb10 := rb9.keep S1.1 ga0 K10 (by decide +kernel)
        refine lv_iload_n hx hb dX12_readPart_120 rfl (lv_at hl 0 rfl) ?_
        refine lv_if_lt (tgt := 128) hx hb dX12_readPart_121 (by decide) (fun c11 => ?_) (fun c11 => ?_)
        · have b11 : (0 : Int32).toInt < (0 : Int32).toInt := i_lt.mp c11
          exact absurd b11 (by omega)
        · have b11 : ¬ (0 : Int32).toInt < (0 : Int32).toInt := fun z9 => c11 (i_lt.mpr z9)
          refine lv_iconst (v := 1) hx hb dX12_readPart_124 (by decide) ?_
          refine lv_goto (tgt := 129) hx hb dX12_readPart_125 (by decide) ?_
          have k_1 : (1 : Int32).toInt = 1 := by decide
          exact retE_z hQ C S10 hr dX12_readPart_129 (z01 (by omega) (by omega)) (⟨⟨by omega, fun _ => by omega, fun _ => (Ex.one (i := (fI D H1 11 a0 16).toInt.toNat) (by rw [qb10]; omega) rfl).at (by omega) (by omega), tk10⟩, RR.ok (by simp [prtR, prt, nk5, y7]) (by omega) rb10⟩)
    · skip
      have k_0 : (0 : Int32).toInt = 0 := by decide
      refine lv_if_eq (tgt := 47) hx hb dX12_readPart_40 (by decide) (fun c12 => ?_) (fun c12 => ?_)
      · have b12 : v7.toInt = (0 : Int32).toInt := i_eq.mp c12
        refine lv_aload_n hx hb dX12_readPart_47 rfl (lv_at hl 0 rfl) ?_
        refine q_lds C ks_X12_147 dX12_readPart_48 (fun a13 ha13 wa13 => ?_)
        refine callV_Pi C S1.1 S1.2.1.2.1 (c_X12_isWord_f l D G a0 a13 4 w_flue T b ga0 ha13 (Wc.of wa13 kw_flue) (by decide)) kV_X12_105 ga0 (⟨trivial, fq1⟩) dX12_readPart_50 hl.1 rfl rfl (by decide) cd_X12_isWord ⟨Nat.le_of_ble_eq_true rfl, Nat.le_of_ble_eq_true rfl, Nat.le_of_ble_eq_true rfl, Nat.le_of_ble_eq_true rfl, Nat.le_of_ble_eq_true rfl⟩ (fun v14 q14 => ?_)
        obtain ⟨q14, fq14⟩ := q14
        rcases fq14 with ⟨z14, y14⟩ | ⟨z14, y14⟩
        · skip
          refine lv_if_eq (tgt := 60) hx hb dX12_readPart_53 (by decide) (fun c15 => ?_) (fun c15 => ?_)
          · have b15 : v14.toInt = (0 : Int32).toInt := i_eq.mp c15
            exact absurd b15 (by omega)
          · have b15 : ¬ v14.toInt = (0 : Int32).toInt := fun z9 => c15 (i_eq.mpr z9)
            refine lv_iconst (v := 1) hx hb dX12_readPart_56 (by decide) ?_
            refine lv_goto (tgt := 113) hx hb dX12_readPart_57 (by decide) ?_
            have bg16 := fq1.2.2.1
            have rb16 := fq1.rb1 (isW_k y14)
            refine lv_istore_n (lv' := [(1, .int (1 : Int32)), (0, .ref a0)]) hx hb dX12_readPart_113 rfl hl (by decide) rfl (fun ls hl => ?_)
            refine lv_aload_n hx hb dX12_readPart_114 rfl (lv_at hl 1 rfl) ?_
            refine lv_iload_n hx hb dX12_readPart_115 rfl (lv_at hl 0 rfl) ?_
            refine lv_iconst (v := 0) hx hb dX12_readPart_116 (by decide) ?_
            have rs9 : 0 ≤ (fI D H1 11 a0 16).toInt ∧ (fI D H1 11 a0 16).toInt ≤ 400 := S1.1.rng ga0 rfl (by decide) rfl
            have rp9 : 0 ≤ (fI D H1 11 a0 10).toInt ∧ (fI D H1 11 a0 10).toInt ≤ 400 := S1.1.rng ga0 rfl (by decide) rfl
            have k_1 : (1 : Int32).toInt = 1 := by decide
            refine callV_Ev C S1 (c_X12_emits l D G a0 (1 : Int32) (0 : Int32) ga0) kV_X12_185 ga0 (by omega) (by decide +kernel) dX12_readPart_117 hl.1 rfl rfl (by decide) cd_X12_emits ⟨Nat.le_of_ble_eq_true rfl, Nat.le_of_ble_eq_true rfl, Nat.le_of_ble_eq_true rfl, Nat.le_of_ble_eq_true rfl, Nat.le_of_ble_eq_true rfl⟩ (fun H17 L17 S17 K17 q17 => ?_)
            obtain ⟨qa17, qb17, tq17⟩ := q17
            have y17_10 : (fI D H17 11 a0 10).toInt = (fI D H1 11 a0 10).toInt := congrArg Int32.toInt (K17.fI ga0 rfl (by decide) (by decide +kernel))
            have y17_12 : (fI D H17 11 a0 12).toInt = (fI D H1 11 a0 12).toInt := congrArg Int32.toInt (K17.fI ga0 rfl (by decide) (by decide +kernel))
            have y17_13 : (fI D H17 11 a0 13).toInt = (fI D H1 11 a0 13).toInt := congrArg Int32.toInt (K17.fI ga0 rfl (by decide) (by decide +kernel))
            have lq17 : Lq D H1 H17 a0 := tq17
            have tk17 : Lq D s.heap H17 a0 := tk1.trans lq17
            have bg17 : (fI D H17 11 a0 12).toInt = ((b : Nat) : Int) := by rw [K17.fI ga0 rfl (by decide) (by decide +kernel)]; exact bg16
            have rb17 := rb16.keep S1.1 ga0 K17 (by decide +kernel)
            refine lv_iload_n hx hb dX12_readPart_120 rfl (lv_at hl 0 rfl) ?_
            refine lv_if_lt (tgt := 128) hx hb dX12_readPart_121 (by decide) (fun c18 => ?_) (fun c18 => ?_)
            · have b18 : (1 : Int32).toInt < (0 : Int32).toInt := i_lt.mp c18
              exact absurd b18 (by omega)
            · have b18 : ¬ (1 : Int32).toInt < (0 : Int32).toInt := fun z9 => c18 (i_lt.mpr z9)
              refine lv_iconst (v := 1) hx hb dX12_readPart_124 (by decide) ?_
              refine lv_goto (tgt := 129) hx hb dX12_readPart_125 (by decide) ?_
              exact retE_z hQ C S17 hr dX12_readPart_129 (z01 (by omega) (by omega)) (⟨⟨by omega, fun _ => by omega, fun _ => (Ex.one (i := (fI D H1 11 a0 16).toInt.toNat) (by rw [qb17]; omega) rfl).at (by omega) (by omega), tk17⟩, RR.ok (by simp [prtR, prt, nk5, y7, y14]) (by omega) rb17⟩)
        · skip
          refine lv_if_eq (tgt := 60) hx hb dX12_readPart_53 (by decide) (fun c19 => ?_) (fun c19 => ?_)
          · have b19 : v14.toInt = (0 : Int32).toInt := i_eq.mp c19
            refine lv_aload_n hx hb dX12_readPart_60 rfl (lv_at hl 0 rfl) ?_
            refine q_lds C ks_X12_149 dX12_readPart_61 (fun a20 ha20 wa20 => ?_)
            refine callV_Pi C S1.1 S1.2.1.2.1 (c_X12_isWord_f l D G a0 a20 4 w_warm T b ga0 ha20 (Wc.of wa20 kw_warm) (by decide)) kV_X12_105 ga0 (⟨trivial, fq1⟩) dX12_readPart_63 hl.1 rfl rfl (by decide) cd_X12_isWord ⟨Nat.le_of_ble_eq_true rfl, Nat.le_of_ble_eq_true rfl, Nat.le_of_ble_eq_true rfl, Nat.le_of_ble_eq_true rfl, Nat.le_of_ble_eq_true rfl⟩ (fun v21 q21 => ?_)
            obtain ⟨q21, fq21⟩ := q21
            rcases fq21 with ⟨z21, y21⟩ | ⟨z21, y21⟩
            · skip
              refine lv_if_eq (tgt := 73) hx hb dX12_readPart_66 (by decide) (fun c22 => ?_) (fun c22 => ?_)
              · have b22 : v21.toInt = (0 : Int32).toInt := i_eq.mp c22
                exact absurd b22 (by omega)
              · have b22 : ¬ v21.toInt = (0 : Int32).toInt := fun z9 => c22 (i_eq.mpr z9)
                refine lv_iconst (v := 2) hx hb dX12_readPart_69 (by decide) ?_
                refine lv_goto (tgt := 113) hx hb dX12_readPart_70 (by decide) ?_
                have bg23 := fq1.2.2.1
                have rb23 := fq1.rb1 (isW_k y21)
                refine lv_istore_n (lv' := [(1, .int (2 : Int32)), (0, .ref a0)]) hx hb dX12_readPart_113 rfl hl (by decide) rfl (fun ls hl => ?_)
                refine lv_aload_n hx hb dX12_readPart_114 rfl (lv_at hl 1 rfl) ?_
                refine lv_iload_n hx hb dX12_readPart_115 rfl (lv_at hl 0 rfl) ?_
                refine lv_iconst (v := 0) hx hb dX12_readPart_116 (by decide) ?_
                have rs9 : 0 ≤ (fI D H1 11 a0 16).toInt ∧ (fI D H1 11 a0 16).toInt ≤ 400 := S1.1.rng ga0 rfl (by decide) rfl
                have rp9 : 0 ≤ (fI D H1 11 a0 10).toInt ∧ (fI D H1 11 a0 10).toInt ≤ 400 := S1.1.rng ga0 rfl (by decide) rfl
                have k_2 : (2 : Int32).toInt = 2 := by decide
                refine callV_Ev C S1 (c_X12_emits l D G a0 (2 : Int32) (0 : Int32) ga0) kV_X12_185 ga0 (by omega) (by decide +kernel) dX12_readPart_117 hl.1 rfl rfl (by decide) cd_X12_emits ⟨Nat.le_of_ble_eq_true rfl, Nat.le_of_ble_eq_true rfl, Nat.le_of_ble_eq_true rfl, Nat.le_of_ble_eq_true rfl, Nat.le_of_ble_eq_true rfl⟩ (fun H24 L24 S24 K24 q24 => ?_)
                obtain ⟨qa24, qb24, tq24⟩ := q24
                have y24_10 : (fI D H24 11 a0 10).toInt = (fI D H1 11 a0 10).toInt := congrArg Int32.toInt (K24.fI ga0 rfl (by decide) (by decide +kernel))
                have y24_12 : (fI D H24 11 a0 12).toInt = (fI D H1 11 a0 12).toInt := congrArg Int32.toInt (K24.fI ga0 rfl (by decide) (by decide +kernel))
                have y24_13 : (fI D H24 11 a0 13).toInt = (fI D H1 11 a0 13).toInt := congrArg Int32.toInt (K24.fI ga0 rfl (by decide) (by decide +kernel))
                have lq24 : Lq D H1 H24 a0 := tq24
                have tk24 : Lq D s.heap H24 a0 := tk1.trans lq24
                have bg24 : (fI D H24 11 a0 12).toInt = ((b : Nat) : Int) := by rw [K24.fI ga0 rfl (by decide) (by decide +kernel)]; exact bg23
                have rb24 := rb23.keep S1.1 ga0 K24 (by decide +kernel)
                refine lv_iload_n hx hb dX12_readPart_120 rfl (lv_at hl 0 rfl) ?_
                refine lv_if_lt (tgt := 128) hx hb dX12_readPart_121 (by decide) (fun c25 => ?_) (fun c25 => ?_)
                · have b25 : (2 : Int32).toInt < (0 : Int32).toInt := i_lt.mp c25
                  exact absurd b25 (by omega)
                · have b25 : ¬ (2 : Int32).toInt < (0 : Int32).toInt := fun z9 => c25 (i_lt.mpr z9)
                  refine lv_iconst (v := 1) hx hb dX12_readPart_124 (by decide) ?_
                  refine lv_goto (tgt := 129) hx hb dX12_readPart_125 (by decide) ?_
                  have k_1 : (1 : Int32).toInt = 1 := by decide
                  exact retE_z hQ C S24 hr dX12_readPart_129 (z01 (by omega) (by omega)) (⟨⟨by omega, fun _ => by omega, fun _ => (Ex.one (i := (fI D H1 11 a0 16).toInt.toNat) (by rw [qb24]; omega) rfl).at (by omega) (by omega), tk24⟩, RR.ok (by simp [prtR, prt, nk5, y7, y14, y21]) (by omega) rb24⟩)
            · skip
              refine lv_if_eq (tgt := 73) hx hb dX12_readPart_66 (by decide) (fun c26 => ?_) (fun c26 => ?_)
              · have b26 : v21.toInt = (0 : Int32).toInt := i_eq.mp c26
                refine lv_aload_n hx hb dX12_readPart_73 rfl (lv_at hl 0 rfl) ?_
                refine q_lds C ks_X12_189 dX12_readPart_74 (fun a27 ha27 wa27 => ?_)
                refine callV_Pi C S1.1 S1.2.1.2.1 (c_X12_isWord_f l D G a0 a27 7 w_hearths T b ga0 ha27 (Wc.of wa27 kw_hearths) (by decide)) kV_X12_105 ga0 (⟨trivial, fq1⟩) dX12_readPart_76 hl.1 rfl rfl (by decide) cd_X12_isWord ⟨Nat.le_of_ble_eq_true rfl, Nat.le_of_ble_eq_true rfl, Nat.le_of_ble_eq_true rfl, Nat.le_of_ble_eq_true rfl, Nat.le_of_ble_eq_true rfl⟩ (fun v28 q28 => ?_)
                obtain ⟨q28, fq28⟩ := q28
                rcases fq28 with ⟨z28, y28⟩ | ⟨z28, y28⟩
                · skip
                  refine lv_if_eq (tgt := 86) hx hb dX12_readPart_79 (by decide) (fun c29 => ?_) (fun c29 => ?_)
                  · have b29 : v28.toInt = (0 : Int32).toInt := i_eq.mp c29
                    exact absurd b29 (by omega)
                  · have b29 : ¬ v28.toInt = (0 : Int32).toInt := fun z9 => c29 (i_eq.mpr z9)
                    refine lv_iconst (v := 3) hx hb dX12_readPart_82 (by decide) ?_
                    refine lv_goto (tgt := 113) hx hb dX12_readPart_83 (by decide) ?_
                    have bg30 := fq1.2.2.1
                    have rb30 := fq1.rb1 (isW_k y28)
                    refine lv_istore_n (lv' := [(1, .int (3 : Int32)), (0, .ref a0)]) hx hb dX12_readPart_113 rfl hl (by decide) rfl (fun ls hl => ?_)
                    refine lv_aload_n hx hb dX12_readPart_114 rfl (lv_at hl 1 rfl) ?_
                    refine lv_iload_n hx hb dX12_readPart_115 rfl (lv_at hl 0 rfl) ?_
                    refine lv_iconst (v := 0) hx hb dX12_readPart_116 (by decide) ?_
                    have rs9 : 0 ≤ (fI D H1 11 a0 16).toInt ∧ (fI D H1 11 a0 16).toInt ≤ 400 := S1.1.rng ga0 rfl (by decide) rfl
                    have rp9 : 0 ≤ (fI D H1 11 a0 10).toInt ∧ (fI D H1 11 a0 10).toInt ≤ 400 := S1.1.rng ga0 rfl (by decide) rfl
                    have k_3 : (3 : Int32).toInt = 3 := by decide
                    refine callV_Ev C S1 (c_X12_emits l D G a0 (3 : Int32) (0 : Int32) ga0) kV_X12_185 ga0 (by omega) (by decide +kernel) dX12_readPart_117 hl.1 rfl rfl (by decide) cd_X12_emits ⟨Nat.le_of_ble_eq_true rfl, Nat.le_of_ble_eq_true rfl, Nat.le_of_ble_eq_true rfl, Nat.le_of_ble_eq_true rfl, Nat.le_of_ble_eq_true rfl⟩ (fun H31 L31 S31 K31 q31 => ?_)
                    obtain ⟨qa31, qb31, tq31⟩ := q31
                    have y31_10 : (fI D H31 11 a0 10).toInt = (fI D H1 11 a0 10).toInt := congrArg Int32.toInt (K31.fI ga0 rfl (by decide) (by decide +kernel))
                    have y31_12 : (fI D H31 11 a0 12).toInt = (fI D H1 11 a0 12).toInt := congrArg Int32.toInt (K31.fI ga0 rfl (by decide) (by decide +kernel))
                    have y31_13 : (fI D H31 11 a0 13).toInt = (fI D H1 11 a0 13).toInt := congrArg Int32.toInt (K31.fI ga0 rfl (by decide) (by decide +kernel))
                    have lq31 : Lq D H1 H31 a0 := tq31
                    have tk31 : Lq D s.heap H31 a0 := tk1.trans lq31
                    have bg31 : (fI D H31 11 a0 12).toInt = ((b : Nat) : Int) := by rw [K31.fI ga0 rfl (by decide) (by decide +kernel)]; exact bg30
                    have rb31 := rb30.keep S1.1 ga0 K31 (by decide +kernel)
                    refine lv_iload_n hx hb dX12_readPart_120 rfl (lv_at hl 0 rfl) ?_
                    refine lv_if_lt (tgt := 128) hx hb dX12_readPart_121 (by decide) (fun c32 => ?_) (fun c32 => ?_)
                    · have b32 : (3 : Int32).toInt < (0 : Int32).toInt := i_lt.mp c32
                      exact absurd b32 (by omega)
                    · have b32 : ¬ (3 : Int32).toInt < (0 : Int32).toInt := fun z9 => c32 (i_lt.mpr z9)
                      refine lv_iconst (v := 1) hx hb dX12_readPart_124 (by decide) ?_
                      refine lv_goto (tgt := 129) hx hb dX12_readPart_125 (by decide) ?_
                      have k_1 : (1 : Int32).toInt = 1 := by decide
                      exact retE_z hQ C S31 hr dX12_readPart_129 (z01 (by omega) (by omega)) (⟨⟨by omega, fun _ => by omega, fun _ => (Ex.one (i := (fI D H1 11 a0 16).toInt.toNat) (by rw [qb31]; omega) rfl).at (by omega) (by omega), tk31⟩, RR.ok (by simp [prtR, prt, nk5, y7, y14, y21, y28]) (by omega) rb31⟩)
                · skip
                  refine lv_if_eq (tgt := 86) hx hb dX12_readPart_79 (by decide) (fun c33 => ?_) (fun c33 => ?_)
                  · have b33 : v28.toInt = (0 : Int32).toInt := i_eq.mp c33
                    refine lv_aload_n hx hb dX12_readPart_86 rfl (lv_at hl 0 rfl) ?_
                    refine q_lds C ks_X12_112 dX12_readPart_87 (fun a34 ha34 wa34 => ?_)
                    refine callV_Pi C S1.1 S1.2.1.2.1 (c_X12_isWord_f l D G a0 a34 7 w_windows T b ga0 ha34 (Wc.of wa34 kw_windows) (by decide)) kV_X12_105 ga0 (⟨trivial, fq1⟩) dX12_readPart_89 hl.1 rfl rfl (by decide) cd_X12_isWord ⟨Nat.le_of_ble_eq_true rfl, Nat.le_of_ble_eq_true rfl, Nat.le_of_ble_eq_true rfl, Nat.le_of_ble_eq_true rfl, Nat.le_of_ble_eq_true rfl⟩ (fun v35 q35 => ?_)
                    obtain ⟨q35, fq35⟩ := q35
                    rcases fq35 with ⟨z35, y35⟩ | ⟨z35, y35⟩
                    · skip
                      refine lv_if_eq (tgt := 99) hx hb dX12_readPart_92 (by decide) (fun c36 => ?_) (fun c36 => ?_)
                      · have b36 : v35.toInt = (0 : Int32).toInt := i_eq.mp c36
                        exact absurd b36 (by omega)
                      · have b36 : ¬ v35.toInt = (0 : Int32).toInt := fun z9 => c36 (i_eq.mpr z9)
                        refine lv_iconst (v := 4) hx hb dX12_readPart_95 (by decide) ?_
                        refine lv_goto (tgt := 113) hx hb dX12_readPart_96 (by decide) ?_
                        have bg37 := fq1.2.2.1
                        have rb37 := fq1.rb1 (isW_k y35)
                        refine lv_istore_n (lv' := [(1, .int (4 : Int32)), (0, .ref a0)]) hx hb dX12_readPart_113 rfl hl (by decide) rfl (fun ls hl => ?_)
                        refine lv_aload_n hx hb dX12_readPart_114 rfl (lv_at hl 1 rfl) ?_
                        refine lv_iload_n hx hb dX12_readPart_115 rfl (lv_at hl 0 rfl) ?_
                        refine lv_iconst (v := 0) hx hb dX12_readPart_116 (by decide) ?_
                        have rs9 : 0 ≤ (fI D H1 11 a0 16).toInt ∧ (fI D H1 11 a0 16).toInt ≤ 400 := S1.1.rng ga0 rfl (by decide) rfl
                        have rp9 : 0 ≤ (fI D H1 11 a0 10).toInt ∧ (fI D H1 11 a0 10).toInt ≤ 400 := S1.1.rng ga0 rfl (by decide) rfl
                        have k_4 : (4 : Int32).toInt = 4 := by decide
                        refine callV_Ev C S1 (c_X12_emits l D G a0 (4 : Int32) (0 : Int32) ga0) kV_X12_185 ga0 (by omega) (by decide +kernel) dX12_readPart_117 hl.1 rfl rfl (by decide) cd_X12_emits ⟨Nat.le_of_ble_eq_true rfl, Nat.le_of_ble_eq_true rfl, Nat.le_of_ble_eq_true rfl, Nat.le_of_ble_eq_true rfl, Nat.le_of_ble_eq_true rfl⟩ (fun H38 L38 S38 K38 q38 => ?_)
                        obtain ⟨qa38, qb38, tq38⟩ := q38
                        have y38_10 : (fI D H38 11 a0 10).toInt = (fI D H1 11 a0 10).toInt := congrArg Int32.toInt (K38.fI ga0 rfl (by decide) (by decide +kernel))
                        have y38_12 : (fI D H38 11 a0 12).toInt = (fI D H1 11 a0 12).toInt := congrArg Int32.toInt (K38.fI ga0 rfl (by decide) (by decide +kernel))
                        have y38_13 : (fI D H38 11 a0 13).toInt = (fI D H1 11 a0 13).toInt := congrArg Int32.toInt (K38.fI ga0 rfl (by decide) (by decide +kernel))
                        have lq38 : Lq D H1 H38 a0 := tq38
                        have tk38 : Lq D s.heap H38 a0 := tk1.trans lq38
                        have bg38 : (fI D H38 11 a0 12).toInt = ((b : Nat) : Int) := by rw [K38.fI ga0 rfl (by decide) (by decide +kernel)]; exact bg37
                        have rb38 := rb37.keep S1.1 ga0 K38 (by decide +kernel)
                        refine lv_iload_n hx hb dX12_readPart_120 rfl (lv_at hl 0 rfl) ?_
                        refine lv_if_lt (tgt := 128) hx hb dX12_readPart_121 (by decide) (fun c39 => ?_) (fun c39 => ?_)
                        · have b39 : (4 : Int32).toInt < (0 : Int32).toInt := i_lt.mp c39
                          exact absurd b39 (by omega)
                        · have b39 : ¬ (4 : Int32).toInt < (0 : Int32).toInt := fun z9 => c39 (i_lt.mpr z9)
                          refine lv_iconst (v := 1) hx hb dX12_readPart_124 (by decide) ?_
                          refine lv_goto (tgt := 129) hx hb dX12_readPart_125 (by decide) ?_
                          have k_1 : (1 : Int32).toInt = 1 := by decide
                          exact retE_z hQ C S38 hr dX12_readPart_129 (z01 (by omega) (by omega)) (⟨⟨by omega, fun _ => by omega, fun _ => (Ex.one (i := (fI D H1 11 a0 16).toInt.toNat) (by rw [qb38]; omega) rfl).at (by omega) (by omega), tk38⟩, RR.ok (by simp [prtR, prt, nk5, y7, y14, y21, y28, y35]) (by omega) rb38⟩)
                    · skip
                      refine lv_if_eq (tgt := 99) hx hb dX12_readPart_92 (by decide) (fun c40 => ?_) (fun c40 => ?_)
                      · have b40 : v35.toInt = (0 : Int32).toInt := i_eq.mp c40
                        refine lv_aload_n hx hb dX12_readPart_99 rfl (lv_at hl 0 rfl) ?_
                        refine q_lds C ks_X12_180 dX12_readPart_100 (fun a41 ha41 wa41 => ?_)
                        refine callV_Pi C S1.1 S1.2.1.2.1 (c_X12_isWord_f l D G a0 a41 7 w_quarter T b ga0 ha41 (Wc.of wa41 kw_quarter) (by decide)) kV_X12_105 ga0 (⟨trivial, fq1⟩) dX12_readPart_102 hl.1 rfl rfl (by decide) cd_X12_isWord ⟨Nat.le_of_ble_eq_true rfl, Nat.le_of_ble_eq_true rfl, Nat.le_of_ble_eq_true rfl, Nat.le_of_ble_eq_true rfl, Nat.le_of_ble_eq_true rfl⟩ (fun v42 q42 => ?_)
                        obtain ⟨q42, fq42⟩ := q42
                        rcases fq42 with ⟨z42, y42⟩ | ⟨z42, y42⟩
                        · skip
                          refine lv_if_eq (tgt := 112) hx hb dX12_readPart_105 (by decide) (fun c43 => ?_) (fun c43 => ?_)
                          · have b43 : v42.toInt = (0 : Int32).toInt := i_eq.mp c43
                            exact absurd b43 (by omega)
                          · have b43 : ¬ v42.toInt = (0 : Int32).toInt := fun z9 => c43 (i_eq.mpr z9)
                            refine lv_iconst (v := 5) hx hb dX12_readPart_108 (by decide) ?_
                            refine lv_goto (tgt := 113) hx hb dX12_readPart_109 (by decide) ?_
                            have bg44 := fq1.2.2.1
                            have rb44 := fq1.rb1 (isW_k y42)
                            refine lv_istore_n (lv' := [(1, .int (5 : Int32)), (0, .ref a0)]) hx hb dX12_readPart_113 rfl hl (by decide) rfl (fun ls hl => ?_)
                            refine lv_aload_n hx hb dX12_readPart_114 rfl (lv_at hl 1 rfl) ?_
                            refine lv_iload_n hx hb dX12_readPart_115 rfl (lv_at hl 0 rfl) ?_
                            refine lv_iconst (v := 0) hx hb dX12_readPart_116 (by decide) ?_
                            have rs9 : 0 ≤ (fI D H1 11 a0 16).toInt ∧ (fI D H1 11 a0 16).toInt ≤ 400 := S1.1.rng ga0 rfl (by decide) rfl
                            have rp9 : 0 ≤ (fI D H1 11 a0 10).toInt ∧ (fI D H1 11 a0 10).toInt ≤ 400 := S1.1.rng ga0 rfl (by decide) rfl
                            have k_5 : (5 : Int32).toInt = 5 := by decide
                            refine callV_Ev C S1 (c_X12_emits l D G a0 (5 : Int32) (0 : Int32) ga0) kV_X12_185 ga0 (by omega) (by decide +kernel) dX12_readPart_117 hl.1 rfl rfl (by decide) cd_X12_emits ⟨Nat.le_of_ble_eq_true rfl, Nat.le_of_ble_eq_true rfl, Nat.le_of_ble_eq_true rfl, Nat.le_of_ble_eq_true rfl, Nat.le_of_ble_eq_true rfl⟩ (fun H45 L45 S45 K45 q45 => ?_)
                            obtain ⟨qa45, qb45, tq45⟩ := q45
                            have y45_10 : (fI D H45 11 a0 10).toInt = (fI D H1 11 a0 10).toInt := congrArg Int32.toInt (K45.fI ga0 rfl (by decide) (by decide +kernel))
                            have y45_12 : (fI D H45 11 a0 12).toInt = (fI D H1 11 a0 12).toInt := congrArg Int32.toInt (K45.fI ga0 rfl (by decide) (by decide +kernel))
                            have y45_13 : (fI D H45 11 a0 13).toInt = (fI D H1 11 a0 13).toInt := congrArg Int32.toInt (K45.fI ga0 rfl (by decide) (by decide +kernel))
                            have lq45 : Lq D H1 H45 a0 := tq45
                            have tk45 : Lq D s.heap H45 a0 := tk1.trans lq45
                            have bg45 : (fI D H45 11 a0 12).toInt = ((b : Nat) : Int) := by rw [K45.fI ga0 rfl (by decide) (by decide +kernel)]; exact bg44
                            have rb45 := rb44.keep S1.1 ga0 K45 (by decide +kernel)
                            refine lv_iload_n hx hb dX12_readPart_120 rfl (lv_at hl 0 rfl) ?_
                            refine lv_if_lt (tgt := 128) hx hb dX12_readPart_121 (by decide) (fun c46 => ?_) (fun c46 => ?_)
                            · have b46 : (5 : Int32).toInt < (0 : Int32).toInt := i_lt.mp c46
                              exact absurd b46 (by omega)
                            · have b46 : ¬ (5 : Int32).toInt < (0 : Int32).toInt := fun z9 => c46 (i_lt.mpr z9)
                              refine lv_iconst (v := 1) hx hb dX12_readPart_124 (by decide) ?_
                              refine lv_goto (tgt := 129) hx hb dX12_readPart_125 (by decide) ?_
                              have k_1 : (1 : Int32).toInt = 1 := by decide
                              exact retE_z hQ C S45 hr dX12_readPart_129 (z01 (by omega) (by omega)) (⟨⟨by omega, fun _ => by omega, fun _ => (Ex.one (i := (fI D H1 11 a0 16).toInt.toNat) (by rw [qb45]; omega) rfl).at (by omega) (by omega), tk45⟩, RR.ok (by simp [prtR, prt, nk5, y7, y14, y21, y28, y35, y42]) (by omega) rb45⟩)
                        · skip
                          refine lv_if_eq (tgt := 112) hx hb dX12_readPart_105 (by decide) (fun c47 => ?_) (fun c47 => ?_)
                          · have b47 : v42.toInt = (0 : Int32).toInt := i_eq.mp c47
                            refine lv_iconst (v := -1) hx hb dX12_readPart_112 (by decide) ?_
                            have bg48 := fq1.2.2.1
                            refine lv_istore_n (lv' := [(1, .int (-1 : Int32)), (0, .ref a0)]) hx hb dX12_readPart_113 rfl hl (by decide) rfl (fun ls hl => ?_)
                            refine lv_aload_n hx hb dX12_readPart_114 rfl (lv_at hl 1 rfl) ?_
                            refine lv_iload_n hx hb dX12_readPart_115 rfl (lv_at hl 0 rfl) ?_
                            refine lv_iconst (v := 0) hx hb dX12_readPart_116 (by decide) ?_
                            have rs9 : 0 ≤ (fI D H1 11 a0 16).toInt ∧ (fI D H1 11 a0 16).toInt ≤ 400 := S1.1.rng ga0 rfl (by decide) rfl
                            have rp9 : 0 ≤ (fI D H1 11 a0 10).toInt ∧ (fI D H1 11 a0 10).toInt ≤ 400 := S1.1.rng ga0 rfl (by decide) rfl
                            have k_m1 : (-1 : Int32).toInt = -1 := by decide
                            refine callV_Ev C S1 (c_X12_emits l D G a0 (-1 : Int32) (0 : Int32) ga0) kV_X12_185 ga0 (by omega) (by decide +kernel) dX12_readPart_117 hl.1 rfl rfl (by decide) cd_X12_emits ⟨Nat.le_of_ble_eq_true rfl, Nat.le_of_ble_eq_true rfl, Nat.le_of_ble_eq_true rfl, Nat.le_of_ble_eq_true rfl, Nat.le_of_ble_eq_true rfl⟩ (fun H49 L49 S49 K49 q49 => ?_)
                            obtain ⟨qa49, qb49, tq49⟩ := q49
                            have y49_10 : (fI D H49 11 a0 10).toInt = (fI D H1 11 a0 10).toInt := congrArg Int32.toInt (K49.fI ga0 rfl (by decide) (by decide +kernel))
                            have y49_12 : (fI D H49 11 a0 12).toInt = (fI D H1 11 a0 12).toInt := congrArg Int32.toInt (K49.fI ga0 rfl (by decide) (by decide +kernel))
                            have y49_13 : (fI D H49 11 a0 13).toInt = (fI D H1 11 a0 13).toInt := congrArg Int32.toInt (K49.fI ga0 rfl (by decide) (by decide +kernel))
                            have lq49 : Lq D H1 H49 a0 := tq49
                            have tk49 : Lq D s.heap H49 a0 := tk1.trans lq49
                            have bg49 : (fI D H49 11 a0 12).toInt = ((b : Nat) : Int) := by rw [K49.fI ga0 rfl (by decide) (by decide +kernel)]; exact bg48
                            refine lv_iload_n hx hb dX12_readPart_120 rfl (lv_at hl 0 rfl) ?_
                            refine lv_if_lt (tgt := 128) hx hb dX12_readPart_121 (by decide) (fun c50 => ?_) (fun c50 => ?_)
                            · have b50 : (-1 : Int32).toInt < (0 : Int32).toInt := i_lt.mp c50
                              refine lv_iconst (v := 0) hx hb dX12_readPart_128 (by decide) ?_
                              exact retE_z hQ C S49 hr dX12_readPart_129 (z01 (by omega) (by omega)) (⟨⟨by omega, fun h9 => absurd h9 (by decide), fun h9 => absurd h9 (by decide), tk49⟩, RR.no (by simp [prtR, prt, nk5, y7, y14, y21, y28, y35, y42]) (by omega) bg49⟩)
                            · have b50 : ¬ (-1 : Int32).toInt < (0 : Int32).toInt := fun z9 => c50 (i_lt.mpr z9)
                              exact absurd b50 (by omega)
                          · have b47 : ¬ v42.toInt = (0 : Int32).toInt := fun z9 => c47 (i_eq.mpr z9)
                            exact absurd b47 (by omega)
                      · have b40 : ¬ v35.toInt = (0 : Int32).toInt := fun z9 => c40 (i_eq.mpr z9)
                        exact absurd b40 (by omega)
                  · have b33 : ¬ v28.toInt = (0 : Int32).toInt := fun z9 => c33 (i_eq.mpr z9)
                    exact absurd b33 (by omega)
              · have b26 : ¬ v21.toInt = (0 : Int32).toInt := fun z9 => c26 (i_eq.mpr z9)
                exact absurd b26 (by omega)
          · have b19 : ¬ v14.toInt = (0 : Int32).toInt := fun z9 => c19 (i_eq.mpr z9)
            exact absurd b19 (by omega)
      · have b12 : ¬ v7.toInt = (0 : Int32).toInt := fun z9 => c12 (i_eq.mpr z9)
        exact absurd b12 (by omega)
  · have b4 : (fI D H1 11 a0 10).toInt = (fI D H1 11 a0 12).toInt := i_eq.mp c4
    have nk51 : kd T b ≠ 1 := fun z9 => by have z8 := fq1.2.2.2.1 z9; have z7 := fq1.2.2.1; have z6 := af_lt (T := T) (b := b) (by omega); omega
    refine lv_aload_n hx hb dX12_readPart_15 rfl (lv_at hl 0 rfl) ?_
    refine lv_iconst (v := 0) hx hb dX12_readPart_16 (by decide) ?_
    refine lv_sipush (v := 999) hx hb dX12_readPart_17 (by decide) ?_
    have rb52 := fq1.rb0 (by omega)
    have k_0 : (0 : Int32).toInt = 0 := by decide
    have k_999 : (999 : Int32).toInt = 999 := by decide
    refine callV_Ei C S1 (c_X12_number_f l D G a0 (0 : Int32) (999 : Int32) 0 999 T b ga0 (by omega) (by omega) (by omega) (by omega)) kV_X12_109 ga0 (⟨trivial, rb52⟩) (by decide +kernel) dX12_readPart_20 hl.1 rfl rfl (by decide) cd_X12_number ⟨Nat.le_of_ble_eq_true rfl, Nat.le_of_ble_eq_true rfl, Nat.le_of_ble_eq_true rfl, Nat.le_of_ble_eq_true rfl, Nat.le_of_ble_eq_true rfl⟩ (fun v53 H53 L53 S53 K53 q53 => ?_)
    obtain ⟨q53, fq53⟩ := q53
    have y53_13 : (fI D H53 11 a0 13).toInt = (fI D H1 11 a0 13).toInt := congrArg Int32.toInt (K53.fI ga0 rfl (by decide) (by decide +kernel))
    have y53_16 : (fI D H53 11 a0 16).toInt = (fI D H1 11 a0 16).toInt := congrArg Int32.toInt (K53.fI ga0 rfl (by decide) (by decide +kernel))
    have lq53 : Lq D H1 H53 a0 := Lq.keep S1.1 ga0 K53 (by decide +kernel) (by decide +kernel) (by decide +kernel)
    have tk53 : Lq D s.heap H53 a0 := tk1.trans lq53
    rcases fq53 with ⟨z53, y53, ts53, bg53⟩ | ⟨z53, y53, wr53⟩
    · skip
      refine lv_istore_n (lv' := [(1, .int v53), (0, .ref a0)]) hx hb dX12_readPart_23 rfl hl (by decide) rfl (fun ls hl => ?_)
      refine lv_aload_n hx hb dX12_readPart_24 rfl (lv_at hl 1 rfl) ?_
      refine lv_bipush (v := 11) hx hb dX12_readPart_25 (by decide) ?_
      refine lv_iload_n hx hb dX12_readPart_27 rfl (lv_at hl 0 rfl) ?_
      have rs9 : 0 ≤ (fI D H53 11 a0 16).toInt ∧ (fI D H53 11 a0 16).toInt ≤ 400 := S53.1.rng ga0 rfl (by decide) rfl
      have rp9 : 0 ≤ (fI D H53 11 a0 10).toInt ∧ (fI D H53 11 a0 10).toInt ≤ 400 := S53.1.rng ga0 rfl (by decide) rfl
      have k_11 : (11 : Int32).toInt = 11 := by decide
      refine callV_Ev C S53 (c_X12_emits l D G a0 (11 : Int32) v53 ga0) kV_X12_185 ga0 (by omega) (by decide +kernel) dX12_readPart_28 hl.1 rfl rfl (by decide) cd_X12_emits ⟨Nat.le_of_ble_eq_true rfl, Nat.le_of_ble_eq_true rfl, Nat.le_of_ble_eq_true rfl, Nat.le_of_ble_eq_true rfl, Nat.le_of_ble_eq_true rfl⟩ (fun H54 L54 S54 K54 q54 => ?_)
      obtain ⟨qa54, qb54, tq54⟩ := q54
      have y54_10 : (fI D H54 11 a0 10).toInt = (fI D H53 11 a0 10).toInt := congrArg Int32.toInt (K54.fI ga0 rfl (by decide) (by decide +kernel))
      have y54_12 : (fI D H54 11 a0 12).toInt = (fI D H53 11 a0 12).toInt := congrArg Int32.toInt (K54.fI ga0 rfl (by decide) (by decide +kernel))
      have y54_13 : (fI D H54 11 a0 13).toInt = (fI D H53 11 a0 13).toInt := congrArg Int32.toInt (K54.fI ga0 rfl (by decide) (by decide +kernel))
      have lq54 : Lq D H53 H54 a0 := tq54
      have tk54 : Lq D s.heap H54 a0 := tk53.trans lq54
      have rb54 := ts53.keep S53.1 ga0 K54 (by decide +kernel)
      refine lv_goto (tgt := 120) hx hb dX12_readPart_31 (by decide) ?_
      refine lv_iload_n hx hb dX12_readPart_120 rfl (lv_at hl 0 rfl) ?_
      refine lv_if_lt (tgt := 128) hx hb dX12_readPart_121 (by decide) (fun c55 => ?_) (fun c55 => ?_)
      · have b55 : v53.toInt < (0 : Int32).toInt := i_lt.mp c55
        exact absurd b55 (by omega)
      · have b55 : ¬ v53.toInt < (0 : Int32).toInt := fun z9 => c55 (i_lt.mpr z9)
        refine lv_iconst (v := 1) hx hb dX12_readPart_124 (by decide) ?_
        refine lv_goto (tgt := 129) hx hb dX12_readPart_125 (by decide) ?_
        have k_1 : (1 : Int32).toInt = 1 := by decide
        exact retE_z hQ C S54 hr dX12_readPart_129 (z01 (by omega) (by omega)) (⟨⟨by omega, fun _ => by omega, fun _ => (Ex.one (i := (fI D H53 11 a0 16).toInt.toNat) (by rw [qb54]; omega) rfl).at (by omega) (by omega), tk54⟩, RR.ok (by unfold prtR; rw [if_pos (prt_num nk51 y53)]) (by omega) rb54⟩)
    · skip
      refine lv_istore_n (lv' := [(1, .int v53), (0, .ref a0)]) hx hb dX12_readPart_23 rfl hl (by decide) rfl (fun ls hl => ?_)
      refine lv_aload_n hx hb dX12_readPart_24 rfl (lv_at hl 1 rfl) ?_
      refine lv_bipush (v := 11) hx hb dX12_readPart_25 (by decide) ?_
      refine lv_iload_n hx hb dX12_readPart_27 rfl (lv_at hl 0 rfl) ?_
      have rs9 : 0 ≤ (fI D H53 11 a0 16).toInt ∧ (fI D H53 11 a0 16).toInt ≤ 400 := S53.1.rng ga0 rfl (by decide) rfl
      have rp9 : 0 ≤ (fI D H53 11 a0 10).toInt ∧ (fI D H53 11 a0 10).toInt ≤ 400 := S53.1.rng ga0 rfl (by decide) rfl
      have k_11 : (11 : Int32).toInt = 11 := by decide
      refine callV_Ev C S53 (c_X12_emits l D G a0 (11 : Int32) v53 ga0) kV_X12_185 ga0 (by omega) (by decide +kernel) dX12_readPart_28 hl.1 rfl rfl (by decide) cd_X12_emits ⟨Nat.le_of_ble_eq_true rfl, Nat.le_of_ble_eq_true rfl, Nat.le_of_ble_eq_true rfl, Nat.le_of_ble_eq_true rfl, Nat.le_of_ble_eq_true rfl⟩ (fun H56 L56 S56 K56 q56 => ?_)
      obtain ⟨qa56, qb56, tq56⟩ := q56
      have y56_10 : (fI D H56 11 a0 10).toInt = (fI D H53 11 a0 10).toInt := congrArg Int32.toInt (K56.fI ga0 rfl (by decide) (by decide +kernel))
      have y56_12 : (fI D H56 11 a0 12).toInt = (fI D H53 11 a0 12).toInt := congrArg Int32.toInt (K56.fI ga0 rfl (by decide) (by decide +kernel))
      have y56_13 : (fI D H56 11 a0 13).toInt = (fI D H53 11 a0 13).toInt := congrArg Int32.toInt (K56.fI ga0 rfl (by decide) (by decide +kernel))
      have lq56 : Lq D H53 H56 a0 := tq56
      have tk56 : Lq D s.heap H56 a0 := tk53.trans lq56
      have bg56 : (fI D H56 11 a0 12).toInt = ((b : Nat) : Int) := by rw [K56.fI ga0 rfl (by decide) (by decide +kernel)]; exact wr53
      refine lv_goto (tgt := 120) hx hb dX12_readPart_31 (by decide) ?_
      refine lv_iload_n hx hb dX12_readPart_120 rfl (lv_at hl 0 rfl) ?_
      refine lv_if_lt (tgt := 128) hx hb dX12_readPart_121 (by decide) (fun c57 => ?_) (fun c57 => ?_)
      · have b57 : v53.toInt < (0 : Int32).toInt := i_lt.mp c57
        refine lv_iconst (v := 0) hx hb dX12_readPart_128 (by decide) ?_
        exact retE_z hQ C S56 hr dX12_readPart_129 (z01 (by omega) (by omega)) (⟨⟨by omega, fun h9 => absurd h9 (by decide), fun h9 => absurd h9 (by decide), tk56⟩, RR.no (by unfold prtR; rw [if_neg (prt_non nk51 y53)]) (by omega) bg56⟩)
      · have b57 : ¬ v53.toInt < (0 : Int32).toInt := fun z9 => c57 (i_lt.mpr z9)
        exact absurd b57 (by omega)

set_option maxRecDepth 100000 in
set_option maxHeartbeats 4000000 in
theorem c_X12_readSum (l : Launch) (D : DD) (G : Nat → Nat) (a0 : Nat) (T : Tx) (b : Nat) (ga0 : G a0 = 30) : CE l D G yX12_readSum cX12_readSum 1 (some .boolean) 6 [.ref a0] (fun H => ((fI D H 11 a0 16).toInt + 3 ≤ (fI D H 11 a0 10).toInt) ∧ (RB D H a0 T b)) [(30, 10), (30, 12), (30, 16), (31, 0)] (xI (fun H r H1 => ((0 ≤ r.toInt ∧ r.toInt ≤ 1) ∧ (r.toInt = 1 → (fI D H1 11 a0 16).toInt - (fI D H 11 a0 16).toInt ≤ (fI D H1 11 a0 10).toInt - (fI D H 11 a0 10).toInt ∧ (fI D H1 11 a0 13).toInt = (fI D H 11 a0 13).toInt ∧ (fI D H 11 a0 10).toInt ≤ (fI D H1 11 a0 10).toInt) ∧ (r.toInt = 1 → Ex (Cs D H1 a0) (fI D H 11 a0 16).toInt.toNat (fI D H1 11 a0 16).toInt.toNat) ∧ Lq D H H1 a0) ∧ (RR D H1 a0 T (sumF T b) r))) := by
  refine enter (by decide) (Nat.le_of_ble_eq_true rfl) ?_
  intro p e s m args below meth c ls Q hA hQ C hr hO hpre hl
  have hx := C.1
  have hb := C.2.1
  have S : Sd D G [(30, 10), (30, 12), (30, 16), (31, 0)] s.heap s.heap [] := Sd.start hO
  have hl : lv_has ls 1 [(0, .ref a0)] := hl
  have rs0 : 0 ≤ (fI D s.heap 11 a0 16).toInt ∧ (fI D s.heap 11 a0 16).toInt ≤ 400 := hO.rng ga0 rfl (by decide) rfl
  have rp0 : 0 ≤ (fI D s.heap 11 a0 10).toInt ∧ (fI D s.heap 11 a0 10).toInt ≤ 400 := hO.rng ga0 rfl (by decide) rfl
  obtain ⟨hpre, hf⟩ := hpre
  have ts0 := hf
  have hT : T.2 ≤ 400 := ts0.le hO ga0
  have tk0 : Lq D s.heap s.heap a0 := Lq.refl
  refine lv_aload_n hx hb dX12_readSum_0 rfl (lv_at hl 0 rfl) ?_
  refine callV_Ei C S (c_X12_readPart l D G a0 T b ga0) kV_X12_190 ga0 (⟨hpre, ts0⟩) (by decide +kernel) dX12_readSum_1 hl.1 rfl rfl (by decide) cd_X12_readPart ⟨Nat.le_of_ble_eq_true rfl, Nat.le_of_ble_eq_true rfl, Nat.le_of_ble_eq_true rfl, Nat.le_of_ble_eq_true rfl, Nat.le_of_ble_eq_true rfl⟩ (fun v1 H1 L1 S1 K1 q1 => ?_)
  obtain ⟨q1, fq1⟩ := q1
  obtain ⟨q1, sa1, sx1, tq1⟩ := q1
  have y1_13 : (fI D H1 11 a0 13).toInt = (fI D s.heap 11 a0 13).toInt := congrArg Int32.toInt (K1.fI ga0 rfl (by decide) (by decide +kernel))
  have lq1 : Lq D s.heap H1 a0 := tq1
  have tk1 : Lq D s.heap H1 a0 := tk0.trans lq1
  rcases fq1 with ⟨c1, y1, z1, ts1⟩ | ⟨e1, y1, z1, wr1⟩
  · skip
    have k_0 : (0 : Int32).toInt = 0 := by decide
    refine lv_if_ne (tgt := 9) hx hb dX12_readSum_4 (by decide) (fun c2 => ?_) (fun c2 => ?_)
    · have b2 : ¬ v1.toInt = (0 : Int32).toInt := fun z9 => c2 (i_eq.mpr z9)
      have Lp9 : ∀ (n : Nat) (b_9 : Nat) (H_9 : Heap) (L_9 : List Loc) (ls : Array Slot), (Sd D G [(30, 10), (30, 12), (30, 16), (31, 0)] s.heap H_9 L_9) → (Ex (Cs D H_9 a0) (fI D s.heap 11 a0 16).toInt.toNat (fI D H_9 11 a0 16).toInt.toNat) → ((fI D H_9 11 a0 16).toInt - (fI D s.heap 11 a0 16).toInt ≤ (fI D H_9 11 a0 10).toInt - (fI D s.heap 11 a0 10).toInt ∧ (fI D H_9 11 a0 13).toInt = (fI D s.heap 11 a0 13).toInt ∧ (fI D s.heap 11 a0 10).toInt ≤ (fI D H_9 11 a0 10).toInt) → (RB D H_9 a0 T b_9) → (sumF T b = sumT T b_9) → (Lq D s.heap H_9 a0) → 401 - (fI D H_9 11 a0 10).toInt ≤ (n : Int) → lv_has ls 1 [(0, .ref a0)] → W p l e (rmU 6 0 0) s m args below meth c H_9 L_9 0 0 Q (F0 m 9 ls []) := by
        intro n
        induction n with
        | zero =>
          intro b_9 H_9 L_9 ls S_9 u9_0 u9_1 u9_2 u9_3 u9_4 hn hl
          have rz : 0 ≤ (fI D H_9 11 a0 10).toInt ∧ (fI D H_9 11 a0 10).toInt ≤ 400 := S_9.1.rng ga0 rfl (by decide) rfl
          exact absurd hn (by omega)
        | succ n ih9 =>
          intro b_9 H_9 L_9 ls S_9 u9_0 u9_1 u9_2 u9_3 u9_4 hn hl
          have rs9 : 0 ≤ (fI D H_9 11 a0 16).toInt ∧ (fI D H_9 11 a0 16).toInt ≤ 400 := S_9.1.rng ga0 rfl (by decide) rfl
          have rp9 : 0 ≤ (fI D H_9 11 a0 10).toInt ∧ (fI D H_9 11 a0 10).toInt ≤ 400 := S_9.1.rng ga0 rfl (by decide) rfl
          refine lv_aload_n hx hb dX12_readSum_9 rfl (lv_at hl 0 rfl) ?_
          refine lv_bipush (v := 43) hx hb dX12_readSum_10 (by decide) ?_
          have k_43 : (43 : Int32).toInt = 43 := by decide
          refine callV_Ei C S_9 (c_X12_sign_f l D G a0 (43 : Int32) 43 T b_9 ga0 (by omega) (by decide)) kV_X12_193 ga0 (⟨trivial, u9_2⟩) (by decide +kernel) dX12_readSum_12 hl.1 rfl rfl (by decide) cd_X12_sign ⟨Nat.le_of_ble_eq_true rfl, Nat.le_of_ble_eq_true rfl, Nat.le_of_ble_eq_true rfl, Nat.le_of_ble_eq_true rfl, Nat.le_of_ble_eq_true rfl⟩ (fun v3 H3 L3 S3 K3 q3 => ?_)
          obtain ⟨q3, fq3⟩ := q3
          have y3_13 : (fI D H3 11 a0 13).toInt = (fI D H_9 11 a0 13).toInt := congrArg Int32.toInt (K3.fI ga0 rfl (by decide) (by decide +kernel))
          have y3_16 : (fI D H3 11 a0 16).toInt = (fI D H_9 11 a0 16).toInt := congrArg Int32.toInt (K3.fI ga0 rfl (by decide) (by decide +kernel))
          have lq3 : Lq D H_9 H3 a0 := Lq.keep S_9.1 ga0 K3 (by decide +kernel) (by decide +kernel) (by decide +kernel)
          have tk3 : Lq D s.heap H3 a0 := u9_4.trans lq3
          rcases fq3 with ⟨z3, y3, ts3, wr3⟩ | ⟨z3, y3, ts3, wr3⟩
          · skip
            refine lv_if_eq (tgt := 37) hx hb dX12_readSum_15 (by decide) (fun c4 => ?_) (fun c4 => ?_)
            · have b4 : v3.toInt = (0 : Int32).toInt := i_eq.mp c4
              exact absurd b4 (by omega)
            · have b4 : ¬ v3.toInt = (0 : Int32).toInt := fun z9 => c4 (i_eq.mpr z9)
              refine lv_aload_n hx hb dX12_readSum_18 rfl (lv_at hl 0 rfl) ?_
              have rs9 : 0 ≤ (fI D H3 11 a0 16).toInt ∧ (fI D H3 11 a0 16).toInt ≤ 400 := S3.1.rng ga0 rfl (by decide) rfl
              have rp9 : 0 ≤ (fI D H3 11 a0 10).toInt ∧ (fI D H3 11 a0 10).toInt ≤ 400 := S3.1.rng ga0 rfl (by decide) rfl
              refine callV_Ei C S3 (c_X12_readPart l D G a0 T (nx T b_9) ga0) kV_X12_190 ga0 (⟨by omega, ts3⟩) (by decide +kernel) dX12_readSum_19 hl.1 rfl rfl (by decide) cd_X12_readPart ⟨Nat.le_of_ble_eq_true rfl, Nat.le_of_ble_eq_true rfl, Nat.le_of_ble_eq_true rfl, Nat.le_of_ble_eq_true rfl, Nat.le_of_ble_eq_true rfl⟩ (fun v5 H5 L5 S5 K5 q5 => ?_)
              obtain ⟨q5, fq5⟩ := q5
              obtain ⟨q5, sa5, sx5, tq5⟩ := q5
              have y5_13 : (fI D H5 11 a0 13).toInt = (fI D H3 11 a0 13).toInt := congrArg Int32.toInt (K5.fI ga0 rfl (by decide) (by decide +kernel))
              have lq5 : Lq D H3 H5 a0 := tq5
              have tk5 : Lq D s.heap H5 a0 := tk3.trans lq5
              rcases fq5 with ⟨c5, y5, z5, ts5⟩ | ⟨e5, y5, z5, wr5⟩
              · skip
                refine lv_if_ne (tgt := 27) hx hb dX12_readSum_22 (by decide) (fun c6 => ?_) (fun c6 => ?_)
                · have b6 : ¬ v5.toInt = (0 : Int32).toInt := fun z9 => c6 (i_eq.mpr z9)
                  refine lv_aload_n hx hb dX12_readSum_27 rfl (lv_at hl 0 rfl) ?_
                  refine lv_bipush (v := 12) hx hb dX12_readSum_28 (by decide) ?_
                  refine lv_iconst (v := 0) hx hb dX12_readSum_30 (by decide) ?_
                  have rs9 : 0 ≤ (fI D H5 11 a0 16).toInt ∧ (fI D H5 11 a0 16).toInt ≤ 400 := S5.1.rng ga0 rfl (by decide) rfl
                  have rp9 : 0 ≤ (fI D H5 11 a0 10).toInt ∧ (fI D H5 11 a0 10).toInt ≤ 400 := S5.1.rng ga0 rfl (by decide) rfl
                  have k_12 : (12 : Int32).toInt = 12 := by decide
                  refine callV_Ev C S5 (c_X12_emits l D G a0 (12 : Int32) (0 : Int32) ga0) kV_X12_185 ga0 (by omega) (by decide +kernel) dX12_readSum_31 hl.1 rfl rfl (by decide) cd_X12_emits ⟨Nat.le_of_ble_eq_true rfl, Nat.le_of_ble_eq_true rfl, Nat.le_of_ble_eq_true rfl, Nat.le_of_ble_eq_true rfl, Nat.le_of_ble_eq_true rfl⟩ (fun H7 L7 S7 K7 q7 => ?_)
                  obtain ⟨qa7, qb7, tq7⟩ := q7
                  have y7_10 : (fI D H7 11 a0 10).toInt = (fI D H5 11 a0 10).toInt := congrArg Int32.toInt (K7.fI ga0 rfl (by decide) (by decide +kernel))
                  have y7_12 : (fI D H7 11 a0 12).toInt = (fI D H5 11 a0 12).toInt := congrArg Int32.toInt (K7.fI ga0 rfl (by decide) (by decide +kernel))
                  have y7_13 : (fI D H7 11 a0 13).toInt = (fI D H5 11 a0 13).toInt := congrArg Int32.toInt (K7.fI ga0 rfl (by decide) (by decide +kernel))
                  have lq7 : Lq D H5 H7 a0 := tq7
                  have tk7 : Lq D s.heap H7 a0 := tk5.trans lq7
                  have rb7 := ts5.keep S5.1 ga0 K7 (by decide +kernel)
                  refine lv_goto (tgt := 9) hx hb dX12_readSum_34 (by decide) ?_
                  have e9 : Ex (Cs D H7 a0) (fI D s.heap 11 a0 16).toInt.toNat (fI D H7 11 a0 16).toInt.toNat := (Ex.bin (((lq3.trans lq5).trans lq7).ex u9_0 (by omega)) ((lq7.ex (sx5 (by omega)) (by omega)).at (i' := (fI D H_9 11 a0 16).toInt.toNat) (by omega) rfl) (by rw [qb7]; decide) rfl).at (by omega) (by omega)
                  exact ih9 c5 H7 L7 ls S7 e9 (by omega) rb7 (u9_3.trans ((sumT_t y3).trans (sum_in hT y5))) tk7 (by omega) (lv_sub hl [0] rfl)
                · have b6 : v5.toInt = (0 : Int32).toInt := i_eq.mp c6
                  exact absurd b6 (by omega)
              · skip
                refine lv_if_ne (tgt := 27) hx hb dX12_readSum_22 (by decide) (fun c8 => ?_) (fun c8 => ?_)
                · have b8 : ¬ v5.toInt = (0 : Int32).toInt := fun z9 => c8 (i_eq.mpr z9)
                  exact absurd b8 (by omega)
                · have b8 : v5.toInt = (0 : Int32).toInt := i_eq.mp c8
                  refine lv_iconst (v := 0) hx hb dX12_readSum_25 (by decide) ?_
                  exact retE_z hQ C S5 hr dX12_readSum_26 (z01 (by omega) (by omega)) (⟨⟨by omega, fun h9 => absurd h9 (by decide), fun h9 => absurd h9 (by decide), tk5⟩, RR.no (u9_3.trans ((sumT_t y3).trans (sum_no hT y5))) (by omega) wr5⟩)
          · skip
            refine lv_if_eq (tgt := 37) hx hb dX12_readSum_15 (by decide) (fun c9 => ?_) (fun c9 => ?_)
            · have b9 : v3.toInt = (0 : Int32).toInt := i_eq.mp c9
              refine lv_iconst (v := 1) hx hb dX12_readSum_37 (by decide) ?_
              have k_1 : (1 : Int32).toInt = 1 := by decide
              exact retE_z hQ C S3 hr dX12_readSum_38 (z01 (by omega) (by omega)) (⟨⟨by omega, fun _ => by omega, fun _ => (lq3.ex u9_0 (by omega)).at (by omega) (by omega), tk3⟩, RR.ok (u9_3.trans (sumT_f y3)) (by omega) ts3⟩)
            · have b9 : ¬ v3.toInt = (0 : Int32).toInt := fun z9 => c9 (i_eq.mpr z9)
              exact absurd b9 (by omega)
      have ex0 := sx1 (by omega)
      have rn : 0 ≤ (fI D H1 11 a0 10).toInt ∧ (fI D H1 11 a0 10).toInt ≤ 400 := S1.1.rng ga0 rfl (by decide) rfl
      exact Lp9 402 c1 H1 L1 ls S1 (ex0.at (by omega) rfl) (by omega) ts1 (sum_in hT y1) tk1  (by omega) (lv_sub hl [0] rfl)
    · have b2 : v1.toInt = (0 : Int32).toInt := i_eq.mp c2
      exact absurd b2 (by omega)
  · skip
    have k_0 : (0 : Int32).toInt = 0 := by decide
    refine lv_if_ne (tgt := 9) hx hb dX12_readSum_4 (by decide) (fun c10 => ?_) (fun c10 => ?_)
    · have b10 : ¬ v1.toInt = (0 : Int32).toInt := fun z9 => c10 (i_eq.mpr z9)
      exact absurd b10 (by omega)
    · have b10 : v1.toInt = (0 : Int32).toInt := i_eq.mp c10
      refine lv_iconst (v := 0) hx hb dX12_readSum_7 (by decide) ?_
      exact retE_z hQ C S1 hr dX12_readSum_8 (z01 (by omega) (by omega)) (⟨⟨by omega, fun h9 => absurd h9 (by decide), fun h9 => absurd h9 (by decide), tk1⟩, RR.no (sum_no hT y1) (by omega) wr1⟩)

set_option maxRecDepth 100000 in
set_option maxHeartbeats 4000000 in
theorem c_X12_readTag (l : Launch) (D : DD) (G : Nat → Nat) (a0 : Nat) (T : Tx) (b : Nat) (ga0 : G a0 = 30) : CE l D G yX12_readTag cX12_readTag 2 (some .boolean) 5 [.ref a0] (fun H => ((fI D H 11 a0 16).toInt + 3 ≤ (fI D H 11 a0 10).toInt) ∧ (RB D H a0 T b)) [(30, 10), (30, 12), (30, 16), (31, 0)] (xI (fun H r H1 => ((0 ≤ r.toInt ∧ r.toInt ≤ 1) ∧ (r.toInt = 1 → (fI D H1 11 a0 16).toInt - (fI D H 11 a0 16).toInt ≤ (fI D H1 11 a0 10).toInt - (fI D H 11 a0 10).toInt ∧ (fI D H1 11 a0 13).toInt = (fI D H 11 a0 13).toInt ∧ (fI D H 11 a0 10).toInt ≤ (fI D H1 11 a0 10).toInt) ∧ (r.toInt = 1 → Ex (Cs D H1 a0) (fI D H 11 a0 16).toInt.toNat (fI D H1 11 a0 16).toInt.toNat) ∧ Lq D H H1 a0 ∧ (r.toInt = 0 → (fI D H1 11 a0 16).toInt = (fI D H 11 a0 16).toInt ∧ (fI D H1 11 a0 13).toInt = (fI D H 11 a0 13).toInt ∧ (fI D H 11 a0 10).toInt ≤ (fI D H1 11 a0 10).toInt)) ∧ ((r.toInt = 1 ∧ tagB T b = true ∧ RB D H1 a0 T (nx T b) ∧ (fI D H1 11 a0 12).toInt = ((b : Nat) : Int)) ∨ (r.toInt = 0 ∧ tagB T b = false ∧ RB D H1 a0 T b ∧ (fI D H1 11 a0 12).toInt = ((b : Nat) : Int))))) := by
  refine enter (by decide) (Nat.le_of_ble_eq_true rfl) ?_
  intro p e s m args below meth c ls Q hA hQ C hr hO hpre hl
  have hx := C.1
  have hb := C.2.1
  have S : Sd D G [(30, 10), (30, 12), (30, 16), (31, 0)] s.heap s.heap [] := Sd.start hO
  have hl : lv_has ls 2 [(0, .ref a0)] := hl
  have rs0 : 0 ≤ (fI D s.heap 11 a0 16).toInt ∧ (fI D s.heap 11 a0 16).toInt ≤ 400 := hO.rng ga0 rfl (by decide) rfl
  have rp0 : 0 ≤ (fI D s.heap 11 a0 10).toInt ∧ (fI D s.heap 11 a0 10).toInt ≤ 400 := hO.rng ga0 rfl (by decide) rfl
  obtain ⟨hpre, hf⟩ := hpre
  have ts0 := hf
  have hT : T.2 ≤ 400 := ts0.le hO ga0
  have tk0 : Lq D s.heap s.heap a0 := Lq.refl
  refine lv_aload_n hx hb dX12_readTag_0 rfl (lv_at hl 0 rfl) ?_
  refine callV_Ev C S (c_X12_letters_f l D G a0 T b ga0) kV_X12_102 ga0 (⟨trivial, ts0⟩) (by decide +kernel) dX12_readTag_1 hl.1 rfl rfl (by decide) cd_X12_letters ⟨Nat.le_of_ble_eq_true rfl, Nat.le_of_ble_eq_true rfl, Nat.le_of_ble_eq_true rfl, Nat.le_of_ble_eq_true rfl, Nat.le_of_ble_eq_true rfl⟩ (fun H1 L1 S1 K1 q1 => ?_)
  obtain ⟨q1, fq1⟩ := q1
  have y1_13 : (fI D H1 11 a0 13).toInt = (fI D s.heap 11 a0 13).toInt := congrArg Int32.toInt (K1.fI ga0 rfl (by decide) (by decide +kernel))
  have y1_16 : (fI D H1 11 a0 16).toInt = (fI D s.heap 11 a0 16).toInt := congrArg Int32.toInt (K1.fI ga0 rfl (by decide) (by decide +kernel))
  have lq1 : Lq D s.heap H1 a0 := Lq.keep S.1 ga0 K1 (by decide +kernel) (by decide +kernel) (by decide +kernel)
  have tk1 : Lq D s.heap H1 a0 := tk0.trans lq1
  refine lv_aload_n hx hb dX12_readTag_4 rfl (lv_at hl 0 rfl) ?_
  refine q_lds C ks_X12_118 dX12_readTag_5 (fun a2 ha2 wa2 => ?_)
  refine callV_Pi C S1.1 S1.2.1.2.1 (c_X12_isWord_f l D G a0 a2 5 w_paper T b ga0 ha2 (Wc.of wa2 kw_paper) (by decide)) kV_X12_105 ga0 (⟨trivial, fq1⟩) dX12_readTag_7 hl.1 rfl rfl (by decide) cd_X12_isWord ⟨Nat.le_of_ble_eq_true rfl, Nat.le_of_ble_eq_true rfl, Nat.le_of_ble_eq_true rfl, Nat.le_of_ble_eq_true rfl, Nat.le_of_ble_eq_true rfl⟩ (fun v3 q3 => ?_)
  obtain ⟨q3, fq3⟩ := q3
  rcases fq3 with ⟨z3, y3⟩ | ⟨z3, y3⟩
  · skip
    have k_0 : (0 : Int32).toInt = 0 := by decide
    refine lv_if_eq (tgt := 18) hx hb dX12_readTag_10 (by decide) (fun c4 => ?_) (fun c4 => ?_)
    · have b4 : v3.toInt = (0 : Int32).toInt := i_eq.mp c4
      exact absurd b4 (by omega)
    · have b4 : ¬ v3.toInt = (0 : Int32).toInt := fun z9 => c4 (i_eq.mpr z9)
      refine lv_bipush (v := 6) hx hb dX12_readTag_13 (by decide) ?_
      refine lv_goto (tgt := 75) hx hb dX12_readTag_15 (by decide) ?_
      refine lv_istore_n (lv' := [(1, .int (6 : Int32)), (0, .ref a0)]) hx hb dX12_readTag_75 rfl hl (by decide) rfl (fun ls hl => ?_)
      refine lv_iload_n hx hb dX12_readTag_76 rfl (lv_at hl 0 rfl) ?_
      have k_6 : (6 : Int32).toInt = 6 := by decide
      refine lv_if_lt (tgt := 89) hx hb dX12_readTag_77 (by decide) (fun c5 => ?_) (fun c5 => ?_)
      · have b5 : (6 : Int32).toInt < (0 : Int32).toInt := i_lt.mp c5
        exact absurd b5 (by omega)
      · have b5 : ¬ (6 : Int32).toInt < (0 : Int32).toInt := fun z9 => c5 (i_lt.mpr z9)
        have bg6 := fq1.2.2.1
        have rb6 := fq1.rb1 (isW_k y3)
        refine lv_aload_n hx hb dX12_readTag_80 rfl (lv_at hl 1 rfl) ?_
        refine lv_iload_n hx hb dX12_readTag_81 rfl (lv_at hl 0 rfl) ?_
        refine lv_iconst (v := 0) hx hb dX12_readTag_82 (by decide) ?_
        have rs9 : 0 ≤ (fI D H1 11 a0 16).toInt ∧ (fI D H1 11 a0 16).toInt ≤ 400 := S1.1.rng ga0 rfl (by decide) rfl
        have rp9 : 0 ≤ (fI D H1 11 a0 10).toInt ∧ (fI D H1 11 a0 10).toInt ≤ 400 := S1.1.rng ga0 rfl (by decide) rfl
        refine callV_Ev C S1 (c_X12_emits l D G a0 (6 : Int32) (0 : Int32) ga0) kV_X12_185 ga0 (by omega) (by decide +kernel) dX12_readTag_83 hl.1 rfl rfl (by decide) cd_X12_emits ⟨Nat.le_of_ble_eq_true rfl, Nat.le_of_ble_eq_true rfl, Nat.le_of_ble_eq_true rfl, Nat.le_of_ble_eq_true rfl, Nat.le_of_ble_eq_true rfl⟩ (fun H7 L7 S7 K7 q7 => ?_)
        obtain ⟨qa7, qb7, tq7⟩ := q7
        have y7_10 : (fI D H7 11 a0 10).toInt = (fI D H1 11 a0 10).toInt := congrArg Int32.toInt (K7.fI ga0 rfl (by decide) (by decide +kernel))
        have y7_12 : (fI D H7 11 a0 12).toInt = (fI D H1 11 a0 12).toInt := congrArg Int32.toInt (K7.fI ga0 rfl (by decide) (by decide +kernel))
        have y7_13 : (fI D H7 11 a0 13).toInt = (fI D H1 11 a0 13).toInt := congrArg Int32.toInt (K7.fI ga0 rfl (by decide) (by decide +kernel))
        have lq7 : Lq D H1 H7 a0 := tq7
        have tk7 : Lq D s.heap H7 a0 := tk1.trans lq7
        have bg7 : (fI D H7 11 a0 12).toInt = ((b : Nat) : Int) := by rw [K7.fI ga0 rfl (by decide) (by decide +kernel)]; exact bg6
        have rb7 := rb6.keep S1.1 ga0 K7 (by decide +kernel)
        refine lv_goto (tgt := 97) hx hb dX12_readTag_86 (by decide) ?_
        refine lv_iload_n hx hb dX12_readTag_97 rfl (lv_at hl 0 rfl) ?_
        refine lv_if_lt (tgt := 105) hx hb dX12_readTag_98 (by decide) (fun c8 => ?_) (fun c8 => ?_)
        · have b8 : (6 : Int32).toInt < (0 : Int32).toInt := i_lt.mp c8
          exact absurd b8 (by omega)
        · have b8 : ¬ (6 : Int32).toInt < (0 : Int32).toInt := fun z9 => c8 (i_lt.mpr z9)
          refine lv_iconst (v := 1) hx hb dX12_readTag_101 (by decide) ?_
          refine lv_goto (tgt := 106) hx hb dX12_readTag_102 (by decide) ?_
          have k_1 : (1 : Int32).toInt = 1 := by decide
          exact retE_z hQ C S7 hr dX12_readTag_106 (z01 (by omega) (by omega)) (⟨⟨by omega, fun _ => by omega, fun _ => (Ex.one (i := (fI D H1 11 a0 16).toInt.toNat) (by rw [qb7]; omega) rfl).at (by omega) (by omega), tk7, fun h9 => absurd h9 (by decide)⟩, Or.inl ⟨by omega, by simp [tagB, tru, y3], rb7, bg7⟩⟩)
  · skip
    have k_0 : (0 : Int32).toInt = 0 := by decide
    refine lv_if_eq (tgt := 18) hx hb dX12_readTag_10 (by decide) (fun c9 => ?_) (fun c9 => ?_)
    · have b9 : v3.toInt = (0 : Int32).toInt := i_eq.mp c9
      refine lv_aload_n hx hb dX12_readTag_18 rfl (lv_at hl 0 rfl) ?_
      refine q_lds C ks_X12_125 dX12_readTag_19 (fun a10 ha10 wa10 => ?_)
      refine callV_Pi C S1.1 S1.2.1.2.1 (c_X12_isWord_f l D G a0 a10 4 w_fire T b ga0 ha10 (Wc.of wa10 kw_fire) (by decide)) kV_X12_105 ga0 (⟨trivial, fq1⟩) dX12_readTag_21 hl.1 rfl rfl (by decide) cd_X12_isWord ⟨Nat.le_of_ble_eq_true rfl, Nat.le_of_ble_eq_true rfl, Nat.le_of_ble_eq_true rfl, Nat.le_of_ble_eq_true rfl, Nat.le_of_ble_eq_true rfl⟩ (fun v11 q11 => ?_)
      obtain ⟨q11, fq11⟩ := q11
      rcases fq11 with ⟨z11, y11⟩ | ⟨z11, y11⟩
      · skip
        refine lv_if_eq (tgt := 32) hx hb dX12_readTag_24 (by decide) (fun c12 => ?_) (fun c12 => ?_)
        · have b12 : v11.toInt = (0 : Int32).toInt := i_eq.mp c12
          exact absurd b12 (by omega)
        · have b12 : ¬ v11.toInt = (0 : Int32).toInt := fun z9 => c12 (i_eq.mpr z9)
          refine lv_bipush (v := 7) hx hb dX12_readTag_27 (by decide) ?_
          refine lv_goto (tgt := 75) hx hb dX12_readTag_29 (by decide) ?_
          refine lv_istore_n (lv' := [(1, .int (7 : Int32)), (0, .ref a0)]) hx hb dX12_readTag_75 rfl hl (by decide) rfl (fun ls hl => ?_)
          refine lv_iload_n hx hb dX12_readTag_76 rfl (lv_at hl 0 rfl) ?_
          have k_7 : (7 : Int32).toInt = 7 := by decide
          refine lv_if_lt (tgt := 89) hx hb dX12_readTag_77 (by decide) (fun c13 => ?_) (fun c13 => ?_)
          · have b13 : (7 : Int32).toInt < (0 : Int32).toInt := i_lt.mp c13
            exact absurd b13 (by omega)
          · have b13 : ¬ (7 : Int32).toInt < (0 : Int32).toInt := fun z9 => c13 (i_lt.mpr z9)
            have bg14 := fq1.2.2.1
            have rb14 := fq1.rb1 (isW_k y11)
            refine lv_aload_n hx hb dX12_readTag_80 rfl (lv_at hl 1 rfl) ?_
            refine lv_iload_n hx hb dX12_readTag_81 rfl (lv_at hl 0 rfl) ?_
            refine lv_iconst (v := 0) hx hb dX12_readTag_82 (by decide) ?_
            have rs9 : 0 ≤ (fI D H1 11 a0 16).toInt ∧ (fI D H1 11 a0 16).toInt ≤ 400 := S1.1.rng ga0 rfl (by decide) rfl
            have rp9 : 0 ≤ (fI D H1 11 a0 10).toInt ∧ (fI D H1 11 a0 10).toInt ≤ 400 := S1.1.rng ga0 rfl (by decide) rfl
            refine callV_Ev C S1 (c_X12_emits l D G a0 (7 : Int32) (0 : Int32) ga0) kV_X12_185 ga0 (by omega) (by decide +kernel) dX12_readTag_83 hl.1 rfl rfl (by decide) cd_X12_emits ⟨Nat.le_of_ble_eq_true rfl, Nat.le_of_ble_eq_true rfl, Nat.le_of_ble_eq_true rfl, Nat.le_of_ble_eq_true rfl, Nat.le_of_ble_eq_true rfl⟩ (fun H15 L15 S15 K15 q15 => ?_)
            obtain ⟨qa15, qb15, tq15⟩ := q15
            have y15_10 : (fI D H15 11 a0 10).toInt = (fI D H1 11 a0 10).toInt := congrArg Int32.toInt (K15.fI ga0 rfl (by decide) (by decide +kernel))
            have y15_12 : (fI D H15 11 a0 12).toInt = (fI D H1 11 a0 12).toInt := congrArg Int32.toInt (K15.fI ga0 rfl (by decide) (by decide +kernel))
            have y15_13 : (fI D H15 11 a0 13).toInt = (fI D H1 11 a0 13).toInt := congrArg Int32.toInt (K15.fI ga0 rfl (by decide) (by decide +kernel))
            have lq15 : Lq D H1 H15 a0 := tq15
            have tk15 : Lq D s.heap H15 a0 := tk1.trans lq15
            have bg15 : (fI D H15 11 a0 12).toInt = ((b : Nat) : Int) := by rw [K15.fI ga0 rfl (by decide) (by decide +kernel)]; exact bg14
            have rb15 := rb14.keep S1.1 ga0 K15 (by decide +kernel)
            refine lv_goto (tgt := 97) hx hb dX12_readTag_86 (by decide) ?_
            refine lv_iload_n hx hb dX12_readTag_97 rfl (lv_at hl 0 rfl) ?_
            refine lv_if_lt (tgt := 105) hx hb dX12_readTag_98 (by decide) (fun c16 => ?_) (fun c16 => ?_)
            · have b16 : (7 : Int32).toInt < (0 : Int32).toInt := i_lt.mp c16
              exact absurd b16 (by omega)
            · have b16 : ¬ (7 : Int32).toInt < (0 : Int32).toInt := fun z9 => c16 (i_lt.mpr z9)
              refine lv_iconst (v := 1) hx hb dX12_readTag_101 (by decide) ?_
              refine lv_goto (tgt := 106) hx hb dX12_readTag_102 (by decide) ?_
              have k_1 : (1 : Int32).toInt = 1 := by decide
              exact retE_z hQ C S15 hr dX12_readTag_106 (z01 (by omega) (by omega)) (⟨⟨by omega, fun _ => by omega, fun _ => (Ex.one (i := (fI D H1 11 a0 16).toInt.toNat) (by rw [qb15]; omega) rfl).at (by omega) (by omega), tk15, fun h9 => absurd h9 (by decide)⟩, Or.inl ⟨by omega, by simp [tagB, tru, y3, y11], rb15, bg15⟩⟩)
      · skip
        refine lv_if_eq (tgt := 32) hx hb dX12_readTag_24 (by decide) (fun c17 => ?_) (fun c17 => ?_)
        · have b17 : v11.toInt = (0 : Int32).toInt := i_eq.mp c17
          refine lv_aload_n hx hb dX12_readTag_32 rfl (lv_at hl 0 rfl) ?_
          refine q_lds C ks_X12_127 dX12_readTag_33 (fun a18 ha18 wa18 => ?_)
          refine callV_Pi C S1.1 S1.2.1.2.1 (c_X12_isWord_f l D G a0 a18 4 w_oven T b ga0 ha18 (Wc.of wa18 kw_oven) (by decide)) kV_X12_105 ga0 (⟨trivial, fq1⟩) dX12_readTag_35 hl.1 rfl rfl (by decide) cd_X12_isWord ⟨Nat.le_of_ble_eq_true rfl, Nat.le_of_ble_eq_true rfl, Nat.le_of_ble_eq_true rfl, Nat.le_of_ble_eq_true rfl, Nat.le_of_ble_eq_true rfl⟩ (fun v19 q19 => ?_)
          obtain ⟨q19, fq19⟩ := q19
          rcases fq19 with ⟨z19, y19⟩ | ⟨z19, y19⟩
          · skip
            refine lv_if_eq (tgt := 46) hx hb dX12_readTag_38 (by decide) (fun c20 => ?_) (fun c20 => ?_)
            · have b20 : v19.toInt = (0 : Int32).toInt := i_eq.mp c20
              exact absurd b20 (by omega)
            · have b20 : ¬ v19.toInt = (0 : Int32).toInt := fun z9 => c20 (i_eq.mpr z9)
              refine lv_bipush (v := 8) hx hb dX12_readTag_41 (by decide) ?_
              refine lv_goto (tgt := 75) hx hb dX12_readTag_43 (by decide) ?_
              refine lv_istore_n (lv' := [(1, .int (8 : Int32)), (0, .ref a0)]) hx hb dX12_readTag_75 rfl hl (by decide) rfl (fun ls hl => ?_)
              refine lv_iload_n hx hb dX12_readTag_76 rfl (lv_at hl 0 rfl) ?_
              have k_8 : (8 : Int32).toInt = 8 := by decide
              refine lv_if_lt (tgt := 89) hx hb dX12_readTag_77 (by decide) (fun c21 => ?_) (fun c21 => ?_)
              · have b21 : (8 : Int32).toInt < (0 : Int32).toInt := i_lt.mp c21
                exact absurd b21 (by omega)
              · have b21 : ¬ (8 : Int32).toInt < (0 : Int32).toInt := fun z9 => c21 (i_lt.mpr z9)
                have bg22 := fq1.2.2.1
                have rb22 := fq1.rb1 (isW_k y19)
                refine lv_aload_n hx hb dX12_readTag_80 rfl (lv_at hl 1 rfl) ?_
                refine lv_iload_n hx hb dX12_readTag_81 rfl (lv_at hl 0 rfl) ?_
                refine lv_iconst (v := 0) hx hb dX12_readTag_82 (by decide) ?_
                have rs9 : 0 ≤ (fI D H1 11 a0 16).toInt ∧ (fI D H1 11 a0 16).toInt ≤ 400 := S1.1.rng ga0 rfl (by decide) rfl
                have rp9 : 0 ≤ (fI D H1 11 a0 10).toInt ∧ (fI D H1 11 a0 10).toInt ≤ 400 := S1.1.rng ga0 rfl (by decide) rfl
                refine callV_Ev C S1 (c_X12_emits l D G a0 (8 : Int32) (0 : Int32) ga0) kV_X12_185 ga0 (by omega) (by decide +kernel) dX12_readTag_83 hl.1 rfl rfl (by decide) cd_X12_emits ⟨Nat.le_of_ble_eq_true rfl, Nat.le_of_ble_eq_true rfl, Nat.le_of_ble_eq_true rfl, Nat.le_of_ble_eq_true rfl, Nat.le_of_ble_eq_true rfl⟩ (fun H23 L23 S23 K23 q23 => ?_)
                obtain ⟨qa23, qb23, tq23⟩ := q23
                have y23_10 : (fI D H23 11 a0 10).toInt = (fI D H1 11 a0 10).toInt := congrArg Int32.toInt (K23.fI ga0 rfl (by decide) (by decide +kernel))
                have y23_12 : (fI D H23 11 a0 12).toInt = (fI D H1 11 a0 12).toInt := congrArg Int32.toInt (K23.fI ga0 rfl (by decide) (by decide +kernel))
                have y23_13 : (fI D H23 11 a0 13).toInt = (fI D H1 11 a0 13).toInt := congrArg Int32.toInt (K23.fI ga0 rfl (by decide) (by decide +kernel))
                have lq23 : Lq D H1 H23 a0 := tq23
                have tk23 : Lq D s.heap H23 a0 := tk1.trans lq23
                have bg23 : (fI D H23 11 a0 12).toInt = ((b : Nat) : Int) := by rw [K23.fI ga0 rfl (by decide) (by decide +kernel)]; exact bg22
                have rb23 := rb22.keep S1.1 ga0 K23 (by decide +kernel)
                refine lv_goto (tgt := 97) hx hb dX12_readTag_86 (by decide) ?_
                refine lv_iload_n hx hb dX12_readTag_97 rfl (lv_at hl 0 rfl) ?_
                refine lv_if_lt (tgt := 105) hx hb dX12_readTag_98 (by decide) (fun c24 => ?_) (fun c24 => ?_)
                · have b24 : (8 : Int32).toInt < (0 : Int32).toInt := i_lt.mp c24
                  exact absurd b24 (by omega)
                · have b24 : ¬ (8 : Int32).toInt < (0 : Int32).toInt := fun z9 => c24 (i_lt.mpr z9)
                  refine lv_iconst (v := 1) hx hb dX12_readTag_101 (by decide) ?_
                  refine lv_goto (tgt := 106) hx hb dX12_readTag_102 (by decide) ?_
                  have k_1 : (1 : Int32).toInt = 1 := by decide
                  exact retE_z hQ C S23 hr dX12_readTag_106 (z01 (by omega) (by omega)) (⟨⟨by omega, fun _ => by omega, fun _ => (Ex.one (i := (fI D H1 11 a0 16).toInt.toNat) (by rw [qb23]; omega) rfl).at (by omega) (by omega), tk23, fun h9 => absurd h9 (by decide)⟩, Or.inl ⟨by omega, by simp [tagB, tru, y3, y11, y19], rb23, bg23⟩⟩)
          · skip
            refine lv_if_eq (tgt := 46) hx hb dX12_readTag_38 (by decide) (fun c25 => ?_) (fun c25 => ?_)
            · have b25 : v19.toInt = (0 : Int32).toInt := i_eq.mp c25
              refine lv_aload_n hx hb dX12_readTag_46 rfl (lv_at hl 0 rfl) ?_
              refine q_lds C ks_X12_129 dX12_readTag_47 (fun a26 ha26 wa26 => ?_)
              refine callV_Pi C S1.1 S1.2.1.2.1 (c_X12_isWord_f l D G a0 a26 5 w_forge T b ga0 ha26 (Wc.of wa26 kw_forge) (by decide)) kV_X12_105 ga0 (⟨trivial, fq1⟩) dX12_readTag_49 hl.1 rfl rfl (by decide) cd_X12_isWord ⟨Nat.le_of_ble_eq_true rfl, Nat.le_of_ble_eq_true rfl, Nat.le_of_ble_eq_true rfl, Nat.le_of_ble_eq_true rfl, Nat.le_of_ble_eq_true rfl⟩ (fun v27 q27 => ?_)
              obtain ⟨q27, fq27⟩ := q27
              rcases fq27 with ⟨z27, y27⟩ | ⟨z27, y27⟩
              · skip
                refine lv_if_eq (tgt := 60) hx hb dX12_readTag_52 (by decide) (fun c28 => ?_) (fun c28 => ?_)
                · have b28 : v27.toInt = (0 : Int32).toInt := i_eq.mp c28
                  exact absurd b28 (by omega)
                · have b28 : ¬ v27.toInt = (0 : Int32).toInt := fun z9 => c28 (i_eq.mpr z9)
                  refine lv_bipush (v := 9) hx hb dX12_readTag_55 (by decide) ?_
                  refine lv_goto (tgt := 75) hx hb dX12_readTag_57 (by decide) ?_
                  refine lv_istore_n (lv' := [(1, .int (9 : Int32)), (0, .ref a0)]) hx hb dX12_readTag_75 rfl hl (by decide) rfl (fun ls hl => ?_)
                  refine lv_iload_n hx hb dX12_readTag_76 rfl (lv_at hl 0 rfl) ?_
                  have k_9 : (9 : Int32).toInt = 9 := by decide
                  refine lv_if_lt (tgt := 89) hx hb dX12_readTag_77 (by decide) (fun c29 => ?_) (fun c29 => ?_)
                  · have b29 : (9 : Int32).toInt < (0 : Int32).toInt := i_lt.mp c29
                    exact absurd b29 (by omega)
                  · have b29 : ¬ (9 : Int32).toInt < (0 : Int32).toInt := fun z9 => c29 (i_lt.mpr z9)
                    have bg30 := fq1.2.2.1
                    have rb30 := fq1.rb1 (isW_k y27)
                    refine lv_aload_n hx hb dX12_readTag_80 rfl (lv_at hl 1 rfl) ?_
                    refine lv_iload_n hx hb dX12_readTag_81 rfl (lv_at hl 0 rfl) ?_
                    refine lv_iconst (v := 0) hx hb dX12_readTag_82 (by decide) ?_
                    have rs9 : 0 ≤ (fI D H1 11 a0 16).toInt ∧ (fI D H1 11 a0 16).toInt ≤ 400 := S1.1.rng ga0 rfl (by decide) rfl
                    have rp9 : 0 ≤ (fI D H1 11 a0 10).toInt ∧ (fI D H1 11 a0 10).toInt ≤ 400 := S1.1.rng ga0 rfl (by decide) rfl
                    refine callV_Ev C S1 (c_X12_emits l D G a0 (9 : Int32) (0 : Int32) ga0) kV_X12_185 ga0 (by omega) (by decide +kernel) dX12_readTag_83 hl.1 rfl rfl (by decide) cd_X12_emits ⟨Nat.le_of_ble_eq_true rfl, Nat.le_of_ble_eq_true rfl, Nat.le_of_ble_eq_true rfl, Nat.le_of_ble_eq_true rfl, Nat.le_of_ble_eq_true rfl⟩ (fun H31 L31 S31 K31 q31 => ?_)
                    obtain ⟨qa31, qb31, tq31⟩ := q31
                    have y31_10 : (fI D H31 11 a0 10).toInt = (fI D H1 11 a0 10).toInt := congrArg Int32.toInt (K31.fI ga0 rfl (by decide) (by decide +kernel))
                    have y31_12 : (fI D H31 11 a0 12).toInt = (fI D H1 11 a0 12).toInt := congrArg Int32.toInt (K31.fI ga0 rfl (by decide) (by decide +kernel))
                    have y31_13 : (fI D H31 11 a0 13).toInt = (fI D H1 11 a0 13).toInt := congrArg Int32.toInt (K31.fI ga0 rfl (by decide) (by decide +kernel))
                    have lq31 : Lq D H1 H31 a0 := tq31
                    have tk31 : Lq D s.heap H31 a0 := tk1.trans lq31
                    have bg31 : (fI D H31 11 a0 12).toInt = ((b : Nat) : Int) := by rw [K31.fI ga0 rfl (by decide) (by decide +kernel)]; exact bg30
                    have rb31 := rb30.keep S1.1 ga0 K31 (by decide +kernel)
                    refine lv_goto (tgt := 97) hx hb dX12_readTag_86 (by decide) ?_
                    refine lv_iload_n hx hb dX12_readTag_97 rfl (lv_at hl 0 rfl) ?_
                    refine lv_if_lt (tgt := 105) hx hb dX12_readTag_98 (by decide) (fun c32 => ?_) (fun c32 => ?_)
                    · have b32 : (9 : Int32).toInt < (0 : Int32).toInt := i_lt.mp c32
                      exact absurd b32 (by omega)
                    · have b32 : ¬ (9 : Int32).toInt < (0 : Int32).toInt := fun z9 => c32 (i_lt.mpr z9)
                      refine lv_iconst (v := 1) hx hb dX12_readTag_101 (by decide) ?_
                      refine lv_goto (tgt := 106) hx hb dX12_readTag_102 (by decide) ?_
                      have k_1 : (1 : Int32).toInt = 1 := by decide
                      exact retE_z hQ C S31 hr dX12_readTag_106 (z01 (by omega) (by omega)) (⟨⟨by omega, fun _ => by omega, fun _ => (Ex.one (i := (fI D H1 11 a0 16).toInt.toNat) (by rw [qb31]; omega) rfl).at (by omega) (by omega), tk31, fun h9 => absurd h9 (by decide)⟩, Or.inl ⟨by omega, by simp [tagB, tru, y3, y11, y19, y27], rb31, bg31⟩⟩)
              · skip
                refine lv_if_eq (tgt := 60) hx hb dX12_readTag_52 (by decide) (fun c33 => ?_) (fun c33 => ?_)
                · have b33 : v27.toInt = (0 : Int32).toInt := i_eq.mp c33
                  refine lv_aload_n hx hb dX12_readTag_60 rfl (lv_at hl 0 rfl) ?_
                  refine q_lds C ks_X12_131 dX12_readTag_61 (fun a34 ha34 wa34 => ?_)
                  refine callV_Pi C S1.1 S1.2.1.2.1 (c_X12_isWord_f l D G a0 a34 3 w_pot T b ga0 ha34 (Wc.of wa34 kw_pot) (by decide)) kV_X12_105 ga0 (⟨trivial, fq1⟩) dX12_readTag_63 hl.1 rfl rfl (by decide) cd_X12_isWord ⟨Nat.le_of_ble_eq_true rfl, Nat.le_of_ble_eq_true rfl, Nat.le_of_ble_eq_true rfl, Nat.le_of_ble_eq_true rfl, Nat.le_of_ble_eq_true rfl⟩ (fun v35 q35 => ?_)
                  obtain ⟨q35, fq35⟩ := q35
                  rcases fq35 with ⟨z35, y35⟩ | ⟨z35, y35⟩
                  · skip
                    refine lv_if_eq (tgt := 74) hx hb dX12_readTag_66 (by decide) (fun c36 => ?_) (fun c36 => ?_)
                    · have b36 : v35.toInt = (0 : Int32).toInt := i_eq.mp c36
                      exact absurd b36 (by omega)
                    · have b36 : ¬ v35.toInt = (0 : Int32).toInt := fun z9 => c36 (i_eq.mpr z9)
                      refine lv_bipush (v := 10) hx hb dX12_readTag_69 (by decide) ?_
                      refine lv_goto (tgt := 75) hx hb dX12_readTag_71 (by decide) ?_
                      refine lv_istore_n (lv' := [(1, .int (10 : Int32)), (0, .ref a0)]) hx hb dX12_readTag_75 rfl hl (by decide) rfl (fun ls hl => ?_)
                      refine lv_iload_n hx hb dX12_readTag_76 rfl (lv_at hl 0 rfl) ?_
                      have k_10 : (10 : Int32).toInt = 10 := by decide
                      refine lv_if_lt (tgt := 89) hx hb dX12_readTag_77 (by decide) (fun c37 => ?_) (fun c37 => ?_)
                      · have b37 : (10 : Int32).toInt < (0 : Int32).toInt := i_lt.mp c37
                        exact absurd b37 (by omega)
                      · have b37 : ¬ (10 : Int32).toInt < (0 : Int32).toInt := fun z9 => c37 (i_lt.mpr z9)
                        have bg38 := fq1.2.2.1
                        have rb38 := fq1.rb1 (isW_k y35)
                        refine lv_aload_n hx hb dX12_readTag_80 rfl (lv_at hl 1 rfl) ?_
                        refine lv_iload_n hx hb dX12_readTag_81 rfl (lv_at hl 0 rfl) ?_
                        refine lv_iconst (v := 0) hx hb dX12_readTag_82 (by decide) ?_
                        have rs9 : 0 ≤ (fI D H1 11 a0 16).toInt ∧ (fI D H1 11 a0 16).toInt ≤ 400 := S1.1.rng ga0 rfl (by decide) rfl
                        have rp9 : 0 ≤ (fI D H1 11 a0 10).toInt ∧ (fI D H1 11 a0 10).toInt ≤ 400 := S1.1.rng ga0 rfl (by decide) rfl
                        refine callV_Ev C S1 (c_X12_emits l D G a0 (10 : Int32) (0 : Int32) ga0) kV_X12_185 ga0 (by omega) (by decide +kernel) dX12_readTag_83 hl.1 rfl rfl (by decide) cd_X12_emits ⟨Nat.le_of_ble_eq_true rfl, Nat.le_of_ble_eq_true rfl, Nat.le_of_ble_eq_true rfl, Nat.le_of_ble_eq_true rfl, Nat.le_of_ble_eq_true rfl⟩ (fun H39 L39 S39 K39 q39 => ?_)
                        obtain ⟨qa39, qb39, tq39⟩ := q39
                        have y39_10 : (fI D H39 11 a0 10).toInt = (fI D H1 11 a0 10).toInt := congrArg Int32.toInt (K39.fI ga0 rfl (by decide) (by decide +kernel))
                        have y39_12 : (fI D H39 11 a0 12).toInt = (fI D H1 11 a0 12).toInt := congrArg Int32.toInt (K39.fI ga0 rfl (by decide) (by decide +kernel))
                        have y39_13 : (fI D H39 11 a0 13).toInt = (fI D H1 11 a0 13).toInt := congrArg Int32.toInt (K39.fI ga0 rfl (by decide) (by decide +kernel))
                        have lq39 : Lq D H1 H39 a0 := tq39
                        have tk39 : Lq D s.heap H39 a0 := tk1.trans lq39
                        have bg39 : (fI D H39 11 a0 12).toInt = ((b : Nat) : Int) := by rw [K39.fI ga0 rfl (by decide) (by decide +kernel)]; exact bg38
                        have rb39 := rb38.keep S1.1 ga0 K39 (by decide +kernel)
                        refine lv_goto (tgt := 97) hx hb dX12_readTag_86 (by decide) ?_
                        refine lv_iload_n hx hb dX12_readTag_97 rfl (lv_at hl 0 rfl) ?_
                        refine lv_if_lt (tgt := 105) hx hb dX12_readTag_98 (by decide) (fun c40 => ?_) (fun c40 => ?_)
                        · have b40 : (10 : Int32).toInt < (0 : Int32).toInt := i_lt.mp c40
                          exact absurd b40 (by omega)
                        · have b40 : ¬ (10 : Int32).toInt < (0 : Int32).toInt := fun z9 => c40 (i_lt.mpr z9)
                          refine lv_iconst (v := 1) hx hb dX12_readTag_101 (by decide) ?_
                          refine lv_goto (tgt := 106) hx hb dX12_readTag_102 (by decide) ?_
                          have k_1 : (1 : Int32).toInt = 1 := by decide
                          exact retE_z hQ C S39 hr dX12_readTag_106 (z01 (by omega) (by omega)) (⟨⟨by omega, fun _ => by omega, fun _ => (Ex.one (i := (fI D H1 11 a0 16).toInt.toNat) (by rw [qb39]; omega) rfl).at (by omega) (by omega), tk39, fun h9 => absurd h9 (by decide)⟩, Or.inl ⟨by omega, by simp [tagB, tru, y3, y11, y19, y27, y35], rb39, bg39⟩⟩)
                  · skip
                    refine lv_if_eq (tgt := 74) hx hb dX12_readTag_66 (by decide) (fun c41 => ?_) (fun c41 => ?_)
                    · have b41 : v35.toInt = (0 : Int32).toInt := i_eq.mp c41
                      refine lv_iconst (v := -1) hx hb dX12_readTag_74 (by decide) ?_
                      refine lv_istore_n (lv' := [(1, .int (-1 : Int32)), (0, .ref a0)]) hx hb dX12_readTag_75 rfl hl (by decide) rfl (fun ls hl => ?_)
                      refine lv_iload_n hx hb dX12_readTag_76 rfl (lv_at hl 0 rfl) ?_
                      have k_m1 : (-1 : Int32).toInt = -1 := by decide
                      refine lv_if_lt (tgt := 89) hx hb dX12_readTag_77 (by decide) (fun c42 => ?_) (fun c42 => ?_)
                      · have b42 : (-1 : Int32).toInt < (0 : Int32).toInt := i_lt.mp c42
                        refine lv_aload_n hx hb dX12_readTag_89 rfl (lv_at hl 1 rfl) ?_
                        refine lv_aload_n hx hb dX12_readTag_90 rfl (lv_at hl 1 rfl) ?_
                        refine q_gi (T := TX12) C S1.1 ga0 12 kF_X12_87 dX12_readTag_91 rfl rfl (by decide) rfl (by decide) rfl ?_
                        have r43 : 0 ≤ (fI D H1 11 a0 12).toInt ∧ (fI D H1 11 a0 12).toInt ≤ 400 := S1.1.rng ga0 rfl (by decide) rfl
                        refine q_put (T := TX12) C S1 ga0 10 kF_X12_78 dX12_readTag_94 rfl rfl (by decide) (by decide) rfl rfl rfl rfl rfl (vok_i rfl (by omega) (by omega)) (by decide +kernel) (fun H44 L44 S44 P44 => ?_)
                        have y44_10 : (fI D H44 11 a0 10).toInt = (fI D H1 11 a0 12).toInt := congrArg Int32.toInt (Pt.i P44)
                        have y44_12 : (fI D H44 11 a0 12).toInt = (fI D H1 11 a0 12).toInt := congrArg Int32.toInt (Pt.o P44 (by decide) (by decide))
                        have y44_13 : (fI D H44 11 a0 13).toInt = (fI D H1 11 a0 13).toInt := congrArg Int32.toInt (Pt.o P44 (by decide) (by decide))
                        have y44_16 : (fI D H44 11 a0 16).toInt = (fI D H1 11 a0 16).toInt := congrArg Int32.toInt (Pt.o P44 (by decide) (by decide))
                        have lq44 : Lq D H1 H44 a0 := Lq.put S1.1 ga0 P44 (by decide) (by decide)
                        have tk44 : Lq D s.heap H44 a0 := tk1.trans lq44
                        refine lv_iload_n hx hb dX12_readTag_97 rfl (lv_at hl 0 rfl) ?_
                        refine lv_if_lt (tgt := 105) hx hb dX12_readTag_98 (by decide) (fun c45 => ?_) (fun c45 => ?_)
                        · have b45 : (-1 : Int32).toInt < (0 : Int32).toInt := i_lt.mp c45
                          refine lv_iconst (v := 0) hx hb dX12_readTag_105 (by decide) ?_
                          exact retE_z hQ C S44 hr dX12_readTag_106 (z01 (by omega) (by omega)) (⟨⟨by omega, fun h9 => absurd h9 (by decide), fun h9 => absurd h9 (by decide), tk44, fun _ => ⟨by omega, by omega, by omega⟩⟩, Or.inr ⟨by omega, by simp [tagB, tru, y3, y11, y19, y27, y35], rb_put S1.1 ga0 fq1 P44, by rw [Pt.o P44 (by decide) (by decide)]; exact fq1.2.2.1⟩⟩)
                        · have b45 : ¬ (-1 : Int32).toInt < (0 : Int32).toInt := fun z9 => c45 (i_lt.mpr z9)
                          exact absurd b45 (by omega)
                      · have b42 : ¬ (-1 : Int32).toInt < (0 : Int32).toInt := fun z9 => c42 (i_lt.mpr z9)
                        exact absurd b42 (by omega)
                    · have b41 : ¬ v35.toInt = (0 : Int32).toInt := fun z9 => c41 (i_eq.mpr z9)
                      exact absurd b41 (by omega)
                · have b33 : ¬ v27.toInt = (0 : Int32).toInt := fun z9 => c33 (i_eq.mpr z9)
                  exact absurd b33 (by omega)
            · have b25 : ¬ v19.toInt = (0 : Int32).toInt := fun z9 => c25 (i_eq.mpr z9)
              exact absurd b25 (by omega)
        · have b17 : ¬ v11.toInt = (0 : Int32).toInt := fun z9 => c17 (i_eq.mpr z9)
          exact absurd b17 (by omega)
    · have b9 : ¬ v3.toInt = (0 : Int32).toInt := fun z9 => c9 (i_eq.mpr z9)
      exact absurd b9 (by omega)

set_option maxRecDepth 100000 in
set_option maxHeartbeats 4000000 in
theorem c_X12_readAtom_d6 (l : Launch) (D : DD) (G : Nat → Nat) (a0 : Nat) (T : Tx) (b : Nat) (ga0 : G a0 = 30) : CE l D G yX12_readAtom cX12_readAtom 2 (some .boolean) 7 [.ref a0] (fun H => ((fI D H 11 a0 13).toInt = 6 ∧ (fI D H 11 a0 16).toInt + 3 ≤ (fI D H 11 a0 10).toInt) ∧ (RB D H a0 T b)) [(30, 10), (30, 12), (30, 16), (31, 0), (30, 13)] (xI (fun H r H1 => ((0 ≤ r.toInt ∧ r.toInt ≤ 1) ∧ (r.toInt = 1 → (fI D H1 11 a0 16).toInt - (fI D H 11 a0 16).toInt ≤ (fI D H1 11 a0 10).toInt - (fI D H 11 a0 10).toInt ∧ (fI D H1 11 a0 13).toInt = (fI D H 11 a0 13).toInt ∧ (fI D H 11 a0 10).toInt ≤ (fI D H1 11 a0 10).toInt) ∧ (r.toInt = 1 → Ex (Cs D H1 a0) (fI D H 11 a0 16).toInt.toNat (fI D H1 11 a0 16).toInt.toNat) ∧ Lq D H H1 a0) ∧ (RR D H1 a0 T (atm T 0 b) r))) := by
  refine enter (by decide) (Nat.le_of_ble_eq_true rfl) ?_
  intro p e s m args below meth c ls Q hA hQ C hr hO hpre hl
  have hx := C.1
  have hb := C.2.1
  have S : Sd D G [(30, 10), (30, 12), (30, 16), (31, 0), (30, 13)] s.heap s.heap [] := Sd.start hO
  have hl : lv_has ls 2 [(0, .ref a0)] := hl
  have rs0 : 0 ≤ (fI D s.heap 11 a0 16).toInt ∧ (fI D s.heap 11 a0 16).toInt ≤ 400 := hO.rng ga0 rfl (by decide) rfl
  have rp0 : 0 ≤ (fI D s.heap 11 a0 10).toInt ∧ (fI D s.heap 11 a0 10).toInt ≤ 400 := hO.rng ga0 rfl (by decide) rfl
  obtain ⟨hpre, hf⟩ := hpre
  have ts0 := hf
  have hT : T.2 ≤ 400 := ts0.le hO ga0
  have tk0 : Lq D s.heap s.heap a0 := Lq.refl
  refine lv_aload_n hx hb dX12_readAtom_0 rfl (lv_at hl 0 rfl) ?_
  refine lv_bipush (v := 40) hx hb dX12_readAtom_1 (by decide) ?_
  have k_40 : (40 : Int32).toInt = 40 := by decide
  refine callV_Ei C S (c_X12_sign_f l D G a0 (40 : Int32) 40 T b ga0 (by omega) (by decide)) kV_X12_193 ga0 (⟨trivial, ts0⟩) (by decide +kernel) dX12_readAtom_3 hl.1 rfl rfl (by decide) cd_X12_sign ⟨Nat.le_of_ble_eq_true rfl, Nat.le_of_ble_eq_true rfl, Nat.le_of_ble_eq_true rfl, Nat.le_of_ble_eq_true rfl, Nat.le_of_ble_eq_true rfl⟩ (fun v1 H1 L1 S1 K1 q1 => ?_)
  obtain ⟨q1, fq1⟩ := q1
  have y1_13 : (fI D H1 11 a0 13).toInt = (fI D s.heap 11 a0 13).toInt := congrArg Int32.toInt (K1.fI ga0 rfl (by decide) (by decide +kernel))
  have y1_16 : (fI D H1 11 a0 16).toInt = (fI D s.heap 11 a0 16).toInt := congrArg Int32.toInt (K1.fI ga0 rfl (by decide) (by decide +kernel))
  have lq1 : Lq D s.heap H1 a0 := Lq.keep S.1 ga0 K1 (by decide +kernel) (by decide +kernel) (by decide +kernel)
  have tk1 : Lq D s.heap H1 a0 := tk0.trans lq1
  rcases fq1 with ⟨z1, y1, ts1, wr1⟩ | ⟨z1, y1, ts1, wr1⟩
  · skip
    have k_0 : (0 : Int32).toInt = 0 := by decide
    refine lv_if_eq (tgt := 56) hx hb dX12_readAtom_6 (by decide) (fun c2 => ?_) (fun c2 => ?_)
    · have b2 : v1.toInt = (0 : Int32).toInt := i_eq.mp c2
      exact absurd b2 (by omega)
    · have b2 : ¬ v1.toInt = (0 : Int32).toInt := fun z9 => c2 (i_eq.mpr z9)
      have yn3 : isW T b w_not = false := isS_nW y1
      refine lv_aload_n hx hb dX12_readAtom_9 rfl (lv_at hl 0 rfl) ?_
      have dd : (fI D H1 11 a0 13).toInt = 6 := by omega
      refine q_gi (T := TX12) C S1.1 ga0 13 kF_X12_197 dX12_readAtom_10 rfl rfl (by decide) rfl (by decide) rfl ?_
      have r4 : 0 ≤ (fI D H1 11 a0 13).toInt ∧ (fI D H1 11 a0 13).toInt ≤ 6 := S1.1.rng ga0 rfl (by decide) rfl
      refine lv_bipush (v := 6) hx hb dX12_readAtom_13 (by decide) ?_
      have k_6 : (6 : Int32).toInt = 6 := by decide
      refine lv_icmp_ne (tgt := 20) hx hb dX12_readAtom_15 (by decide) (fun c5 => ?_) (fun c5 => ?_)
      · have b5 : ¬ (fI D H1 11 a0 13).toInt = (6 : Int32).toInt := fun z9 => c5 (i_eq.mpr z9)
        exact absurd b5 (by omega)
      · have b5 : (fI D H1 11 a0 13).toInt = (6 : Int32).toInt := i_eq.mp c5
        refine lv_iconst (v := 0) hx hb dX12_readAtom_18 (by decide) ?_
        exact retE_z hQ C S1 hr dX12_readAtom_19 (z01 (by omega) (by omega)) (⟨⟨by omega, fun h9 => absurd h9 (by decide), fun h9 => absurd h9 (by decide), tk1⟩, RR.no (by rw [atm_z]; simp [clo, tkS, tlF, cmpF, y1, yn3]) (by omega) wr1⟩)
  · skip
    have k_0 : (0 : Int32).toInt = 0 := by decide
    refine lv_if_eq (tgt := 56) hx hb dX12_readAtom_6 (by decide) (fun c6 => ?_) (fun c6 => ?_)
    · have b6 : v1.toInt = (0 : Int32).toInt := i_eq.mp c6
      refine lv_aload_n hx hb dX12_readAtom_56 rfl (lv_at hl 0 rfl) ?_
      refine q_lds C ks_X12_203 dX12_readAtom_57 (fun a7 ha7 wa7 => ?_)
      refine callV_Ei C S1 (c_X12_passes_f l D G a0 a7 3 w_not T b ga0 ha7 (Wc.of wa7 kw_not) (by decide)) kV_X12_120 ga0 (⟨trivial, ts1⟩) (by decide +kernel) dX12_readAtom_59 hl.1 rfl rfl (by decide) cd_X12_passes ⟨Nat.le_of_ble_eq_true rfl, Nat.le_of_ble_eq_true rfl, Nat.le_of_ble_eq_true rfl, Nat.le_of_ble_eq_true rfl, Nat.le_of_ble_eq_true rfl⟩ (fun v8 H8 L8 S8 K8 q8 => ?_)
      obtain ⟨q8, fq8⟩ := q8
      have y8_13 : (fI D H8 11 a0 13).toInt = (fI D H1 11 a0 13).toInt := congrArg Int32.toInt (K8.fI ga0 rfl (by decide) (by decide +kernel))
      have y8_16 : (fI D H8 11 a0 16).toInt = (fI D H1 11 a0 16).toInt := congrArg Int32.toInt (K8.fI ga0 rfl (by decide) (by decide +kernel))
      have lq8 : Lq D H1 H8 a0 := Lq.keep S1.1 ga0 K8 (by decide +kernel) (by decide +kernel) (by decide +kernel)
      have tk8 : Lq D s.heap H8 a0 := tk1.trans lq8
      rcases fq8 with ⟨z8, y8, ts8, wr8⟩ | ⟨z8, y8, ts8, wr8⟩
      · skip
        refine lv_if_eq (tgt := 114) hx hb dX12_readAtom_62 (by decide) (fun c9 => ?_) (fun c9 => ?_)
        · have b9 : v8.toInt = (0 : Int32).toInt := i_eq.mp c9
          exact absurd b9 (by omega)
        · have b9 : ¬ v8.toInt = (0 : Int32).toInt := fun z9 => c9 (i_eq.mpr z9)
          refine lv_aload_n hx hb dX12_readAtom_65 rfl (lv_at hl 0 rfl) ?_
          have dd : (fI D H8 11 a0 13).toInt = 6 := by omega
          refine q_gi (T := TX12) C S8.1 ga0 13 kF_X12_197 dX12_readAtom_66 rfl rfl (by decide) rfl (by decide) rfl ?_
          have r10 : 0 ≤ (fI D H8 11 a0 13).toInt ∧ (fI D H8 11 a0 13).toInt ≤ 6 := S8.1.rng ga0 rfl (by decide) rfl
          refine lv_bipush (v := 6) hx hb dX12_readAtom_69 (by decide) ?_
          have k_6 : (6 : Int32).toInt = 6 := by decide
          refine lv_icmp_ne (tgt := 76) hx hb dX12_readAtom_71 (by decide) (fun c11 => ?_) (fun c11 => ?_)
          · have b11 : ¬ (fI D H8 11 a0 13).toInt = (6 : Int32).toInt := fun z9 => c11 (i_eq.mpr z9)
            exact absurd b11 (by omega)
          · have b11 : (fI D H8 11 a0 13).toInt = (6 : Int32).toInt := i_eq.mp c11
            refine lv_iconst (v := 0) hx hb dX12_readAtom_74 (by decide) ?_
            exact retE_z hQ C S8 hr dX12_readAtom_75 (z01 (by omega) (by omega)) (⟨⟨by omega, fun h9 => absurd h9 (by decide), fun h9 => absurd h9 (by decide), tk8⟩, RR.no (by rw [atm_z]; simp [clo, tkS, tlF, cmpF, y1, y8]) (by omega) wr8⟩)
      · skip
        refine lv_if_eq (tgt := 114) hx hb dX12_readAtom_62 (by decide) (fun c12 => ?_) (fun c12 => ?_)
        · have b12 : v8.toInt = (0 : Int32).toInt := i_eq.mp c12
          refine lv_aload_n hx hb dX12_readAtom_114 rfl (lv_at hl 0 rfl) ?_
          have rs9 : 0 ≤ (fI D H8 11 a0 16).toInt ∧ (fI D H8 11 a0 16).toInt ≤ 400 := S8.1.rng ga0 rfl (by decide) rfl
          have rp9 : 0 ≤ (fI D H8 11 a0 10).toInt ∧ (fI D H8 11 a0 10).toInt ≤ 400 := S8.1.rng ga0 rfl (by decide) rfl
          refine callV_Ei C S8 (c_X12_readTag l D G a0 T b ga0) kV_X12_208 ga0 (⟨by omega, ts8⟩) (by decide +kernel) dX12_readAtom_115 hl.1 rfl rfl (by decide) cd_X12_readTag ⟨Nat.le_of_ble_eq_true rfl, Nat.le_of_ble_eq_true rfl, Nat.le_of_ble_eq_true rfl, Nat.le_of_ble_eq_true rfl, Nat.le_of_ble_eq_true rfl⟩ (fun v13 H13 L13 S13 K13 q13 => ?_)
          obtain ⟨q13, fq13⟩ := q13
          obtain ⟨q13, sa13, sx13, tq13, sf13⟩ := q13
          have y13_13 : (fI D H13 11 a0 13).toInt = (fI D H8 11 a0 13).toInt := congrArg Int32.toInt (K13.fI ga0 rfl (by decide) (by decide +kernel))
          have lq13 : Lq D H8 H13 a0 := tq13
          have tk13 : Lq D s.heap H13 a0 := tk8.trans lq13
          rcases fq13 with ⟨z13, y13, ts13, wr13⟩ | ⟨z13, y13, ts13, wr13⟩
          · skip
            refine lv_if_eq (tgt := 123) hx hb dX12_readAtom_118 (by decide) (fun c14 => ?_) (fun c14 => ?_)
            · have b14 : v13.toInt = (0 : Int32).toInt := i_eq.mp c14
              exact absurd b14 (by omega)
            · have b14 : ¬ v13.toInt = (0 : Int32).toInt := fun z9 => c14 (i_eq.mpr z9)
              have yt15 : ¬ tru T b = -1 := tag_t y13
              refine lv_iconst (v := 1) hx hb dX12_readAtom_121 (by decide) ?_
              have k_1 : (1 : Int32).toInt = 1 := by decide
              exact retE_z hQ C S13 hr dX12_readAtom_122 (z01 (by omega) (by omega)) (⟨⟨by omega, fun _ => by omega, fun _ => (sx13 (by omega)).at (by omega) rfl, tk13⟩, RR.ok (by rw [atm_z]; simp [clo, tkS, tlF, cmpF, y1, y8, y13, yt15]) (by omega) ts13⟩)
          · skip
            refine lv_if_eq (tgt := 123) hx hb dX12_readAtom_118 (by decide) (fun c16 => ?_) (fun c16 => ?_)
            · have b16 : v13.toInt = (0 : Int32).toInt := i_eq.mp c16
              have yt17 : tru T b = -1 := tag_f y13
              refine lv_aload_n hx hb dX12_readAtom_123 rfl (lv_at hl 0 rfl) ?_
              have rs9 : 0 ≤ (fI D H13 11 a0 16).toInt ∧ (fI D H13 11 a0 16).toInt ≤ 400 := S13.1.rng ga0 rfl (by decide) rfl
              have rp9 : 0 ≤ (fI D H13 11 a0 10).toInt ∧ (fI D H13 11 a0 10).toInt ≤ 400 := S13.1.rng ga0 rfl (by decide) rfl
              refine callV_Ei C S13 (c_X12_readSum l D G a0 T b ga0) kV_X12_211 ga0 (⟨by omega, ts13⟩) (by decide +kernel) dX12_readAtom_124 hl.1 rfl rfl (by decide) cd_X12_readSum ⟨Nat.le_of_ble_eq_true rfl, Nat.le_of_ble_eq_true rfl, Nat.le_of_ble_eq_true rfl, Nat.le_of_ble_eq_true rfl, Nat.le_of_ble_eq_true rfl⟩ (fun v18 H18 L18 S18 K18 q18 => ?_)
              obtain ⟨q18, fq18⟩ := q18
              obtain ⟨q18, sa18, sx18, tq18⟩ := q18
              have y18_13 : (fI D H18 11 a0 13).toInt = (fI D H13 11 a0 13).toInt := congrArg Int32.toInt (K18.fI ga0 rfl (by decide) (by decide +kernel))
              have lq18 : Lq D H13 H18 a0 := tq18
              have tk18 : Lq D s.heap H18 a0 := tk13.trans lq18
              rcases fq18 with ⟨c18, y18, z18, ts18⟩ | ⟨e18, y18, z18, wr18⟩
              · skip
                refine lv_if_ne (tgt := 132) hx hb dX12_readAtom_127 (by decide) (fun c19 => ?_) (fun c19 => ?_)
                · have b19 : ¬ v18.toInt = (0 : Int32).toInt := fun z9 => c19 (i_eq.mpr z9)
                  refine lv_aload_n hx hb dX12_readAtom_132 rfl (lv_at hl 0 rfl) ?_
                  refine lv_bipush (v := 60) hx hb dX12_readAtom_133 (by decide) ?_
                  have k_60 : (60 : Int32).toInt = 60 := by decide
                  refine callV_Ei C S18 (c_X12_sign_f l D G a0 (60 : Int32) 60 T c18 ga0 (by omega) (by decide)) kV_X12_193 ga0 (⟨trivial, ts18⟩) (by decide +kernel) dX12_readAtom_135 hl.1 rfl rfl (by decide) cd_X12_sign ⟨Nat.le_of_ble_eq_true rfl, Nat.le_of_ble_eq_true rfl, Nat.le_of_ble_eq_true rfl, Nat.le_of_ble_eq_true rfl, Nat.le_of_ble_eq_true rfl⟩ (fun v20 H20 L20 S20 K20 q20 => ?_)
                  obtain ⟨q20, fq20⟩ := q20
                  have y20_13 : (fI D H20 11 a0 13).toInt = (fI D H18 11 a0 13).toInt := congrArg Int32.toInt (K20.fI ga0 rfl (by decide) (by decide +kernel))
                  have y20_16 : (fI D H20 11 a0 16).toInt = (fI D H18 11 a0 16).toInt := congrArg Int32.toInt (K20.fI ga0 rfl (by decide) (by decide +kernel))
                  have lq20 : Lq D H18 H20 a0 := Lq.keep S18.1 ga0 K20 (by decide +kernel) (by decide +kernel) (by decide +kernel)
                  have tk20 : Lq D s.heap H20 a0 := tk18.trans lq20
                  rcases fq20 with ⟨z20, y20, ts20, wr20⟩ | ⟨z20, y20, ts20, wr20⟩
                  · skip
                    refine lv_istore_n (lv' := [(1, .int v20), (0, .ref a0)]) hx hb dX12_readAtom_138 rfl hl (by decide) rfl (fun ls hl => ?_)
                    refine lv_iload_n hx hb dX12_readAtom_139 rfl (lv_at hl 0 rfl) ?_
                    refine lv_if_ne (tgt := 152) hx hb dX12_readAtom_140 (by decide) (fun c21 => ?_) (fun c21 => ?_)
                    · have b21 : ¬ v20.toInt = (0 : Int32).toInt := fun z9 => c21 (i_eq.mpr z9)
                      refine lv_aload_n hx hb dX12_readAtom_152 rfl (lv_at hl 1 rfl) ?_
                      have rs9 : 0 ≤ (fI D H20 11 a0 16).toInt ∧ (fI D H20 11 a0 16).toInt ≤ 400 := S20.1.rng ga0 rfl (by decide) rfl
                      have rp9 : 0 ≤ (fI D H20 11 a0 10).toInt ∧ (fI D H20 11 a0 10).toInt ≤ 400 := S20.1.rng ga0 rfl (by decide) rfl
                      refine callV_Ei C S20 (c_X12_readSum l D G a0 T (nx T c18) ga0) kV_X12_211 ga0 (⟨by omega, ts20⟩) (by decide +kernel) dX12_readAtom_153 hl.1 rfl rfl (by decide) cd_X12_readSum ⟨Nat.le_of_ble_eq_true rfl, Nat.le_of_ble_eq_true rfl, Nat.le_of_ble_eq_true rfl, Nat.le_of_ble_eq_true rfl, Nat.le_of_ble_eq_true rfl⟩ (fun v22 H22 L22 S22 K22 q22 => ?_)
                      obtain ⟨q22, fq22⟩ := q22
                      obtain ⟨q22, sa22, sx22, tq22⟩ := q22
                      have y22_13 : (fI D H22 11 a0 13).toInt = (fI D H20 11 a0 13).toInt := congrArg Int32.toInt (K22.fI ga0 rfl (by decide) (by decide +kernel))
                      have lq22 : Lq D H20 H22 a0 := tq22
                      have tk22 : Lq D s.heap H22 a0 := tk20.trans lq22
                      rcases fq22 with ⟨c22, y22, z22, ts22⟩ | ⟨e22, y22, z22, wr22⟩
                      · skip
                        refine lv_if_ne (tgt := 161) hx hb dX12_readAtom_156 (by decide) (fun c23 => ?_) (fun c23 => ?_)
                        · have b23 : ¬ v22.toInt = (0 : Int32).toInt := fun z9 => c23 (i_eq.mpr z9)
                          refine lv_aload_n hx hb dX12_readAtom_161 rfl (lv_at hl 1 rfl) ?_
                          refine lv_iload_n hx hb dX12_readAtom_162 rfl (lv_at hl 0 rfl) ?_
                          refine lv_if_eq (tgt := 171) hx hb dX12_readAtom_163 (by decide) (fun c24 => ?_) (fun c24 => ?_)
                          · have b24 : v20.toInt = (0 : Int32).toInt := i_eq.mp c24
                            exact absurd b24 (by omega)
                          · have b24 : ¬ v20.toInt = (0 : Int32).toInt := fun z9 => c24 (i_eq.mpr z9)
                            refine lv_bipush (v := 13) hx hb dX12_readAtom_166 (by decide) ?_
                            refine lv_goto (tgt := 173) hx hb dX12_readAtom_168 (by decide) ?_
                            refine lv_iconst (v := 0) hx hb dX12_readAtom_173 (by decide) ?_
                            have rs9 : 0 ≤ (fI D H22 11 a0 16).toInt ∧ (fI D H22 11 a0 16).toInt ≤ 400 := S22.1.rng ga0 rfl (by decide) rfl
                            have rp9 : 0 ≤ (fI D H22 11 a0 10).toInt ∧ (fI D H22 11 a0 10).toInt ≤ 400 := S22.1.rng ga0 rfl (by decide) rfl
                            have k_13 : (13 : Int32).toInt = 13 := by decide
                            refine callV_Ev C S22 (c_X12_emits l D G a0 (13 : Int32) (0 : Int32) ga0) kV_X12_185 ga0 (by omega) (by decide +kernel) dX12_readAtom_174 hl.1 rfl rfl (by decide) cd_X12_emits ⟨Nat.le_of_ble_eq_true rfl, Nat.le_of_ble_eq_true rfl, Nat.le_of_ble_eq_true rfl, Nat.le_of_ble_eq_true rfl, Nat.le_of_ble_eq_true rfl⟩ (fun H25 L25 S25 K25 q25 => ?_)
                            obtain ⟨qa25, qb25, tq25⟩ := q25
                            have y25_10 : (fI D H25 11 a0 10).toInt = (fI D H22 11 a0 10).toInt := congrArg Int32.toInt (K25.fI ga0 rfl (by decide) (by decide +kernel))
                            have y25_12 : (fI D H25 11 a0 12).toInt = (fI D H22 11 a0 12).toInt := congrArg Int32.toInt (K25.fI ga0 rfl (by decide) (by decide +kernel))
                            have y25_13 : (fI D H25 11 a0 13).toInt = (fI D H22 11 a0 13).toInt := congrArg Int32.toInt (K25.fI ga0 rfl (by decide) (by decide +kernel))
                            have lq25 : Lq D H22 H25 a0 := tq25
                            have tk25 : Lq D s.heap H25 a0 := tk22.trans lq25
                            have rb25 := ts22.keep S22.1 ga0 K25 (by decide +kernel)
                            refine lv_iconst (v := 1) hx hb dX12_readAtom_177 (by decide) ?_
                            have k_1 : (1 : Int32).toInt = 1 := by decide
                            exact retE_z hQ C S25 hr dX12_readAtom_178 (z01 (by omega) (by omega)) (⟨⟨by omega, fun _ => by omega, fun _ => (Ex.bin (((lq20.trans lq22).trans lq25).ex (sx18 (by omega)) (by omega)) ((lq25.ex (sx22 (by omega)) (by omega)).at (i' := (fI D H18 11 a0 16).toInt.toNat) (by omega) rfl) (by rw [qb25]; decide) rfl).at (by omega) (by omega), tk25⟩, RR.ok (by rw [atm_z]; simp [clo, tkS, tlF, cmpF, y1, y8, y13, yt17, y18, y20, y22]) (by omega) rb25⟩)
                        · have b23 : v22.toInt = (0 : Int32).toInt := i_eq.mp c23
                          exact absurd b23 (by omega)
                      · skip
                        refine lv_if_ne (tgt := 161) hx hb dX12_readAtom_156 (by decide) (fun c26 => ?_) (fun c26 => ?_)
                        · have b26 : ¬ v22.toInt = (0 : Int32).toInt := fun z9 => c26 (i_eq.mpr z9)
                          exact absurd b26 (by omega)
                        · have b26 : v22.toInt = (0 : Int32).toInt := i_eq.mp c26
                          refine lv_iconst (v := 0) hx hb dX12_readAtom_159 (by decide) ?_
                          exact retE_z hQ C S22 hr dX12_readAtom_160 (z01 (by omega) (by omega)) (⟨⟨by omega, fun h9 => absurd h9 (by decide), fun h9 => absurd h9 (by decide), tk22⟩, RR.no (by rw [atm_z]; simp [clo, tkS, tlF, cmpF, y1, y8, y13, yt17, y18, y20, y22]) (by omega) wr22⟩)
                    · have b21 : v20.toInt = (0 : Int32).toInt := i_eq.mp c21
                      exact absurd b21 (by omega)
                  · skip
                    refine lv_istore_n (lv' := [(1, .int v20), (0, .ref a0)]) hx hb dX12_readAtom_138 rfl hl (by decide) rfl (fun ls hl => ?_)
                    refine lv_iload_n hx hb dX12_readAtom_139 rfl (lv_at hl 0 rfl) ?_
                    refine lv_if_ne (tgt := 152) hx hb dX12_readAtom_140 (by decide) (fun c27 => ?_) (fun c27 => ?_)
                    · have b27 : ¬ v20.toInt = (0 : Int32).toInt := fun z9 => c27 (i_eq.mpr z9)
                      exact absurd b27 (by omega)
                    · have b27 : v20.toInt = (0 : Int32).toInt := i_eq.mp c27
                      refine lv_aload_n hx hb dX12_readAtom_143 rfl (lv_at hl 1 rfl) ?_
                      refine lv_bipush (v := 62) hx hb dX12_readAtom_144 (by decide) ?_
                      have k_62 : (62 : Int32).toInt = 62 := by decide
                      refine callV_Ei C S20 (c_X12_sign_f l D G a0 (62 : Int32) 62 T c18 ga0 (by omega) (by decide)) kV_X12_193 ga0 (⟨trivial, ts20⟩) (by decide +kernel) dX12_readAtom_146 hl.1 rfl rfl (by decide) cd_X12_sign ⟨Nat.le_of_ble_eq_true rfl, Nat.le_of_ble_eq_true rfl, Nat.le_of_ble_eq_true rfl, Nat.le_of_ble_eq_true rfl, Nat.le_of_ble_eq_true rfl⟩ (fun v28 H28 L28 S28 K28 q28 => ?_)
                      obtain ⟨q28, fq28⟩ := q28
                      have y28_13 : (fI D H28 11 a0 13).toInt = (fI D H20 11 a0 13).toInt := congrArg Int32.toInt (K28.fI ga0 rfl (by decide) (by decide +kernel))
                      have y28_16 : (fI D H28 11 a0 16).toInt = (fI D H20 11 a0 16).toInt := congrArg Int32.toInt (K28.fI ga0 rfl (by decide) (by decide +kernel))
                      have lq28 : Lq D H20 H28 a0 := Lq.keep S20.1 ga0 K28 (by decide +kernel) (by decide +kernel) (by decide +kernel)
                      have tk28 : Lq D s.heap H28 a0 := tk20.trans lq28
                      rcases fq28 with ⟨z28, y28, ts28, wr28⟩ | ⟨z28, y28, ts28, wr28⟩
                      · skip
                        refine lv_if_eq (tgt := 159) hx hb dX12_readAtom_149 (by decide) (fun c29 => ?_) (fun c29 => ?_)
                        · have b29 : v28.toInt = (0 : Int32).toInt := i_eq.mp c29
                          exact absurd b29 (by omega)
                        · have b29 : ¬ v28.toInt = (0 : Int32).toInt := fun z9 => c29 (i_eq.mpr z9)
                          refine lv_aload_n hx hb dX12_readAtom_152 rfl (lv_at hl 1 rfl) ?_
                          have rs9 : 0 ≤ (fI D H28 11 a0 16).toInt ∧ (fI D H28 11 a0 16).toInt ≤ 400 := S28.1.rng ga0 rfl (by decide) rfl
                          have rp9 : 0 ≤ (fI D H28 11 a0 10).toInt ∧ (fI D H28 11 a0 10).toInt ≤ 400 := S28.1.rng ga0 rfl (by decide) rfl
                          refine callV_Ei C S28 (c_X12_readSum l D G a0 T (nx T c18) ga0) kV_X12_211 ga0 (⟨by omega, ts28⟩) (by decide +kernel) dX12_readAtom_153 hl.1 rfl rfl (by decide) cd_X12_readSum ⟨Nat.le_of_ble_eq_true rfl, Nat.le_of_ble_eq_true rfl, Nat.le_of_ble_eq_true rfl, Nat.le_of_ble_eq_true rfl, Nat.le_of_ble_eq_true rfl⟩ (fun v30 H30 L30 S30 K30 q30 => ?_)
                          obtain ⟨q30, fq30⟩ := q30
                          obtain ⟨q30, sa30, sx30, tq30⟩ := q30
                          have y30_13 : (fI D H30 11 a0 13).toInt = (fI D H28 11 a0 13).toInt := congrArg Int32.toInt (K30.fI ga0 rfl (by decide) (by decide +kernel))
                          have lq30 : Lq D H28 H30 a0 := tq30
                          have tk30 : Lq D s.heap H30 a0 := tk28.trans lq30
                          rcases fq30 with ⟨c30, y30, z30, ts30⟩ | ⟨e30, y30, z30, wr30⟩
                          · skip
                            refine lv_if_ne (tgt := 161) hx hb dX12_readAtom_156 (by decide) (fun c31 => ?_) (fun c31 => ?_)
                            · have b31 : ¬ v30.toInt = (0 : Int32).toInt := fun z9 => c31 (i_eq.mpr z9)
                              refine lv_aload_n hx hb dX12_readAtom_161 rfl (lv_at hl 1 rfl) ?_
                              refine lv_iload_n hx hb dX12_readAtom_162 rfl (lv_at hl 0 rfl) ?_
                              refine lv_if_eq (tgt := 171) hx hb dX12_readAtom_163 (by decide) (fun c32 => ?_) (fun c32 => ?_)
                              · have b32 : v20.toInt = (0 : Int32).toInt := i_eq.mp c32
                                refine lv_bipush (v := 14) hx hb dX12_readAtom_171 (by decide) ?_
                                refine lv_iconst (v := 0) hx hb dX12_readAtom_173 (by decide) ?_
                                have rs9 : 0 ≤ (fI D H30 11 a0 16).toInt ∧ (fI D H30 11 a0 16).toInt ≤ 400 := S30.1.rng ga0 rfl (by decide) rfl
                                have rp9 : 0 ≤ (fI D H30 11 a0 10).toInt ∧ (fI D H30 11 a0 10).toInt ≤ 400 := S30.1.rng ga0 rfl (by decide) rfl
                                have k_14 : (14 : Int32).toInt = 14 := by decide
                                refine callV_Ev C S30 (c_X12_emits l D G a0 (14 : Int32) (0 : Int32) ga0) kV_X12_185 ga0 (by omega) (by decide +kernel) dX12_readAtom_174 hl.1 rfl rfl (by decide) cd_X12_emits ⟨Nat.le_of_ble_eq_true rfl, Nat.le_of_ble_eq_true rfl, Nat.le_of_ble_eq_true rfl, Nat.le_of_ble_eq_true rfl, Nat.le_of_ble_eq_true rfl⟩ (fun H33 L33 S33 K33 q33 => ?_)
                                obtain ⟨qa33, qb33, tq33⟩ := q33
                                have y33_10 : (fI D H33 11 a0 10).toInt = (fI D H30 11 a0 10).toInt := congrArg Int32.toInt (K33.fI ga0 rfl (by decide) (by decide +kernel))
                                have y33_12 : (fI D H33 11 a0 12).toInt = (fI D H30 11 a0 12).toInt := congrArg Int32.toInt (K33.fI ga0 rfl (by decide) (by decide +kernel))
                                have y33_13 : (fI D H33 11 a0 13).toInt = (fI D H30 11 a0 13).toInt := congrArg Int32.toInt (K33.fI ga0 rfl (by decide) (by decide +kernel))
                                have lq33 : Lq D H30 H33 a0 := tq33
                                have tk33 : Lq D s.heap H33 a0 := tk30.trans lq33
                                have rb33 := ts30.keep S30.1 ga0 K33 (by decide +kernel)
                                refine lv_iconst (v := 1) hx hb dX12_readAtom_177 (by decide) ?_
                                have k_1 : (1 : Int32).toInt = 1 := by decide
                                exact retE_z hQ C S33 hr dX12_readAtom_178 (z01 (by omega) (by omega)) (⟨⟨by omega, fun _ => by omega, fun _ => (Ex.bin ((((lq20.trans lq28).trans lq30).trans lq33).ex (sx18 (by omega)) (by omega)) ((lq33.ex (sx30 (by omega)) (by omega)).at (i' := (fI D H18 11 a0 16).toInt.toNat) (by omega) rfl) (by rw [qb33]; decide) rfl).at (by omega) (by omega), tk33⟩, RR.ok (by rw [atm_z]; simp [clo, tkS, tlF, cmpF, y1, y8, y13, yt17, y18, y20, y28, y30]) (by omega) rb33⟩)
                              · have b32 : ¬ v20.toInt = (0 : Int32).toInt := fun z9 => c32 (i_eq.mpr z9)
                                exact absurd b32 (by omega)
                            · have b31 : v30.toInt = (0 : Int32).toInt := i_eq.mp c31
                              exact absurd b31 (by omega)
                          · skip
                            refine lv_if_ne (tgt := 161) hx hb dX12_readAtom_156 (by decide) (fun c34 => ?_) (fun c34 => ?_)
                            · have b34 : ¬ v30.toInt = (0 : Int32).toInt := fun z9 => c34 (i_eq.mpr z9)
                              exact absurd b34 (by omega)
                            · have b34 : v30.toInt = (0 : Int32).toInt := i_eq.mp c34
                              refine lv_iconst (v := 0) hx hb dX12_readAtom_159 (by decide) ?_
                              exact retE_z hQ C S30 hr dX12_readAtom_160 (z01 (by omega) (by omega)) (⟨⟨by omega, fun h9 => absurd h9 (by decide), fun h9 => absurd h9 (by decide), tk30⟩, RR.no (by rw [atm_z]; simp [clo, tkS, tlF, cmpF, y1, y8, y13, yt17, y18, y20, y28, y30]) (by omega) wr30⟩)
                      · skip
                        refine lv_if_eq (tgt := 159) hx hb dX12_readAtom_149 (by decide) (fun c35 => ?_) (fun c35 => ?_)
                        · have b35 : v28.toInt = (0 : Int32).toInt := i_eq.mp c35
                          refine lv_iconst (v := 0) hx hb dX12_readAtom_159 (by decide) ?_
                          exact retE_z hQ C S28 hr dX12_readAtom_160 (z01 (by omega) (by omega)) (⟨⟨by omega, fun h9 => absurd h9 (by decide), fun h9 => absurd h9 (by decide), tk28⟩, RR.no (by rw [atm_z]; simp [clo, tkS, tlF, cmpF, y1, y8, y13, yt17, y18, y20, y28]) (by omega) wr28⟩)
                        · have b35 : ¬ v28.toInt = (0 : Int32).toInt := fun z9 => c35 (i_eq.mpr z9)
                          exact absurd b35 (by omega)
                · have b19 : v18.toInt = (0 : Int32).toInt := i_eq.mp c19
                  exact absurd b19 (by omega)
              · skip
                refine lv_if_ne (tgt := 132) hx hb dX12_readAtom_127 (by decide) (fun c36 => ?_) (fun c36 => ?_)
                · have b36 : ¬ v18.toInt = (0 : Int32).toInt := fun z9 => c36 (i_eq.mpr z9)
                  exact absurd b36 (by omega)
                · have b36 : v18.toInt = (0 : Int32).toInt := i_eq.mp c36
                  refine lv_iconst (v := 0) hx hb dX12_readAtom_130 (by decide) ?_
                  exact retE_z hQ C S18 hr dX12_readAtom_131 (z01 (by omega) (by omega)) (⟨⟨by omega, fun h9 => absurd h9 (by decide), fun h9 => absurd h9 (by decide), tk18⟩, RR.no (by rw [atm_z]; simp [clo, tkS, tlF, cmpF, y1, y8, y13, yt17, y18]) (by omega) wr18⟩)
            · have b16 : ¬ v13.toInt = (0 : Int32).toInt := fun z9 => c16 (i_eq.mpr z9)
              exact absurd b16 (by omega)
        · have b12 : ¬ v8.toInt = (0 : Int32).toInt := fun z9 => c12 (i_eq.mpr z9)
          exact absurd b12 (by omega)
    · have b6 : ¬ v1.toInt = (0 : Int32).toInt := fun z9 => c6 (i_eq.mpr z9)
      exact absurd b6 (by omega)

set_option maxRecDepth 100000 in
set_option maxHeartbeats 4000000 in
theorem c_X12_readAllOf_d6 (l : Launch) (D : DD) (G : Nat → Nat) (a0 : Nat) (T : Tx) (b : Nat) (ga0 : G a0 = 30) : CE l D G yX12_readAllOf cX12_readAllOf 1 (some .boolean) 8 [.ref a0] (fun H => ((fI D H 11 a0 13).toInt = 6 ∧ (fI D H 11 a0 16).toInt + 3 ≤ (fI D H 11 a0 10).toInt) ∧ (RB D H a0 T b)) [(30, 10), (30, 12), (30, 16), (31, 0), (30, 13)] (xI (fun H r H1 => ((0 ≤ r.toInt ∧ r.toInt ≤ 1) ∧ (r.toInt = 1 → (fI D H1 11 a0 16).toInt - (fI D H 11 a0 16).toInt ≤ (fI D H1 11 a0 10).toInt - (fI D H 11 a0 10).toInt ∧ (fI D H1 11 a0 13).toInt = (fI D H 11 a0 13).toInt ∧ (fI D H 11 a0 10).toInt ≤ (fI D H1 11 a0 10).toInt) ∧ (r.toInt = 1 → Ex (Cs D H1 a0) (fI D H 11 a0 16).toInt.toNat (fI D H1 11 a0 16).toInt.toNat) ∧ Lq D H H1 a0) ∧ (RR D H1 a0 T (allF T (atm T 0) b) r))) := by
  refine enter (by decide) (Nat.le_of_ble_eq_true rfl) ?_
  intro p e s m args below meth c ls Q hA hQ C hr hO hpre hl
  have hx := C.1
  have hb := C.2.1
  have S : Sd D G [(30, 10), (30, 12), (30, 16), (31, 0), (30, 13)] s.heap s.heap [] := Sd.start hO
  have hl : lv_has ls 1 [(0, .ref a0)] := hl
  have rs0 : 0 ≤ (fI D s.heap 11 a0 16).toInt ∧ (fI D s.heap 11 a0 16).toInt ≤ 400 := hO.rng ga0 rfl (by decide) rfl
  have rp0 : 0 ≤ (fI D s.heap 11 a0 10).toInt ∧ (fI D s.heap 11 a0 10).toInt ≤ 400 := hO.rng ga0 rfl (by decide) rfl
  obtain ⟨hpre, hf⟩ := hpre
  have ts0 := hf
  have hT : T.2 ≤ 400 := ts0.le hO ga0
  have tk0 : Lq D s.heap s.heap a0 := Lq.refl
  refine lv_aload_n hx hb dX12_readAllOf_0 rfl (lv_at hl 0 rfl) ?_
  refine callV_Ei C S (c_X12_readAtom_d6 l D G a0 T b ga0) kV_X12_205 ga0 (⟨hpre, ts0⟩) (by decide +kernel) dX12_readAllOf_1 hl.1 rfl rfl (by decide) cd_X12_readAtom ⟨Nat.le_of_ble_eq_true rfl, Nat.le_of_ble_eq_true rfl, Nat.le_of_ble_eq_true rfl, Nat.le_of_ble_eq_true rfl, Nat.le_of_ble_eq_true rfl⟩ (fun v1 H1 L1 S1 K1 q1 => ?_)
  obtain ⟨q1, fq1⟩ := q1
  obtain ⟨q1, sa1, sx1, tq1⟩ := q1
  have lq1 : Lq D s.heap H1 a0 := tq1
  have tk1 : Lq D s.heap H1 a0 := tk0.trans lq1
  rcases fq1 with ⟨c1, y1, z1, ts1⟩ | ⟨e1, y1, z1, wr1⟩
  · skip
    have k_0 : (0 : Int32).toInt = 0 := by decide
    refine lv_if_ne (tgt := 9) hx hb dX12_readAllOf_4 (by decide) (fun c2 => ?_) (fun c2 => ?_)
    · have b2 : ¬ v1.toInt = (0 : Int32).toInt := fun z9 => c2 (i_eq.mpr z9)
      have Lp9 : ∀ (n : Nat) (b_9 : Nat) (H_9 : Heap) (L_9 : List Loc) (ls : Array Slot), (Sd D G [(30, 10), (30, 12), (30, 16), (31, 0), (30, 13)] s.heap H_9 L_9) → (Ex (Cs D H_9 a0) (fI D s.heap 11 a0 16).toInt.toNat (fI D H_9 11 a0 16).toInt.toNat) → ((fI D H_9 11 a0 16).toInt - (fI D s.heap 11 a0 16).toInt ≤ (fI D H_9 11 a0 10).toInt - (fI D s.heap 11 a0 10).toInt ∧ (fI D H_9 11 a0 13).toInt = (fI D s.heap 11 a0 13).toInt ∧ (fI D s.heap 11 a0 10).toInt ≤ (fI D H_9 11 a0 10).toInt) → (RB D H_9 a0 T b_9) → (allF T (atm T 0) b = allT T (atm T 0) b_9) → (Lq D s.heap H_9 a0) → 401 - (fI D H_9 11 a0 10).toInt ≤ (n : Int) → lv_has ls 1 [(0, .ref a0)] → W p l e (rmU 8 0 0) s m args below meth c H_9 L_9 0 0 Q (F0 m 9 ls []) := by
        intro n
        induction n with
        | zero =>
          intro b_9 H_9 L_9 ls S_9 u9_0 u9_1 u9_2 u9_3 u9_4 hn hl
          have rz : 0 ≤ (fI D H_9 11 a0 10).toInt ∧ (fI D H_9 11 a0 10).toInt ≤ 400 := S_9.1.rng ga0 rfl (by decide) rfl
          exact absurd hn (by omega)
        | succ n ih9 =>
          intro b_9 H_9 L_9 ls S_9 u9_0 u9_1 u9_2 u9_3 u9_4 hn hl
          have rs9 : 0 ≤ (fI D H_9 11 a0 16).toInt ∧ (fI D H_9 11 a0 16).toInt ≤ 400 := S_9.1.rng ga0 rfl (by decide) rfl
          have rp9 : 0 ≤ (fI D H_9 11 a0 10).toInt ∧ (fI D H_9 11 a0 10).toInt ≤ 400 := S_9.1.rng ga0 rfl (by decide) rfl
          refine lv_aload_n hx hb dX12_readAllOf_9 rfl (lv_at hl 0 rfl) ?_
          refine q_lds C ks_X12_214 dX12_readAllOf_10 (fun a3 ha3 wa3 => ?_)
          refine callV_Ei C S_9 (c_X12_passes_f l D G a0 a3 3 w_and T b_9 ga0 ha3 (Wc.of wa3 kw_and) (by decide)) kV_X12_120 ga0 (⟨trivial, u9_2⟩) (by decide +kernel) dX12_readAllOf_12 hl.1 rfl rfl (by decide) cd_X12_passes ⟨Nat.le_of_ble_eq_true rfl, Nat.le_of_ble_eq_true rfl, Nat.le_of_ble_eq_true rfl, Nat.le_of_ble_eq_true rfl, Nat.le_of_ble_eq_true rfl⟩ (fun v4 H4 L4 S4 K4 q4 => ?_)
          obtain ⟨q4, fq4⟩ := q4
          have y4_13 : (fI D H4 11 a0 13).toInt = (fI D H_9 11 a0 13).toInt := congrArg Int32.toInt (K4.fI ga0 rfl (by decide) (by decide +kernel))
          have y4_16 : (fI D H4 11 a0 16).toInt = (fI D H_9 11 a0 16).toInt := congrArg Int32.toInt (K4.fI ga0 rfl (by decide) (by decide +kernel))
          have lq4 : Lq D H_9 H4 a0 := Lq.keep S_9.1 ga0 K4 (by decide +kernel) (by decide +kernel) (by decide +kernel)
          have tk4 : Lq D s.heap H4 a0 := u9_4.trans lq4
          rcases fq4 with ⟨z4, y4, ts4, wr4⟩ | ⟨z4, y4, ts4, wr4⟩
          · skip
            refine lv_if_eq (tgt := 37) hx hb dX12_readAllOf_15 (by decide) (fun c5 => ?_) (fun c5 => ?_)
            · have b5 : v4.toInt = (0 : Int32).toInt := i_eq.mp c5
              exact absurd b5 (by omega)
            · have b5 : ¬ v4.toInt = (0 : Int32).toInt := fun z9 => c5 (i_eq.mpr z9)
              refine lv_aload_n hx hb dX12_readAllOf_18 rfl (lv_at hl 0 rfl) ?_
              have rs9 : 0 ≤ (fI D H4 11 a0 16).toInt ∧ (fI D H4 11 a0 16).toInt ≤ 400 := S4.1.rng ga0 rfl (by decide) rfl
              have rp9 : 0 ≤ (fI D H4 11 a0 10).toInt ∧ (fI D H4 11 a0 10).toInt ≤ 400 := S4.1.rng ga0 rfl (by decide) rfl
              refine callV_Ei C S4 (c_X12_readAtom_d6 l D G a0 T (nx T b_9) ga0) kV_X12_205 ga0 (⟨⟨by omega, by omega⟩, ts4⟩) (by decide +kernel) dX12_readAllOf_19 hl.1 rfl rfl (by decide) cd_X12_readAtom ⟨Nat.le_of_ble_eq_true rfl, Nat.le_of_ble_eq_true rfl, Nat.le_of_ble_eq_true rfl, Nat.le_of_ble_eq_true rfl, Nat.le_of_ble_eq_true rfl⟩ (fun v6 H6 L6 S6 K6 q6 => ?_)
              obtain ⟨q6, fq6⟩ := q6
              obtain ⟨q6, sa6, sx6, tq6⟩ := q6
              have lq6 : Lq D H4 H6 a0 := tq6
              have tk6 : Lq D s.heap H6 a0 := tk4.trans lq6
              rcases fq6 with ⟨c6, y6, z6, ts6⟩ | ⟨e6, y6, z6, wr6⟩
              · skip
                refine lv_if_ne (tgt := 27) hx hb dX12_readAllOf_22 (by decide) (fun c7 => ?_) (fun c7 => ?_)
                · have b7 : ¬ v6.toInt = (0 : Int32).toInt := fun z9 => c7 (i_eq.mpr z9)
                  refine lv_aload_n hx hb dX12_readAllOf_27 rfl (lv_at hl 0 rfl) ?_
                  refine lv_bipush (v := 16) hx hb dX12_readAllOf_28 (by decide) ?_
                  refine lv_iconst (v := 0) hx hb dX12_readAllOf_30 (by decide) ?_
                  have rs9 : 0 ≤ (fI D H6 11 a0 16).toInt ∧ (fI D H6 11 a0 16).toInt ≤ 400 := S6.1.rng ga0 rfl (by decide) rfl
                  have rp9 : 0 ≤ (fI D H6 11 a0 10).toInt ∧ (fI D H6 11 a0 10).toInt ≤ 400 := S6.1.rng ga0 rfl (by decide) rfl
                  have k_16 : (16 : Int32).toInt = 16 := by decide
                  refine callV_Ev C S6 (c_X12_emits l D G a0 (16 : Int32) (0 : Int32) ga0) kV_X12_185 ga0 (by omega) (by decide +kernel) dX12_readAllOf_31 hl.1 rfl rfl (by decide) cd_X12_emits ⟨Nat.le_of_ble_eq_true rfl, Nat.le_of_ble_eq_true rfl, Nat.le_of_ble_eq_true rfl, Nat.le_of_ble_eq_true rfl, Nat.le_of_ble_eq_true rfl⟩ (fun H8 L8 S8 K8 q8 => ?_)
                  obtain ⟨qa8, qb8, tq8⟩ := q8
                  have y8_10 : (fI D H8 11 a0 10).toInt = (fI D H6 11 a0 10).toInt := congrArg Int32.toInt (K8.fI ga0 rfl (by decide) (by decide +kernel))
                  have y8_12 : (fI D H8 11 a0 12).toInt = (fI D H6 11 a0 12).toInt := congrArg Int32.toInt (K8.fI ga0 rfl (by decide) (by decide +kernel))
                  have y8_13 : (fI D H8 11 a0 13).toInt = (fI D H6 11 a0 13).toInt := congrArg Int32.toInt (K8.fI ga0 rfl (by decide) (by decide +kernel))
                  have lq8 : Lq D H6 H8 a0 := tq8
                  have tk8 : Lq D s.heap H8 a0 := tk6.trans lq8
                  have rb8 := ts6.keep S6.1 ga0 K8 (by decide +kernel)
                  refine lv_goto (tgt := 9) hx hb dX12_readAllOf_34 (by decide) ?_
                  have e9 : Ex (Cs D H8 a0) (fI D s.heap 11 a0 16).toInt.toNat (fI D H8 11 a0 16).toInt.toNat := (Ex.bin (((lq4.trans lq6).trans lq8).ex u9_0 (by omega)) ((lq8.ex (sx6 (by omega)) (by omega)).at (i' := (fI D H_9 11 a0 16).toInt.toNat) (by omega) rfl) (by rw [qb8]; decide) rfl).at (by omega) (by omega)
                  exact ih9 c6 H8 L8 ls S8 e9 (by omega) rb8 (u9_3.trans ((allT_t y4).trans (all_in (atm_on 0) hT y6))) tk8 (by omega) (lv_sub hl [0] rfl)
                · have b7 : v6.toInt = (0 : Int32).toInt := i_eq.mp c7
                  exact absurd b7 (by omega)
              · skip
                refine lv_if_ne (tgt := 27) hx hb dX12_readAllOf_22 (by decide) (fun c9 => ?_) (fun c9 => ?_)
                · have b9 : ¬ v6.toInt = (0 : Int32).toInt := fun z9 => c9 (i_eq.mpr z9)
                  exact absurd b9 (by omega)
                · have b9 : v6.toInt = (0 : Int32).toInt := i_eq.mp c9
                  refine lv_iconst (v := 0) hx hb dX12_readAllOf_25 (by decide) ?_
                  exact retE_z hQ C S6 hr dX12_readAllOf_26 (z01 (by omega) (by omega)) (⟨⟨by omega, fun h9 => absurd h9 (by decide), fun h9 => absurd h9 (by decide), tk6⟩, RR.no (u9_3.trans ((allT_t y4).trans (all_no (atm_on 0) hT y6))) (by omega) wr6⟩)
          · skip
            refine lv_if_eq (tgt := 37) hx hb dX12_readAllOf_15 (by decide) (fun c10 => ?_) (fun c10 => ?_)
            · have b10 : v4.toInt = (0 : Int32).toInt := i_eq.mp c10
              refine lv_iconst (v := 1) hx hb dX12_readAllOf_37 (by decide) ?_
              have k_1 : (1 : Int32).toInt = 1 := by decide
              exact retE_z hQ C S4 hr dX12_readAllOf_38 (z01 (by omega) (by omega)) (⟨⟨by omega, fun _ => by omega, fun _ => (lq4.ex u9_0 (by omega)).at (by omega) (by omega), tk4⟩, RR.ok (u9_3.trans (allT_f y4)) (by omega) ts4⟩)
            · have b10 : ¬ v4.toInt = (0 : Int32).toInt := fun z9 => c10 (i_eq.mpr z9)
              exact absurd b10 (by omega)
      have ex0 := sx1 (by omega)
      have rn : 0 ≤ (fI D H1 11 a0 10).toInt ∧ (fI D H1 11 a0 10).toInt ≤ 400 := S1.1.rng ga0 rfl (by decide) rfl
      exact Lp9 402 c1 H1 L1 ls S1 (ex0.at (by omega) rfl) (by omega) ts1 (all_in (atm_on 0) hT y1) tk1  (by omega) (lv_sub hl [0] rfl)
    · have b2 : v1.toInt = (0 : Int32).toInt := i_eq.mp c2
      exact absurd b2 (by omega)
  · skip
    have k_0 : (0 : Int32).toInt = 0 := by decide
    refine lv_if_ne (tgt := 9) hx hb dX12_readAllOf_4 (by decide) (fun c11 => ?_) (fun c11 => ?_)
    · have b11 : ¬ v1.toInt = (0 : Int32).toInt := fun z9 => c11 (i_eq.mpr z9)
      exact absurd b11 (by omega)
    · have b11 : v1.toInt = (0 : Int32).toInt := i_eq.mp c11
      refine lv_iconst (v := 0) hx hb dX12_readAllOf_7 (by decide) ?_
      exact retE_z hQ C S1 hr dX12_readAllOf_8 (z01 (by omega) (by omega)) (⟨⟨by omega, fun h9 => absurd h9 (by decide), fun h9 => absurd h9 (by decide), tk1⟩, RR.no (all_no (atm_on 0) hT y1) (by omega) wr1⟩)

set_option maxRecDepth 100000 in
set_option maxHeartbeats 4000000 in
theorem c_X12_readCond_d6 (l : Launch) (D : DD) (G : Nat → Nat) (a0 : Nat) (T : Tx) (b : Nat) (ga0 : G a0 = 30) : CE l D G yX12_readCond cX12_readCond 1 (some .boolean) 9 [.ref a0] (fun H => ((fI D H 11 a0 13).toInt = 6 ∧ (fI D H 11 a0 16).toInt + 3 ≤ (fI D H 11 a0 10).toInt) ∧ (RB D H a0 T b)) [(30, 10), (30, 12), (30, 16), (31, 0), (30, 13)] (xI (fun H r H1 => ((0 ≤ r.toInt ∧ r.toInt ≤ 1) ∧ (r.toInt = 1 → (fI D H1 11 a0 16).toInt - (fI D H 11 a0 16).toInt ≤ (fI D H1 11 a0 10).toInt - (fI D H 11 a0 10).toInt ∧ (fI D H1 11 a0 13).toInt = (fI D H 11 a0 13).toInt ∧ (fI D H 11 a0 10).toInt ≤ (fI D H1 11 a0 10).toInt) ∧ (r.toInt = 1 → Ex (Cs D H1 a0) (fI D H 11 a0 16).toInt.toNat (fI D H1 11 a0 16).toInt.toNat) ∧ Lq D H H1 a0) ∧ (RR D H1 a0 T (conF T (atm T 0) b) r))) := by
  refine enter (by decide) (Nat.le_of_ble_eq_true rfl) ?_
  intro p e s m args below meth c ls Q hA hQ C hr hO hpre hl
  have hx := C.1
  have hb := C.2.1
  have S : Sd D G [(30, 10), (30, 12), (30, 16), (31, 0), (30, 13)] s.heap s.heap [] := Sd.start hO
  have hl : lv_has ls 1 [(0, .ref a0)] := hl
  have rs0 : 0 ≤ (fI D s.heap 11 a0 16).toInt ∧ (fI D s.heap 11 a0 16).toInt ≤ 400 := hO.rng ga0 rfl (by decide) rfl
  have rp0 : 0 ≤ (fI D s.heap 11 a0 10).toInt ∧ (fI D s.heap 11 a0 10).toInt ≤ 400 := hO.rng ga0 rfl (by decide) rfl
  obtain ⟨hpre, hf⟩ := hpre
  have ts0 := hf
  have hT : T.2 ≤ 400 := ts0.le hO ga0
  have tk0 : Lq D s.heap s.heap a0 := Lq.refl
  refine lv_aload_n hx hb dX12_readCond_0 rfl (lv_at hl 0 rfl) ?_
  refine callV_Ei C S (c_X12_readAllOf_d6 l D G a0 T b ga0) kV_X12_216 ga0 (⟨hpre, ts0⟩) (by decide +kernel) dX12_readCond_1 hl.1 rfl rfl (by decide) cd_X12_readAllOf ⟨Nat.le_of_ble_eq_true rfl, Nat.le_of_ble_eq_true rfl, Nat.le_of_ble_eq_true rfl, Nat.le_of_ble_eq_true rfl, Nat.le_of_ble_eq_true rfl⟩ (fun v1 H1 L1 S1 K1 q1 => ?_)
  obtain ⟨q1, fq1⟩ := q1
  obtain ⟨q1, sa1, sx1, tq1⟩ := q1
  have lq1 : Lq D s.heap H1 a0 := tq1
  have tk1 : Lq D s.heap H1 a0 := tk0.trans lq1
  rcases fq1 with ⟨c1, y1, z1, ts1⟩ | ⟨e1, y1, z1, wr1⟩
  · skip
    have k_0 : (0 : Int32).toInt = 0 := by decide
    refine lv_if_ne (tgt := 9) hx hb dX12_readCond_4 (by decide) (fun c2 => ?_) (fun c2 => ?_)
    · have b2 : ¬ v1.toInt = (0 : Int32).toInt := fun z9 => c2 (i_eq.mpr z9)
      have Lp9 : ∀ (n : Nat) (b_9 : Nat) (H_9 : Heap) (L_9 : List Loc) (ls : Array Slot), (Sd D G [(30, 10), (30, 12), (30, 16), (31, 0), (30, 13)] s.heap H_9 L_9) → (Ex (Cs D H_9 a0) (fI D s.heap 11 a0 16).toInt.toNat (fI D H_9 11 a0 16).toInt.toNat) → ((fI D H_9 11 a0 16).toInt - (fI D s.heap 11 a0 16).toInt ≤ (fI D H_9 11 a0 10).toInt - (fI D s.heap 11 a0 10).toInt ∧ (fI D H_9 11 a0 13).toInt = (fI D s.heap 11 a0 13).toInt ∧ (fI D s.heap 11 a0 10).toInt ≤ (fI D H_9 11 a0 10).toInt) → (RB D H_9 a0 T b_9) → (conF T (atm T 0) b = conT T (atm T 0) b_9) → (Lq D s.heap H_9 a0) → 401 - (fI D H_9 11 a0 10).toInt ≤ (n : Int) → lv_has ls 1 [(0, .ref a0)] → W p l e (rmU 9 0 0) s m args below meth c H_9 L_9 0 0 Q (F0 m 9 ls []) := by
        intro n
        induction n with
        | zero =>
          intro b_9 H_9 L_9 ls S_9 u9_0 u9_1 u9_2 u9_3 u9_4 hn hl
          have rz : 0 ≤ (fI D H_9 11 a0 10).toInt ∧ (fI D H_9 11 a0 10).toInt ≤ 400 := S_9.1.rng ga0 rfl (by decide) rfl
          exact absurd hn (by omega)
        | succ n ih9 =>
          intro b_9 H_9 L_9 ls S_9 u9_0 u9_1 u9_2 u9_3 u9_4 hn hl
          have rs9 : 0 ≤ (fI D H_9 11 a0 16).toInt ∧ (fI D H_9 11 a0 16).toInt ≤ 400 := S_9.1.rng ga0 rfl (by decide) rfl
          have rp9 : 0 ≤ (fI D H_9 11 a0 10).toInt ∧ (fI D H_9 11 a0 10).toInt ≤ 400 := S_9.1.rng ga0 rfl (by decide) rfl
          refine lv_aload_n hx hb dX12_readCond_9 rfl (lv_at hl 0 rfl) ?_
          refine q_lds C ks_X12_219 dX12_readCond_10 (fun a3 ha3 wa3 => ?_)
          refine callV_Ei C S_9 (c_X12_passes_f l D G a0 a3 2 w_or T b_9 ga0 ha3 (Wc.of wa3 kw_or) (by decide)) kV_X12_120 ga0 (⟨trivial, u9_2⟩) (by decide +kernel) dX12_readCond_12 hl.1 rfl rfl (by decide) cd_X12_passes ⟨Nat.le_of_ble_eq_true rfl, Nat.le_of_ble_eq_true rfl, Nat.le_of_ble_eq_true rfl, Nat.le_of_ble_eq_true rfl, Nat.le_of_ble_eq_true rfl⟩ (fun v4 H4 L4 S4 K4 q4 => ?_)
          obtain ⟨q4, fq4⟩ := q4
          have y4_13 : (fI D H4 11 a0 13).toInt = (fI D H_9 11 a0 13).toInt := congrArg Int32.toInt (K4.fI ga0 rfl (by decide) (by decide +kernel))
          have y4_16 : (fI D H4 11 a0 16).toInt = (fI D H_9 11 a0 16).toInt := congrArg Int32.toInt (K4.fI ga0 rfl (by decide) (by decide +kernel))
          have lq4 : Lq D H_9 H4 a0 := Lq.keep S_9.1 ga0 K4 (by decide +kernel) (by decide +kernel) (by decide +kernel)
          have tk4 : Lq D s.heap H4 a0 := u9_4.trans lq4
          rcases fq4 with ⟨z4, y4, ts4, wr4⟩ | ⟨z4, y4, ts4, wr4⟩
          · skip
            refine lv_if_eq (tgt := 37) hx hb dX12_readCond_15 (by decide) (fun c5 => ?_) (fun c5 => ?_)
            · have b5 : v4.toInt = (0 : Int32).toInt := i_eq.mp c5
              exact absurd b5 (by omega)
            · have b5 : ¬ v4.toInt = (0 : Int32).toInt := fun z9 => c5 (i_eq.mpr z9)
              refine lv_aload_n hx hb dX12_readCond_18 rfl (lv_at hl 0 rfl) ?_
              have rs9 : 0 ≤ (fI D H4 11 a0 16).toInt ∧ (fI D H4 11 a0 16).toInt ≤ 400 := S4.1.rng ga0 rfl (by decide) rfl
              have rp9 : 0 ≤ (fI D H4 11 a0 10).toInt ∧ (fI D H4 11 a0 10).toInt ≤ 400 := S4.1.rng ga0 rfl (by decide) rfl
              refine callV_Ei C S4 (c_X12_readAllOf_d6 l D G a0 T (nx T b_9) ga0) kV_X12_216 ga0 (⟨⟨by omega, by omega⟩, ts4⟩) (by decide +kernel) dX12_readCond_19 hl.1 rfl rfl (by decide) cd_X12_readAllOf ⟨Nat.le_of_ble_eq_true rfl, Nat.le_of_ble_eq_true rfl, Nat.le_of_ble_eq_true rfl, Nat.le_of_ble_eq_true rfl, Nat.le_of_ble_eq_true rfl⟩ (fun v6 H6 L6 S6 K6 q6 => ?_)
              obtain ⟨q6, fq6⟩ := q6
              obtain ⟨q6, sa6, sx6, tq6⟩ := q6
              have lq6 : Lq D H4 H6 a0 := tq6
              have tk6 : Lq D s.heap H6 a0 := tk4.trans lq6
              rcases fq6 with ⟨c6, y6, z6, ts6⟩ | ⟨e6, y6, z6, wr6⟩
              · skip
                refine lv_if_ne (tgt := 27) hx hb dX12_readCond_22 (by decide) (fun c7 => ?_) (fun c7 => ?_)
                · have b7 : ¬ v6.toInt = (0 : Int32).toInt := fun z9 => c7 (i_eq.mpr z9)
                  refine lv_aload_n hx hb dX12_readCond_27 rfl (lv_at hl 0 rfl) ?_
                  refine lv_bipush (v := 17) hx hb dX12_readCond_28 (by decide) ?_
                  refine lv_iconst (v := 0) hx hb dX12_readCond_30 (by decide) ?_
                  have rs9 : 0 ≤ (fI D H6 11 a0 16).toInt ∧ (fI D H6 11 a0 16).toInt ≤ 400 := S6.1.rng ga0 rfl (by decide) rfl
                  have rp9 : 0 ≤ (fI D H6 11 a0 10).toInt ∧ (fI D H6 11 a0 10).toInt ≤ 400 := S6.1.rng ga0 rfl (by decide) rfl
                  have k_17 : (17 : Int32).toInt = 17 := by decide
                  refine callV_Ev C S6 (c_X12_emits l D G a0 (17 : Int32) (0 : Int32) ga0) kV_X12_185 ga0 (by omega) (by decide +kernel) dX12_readCond_31 hl.1 rfl rfl (by decide) cd_X12_emits ⟨Nat.le_of_ble_eq_true rfl, Nat.le_of_ble_eq_true rfl, Nat.le_of_ble_eq_true rfl, Nat.le_of_ble_eq_true rfl, Nat.le_of_ble_eq_true rfl⟩ (fun H8 L8 S8 K8 q8 => ?_)
                  obtain ⟨qa8, qb8, tq8⟩ := q8
                  have y8_10 : (fI D H8 11 a0 10).toInt = (fI D H6 11 a0 10).toInt := congrArg Int32.toInt (K8.fI ga0 rfl (by decide) (by decide +kernel))
                  have y8_12 : (fI D H8 11 a0 12).toInt = (fI D H6 11 a0 12).toInt := congrArg Int32.toInt (K8.fI ga0 rfl (by decide) (by decide +kernel))
                  have y8_13 : (fI D H8 11 a0 13).toInt = (fI D H6 11 a0 13).toInt := congrArg Int32.toInt (K8.fI ga0 rfl (by decide) (by decide +kernel))
                  have lq8 : Lq D H6 H8 a0 := tq8
                  have tk8 : Lq D s.heap H8 a0 := tk6.trans lq8
                  have rb8 := ts6.keep S6.1 ga0 K8 (by decide +kernel)
                  refine lv_goto (tgt := 9) hx hb dX12_readCond_34 (by decide) ?_
                  have e9 : Ex (Cs D H8 a0) (fI D s.heap 11 a0 16).toInt.toNat (fI D H8 11 a0 16).toInt.toNat := (Ex.bin (((lq4.trans lq6).trans lq8).ex u9_0 (by omega)) ((lq8.ex (sx6 (by omega)) (by omega)).at (i' := (fI D H_9 11 a0 16).toInt.toNat) (by omega) rfl) (by rw [qb8]; decide) rfl).at (by omega) (by omega)
                  exact ih9 c6 H8 L8 ls S8 e9 (by omega) rb8 (u9_3.trans ((conT_t y4).trans (con_in (atm_on 0) hT y6))) tk8 (by omega) (lv_sub hl [0] rfl)
                · have b7 : v6.toInt = (0 : Int32).toInt := i_eq.mp c7
                  exact absurd b7 (by omega)
              · skip
                refine lv_if_ne (tgt := 27) hx hb dX12_readCond_22 (by decide) (fun c9 => ?_) (fun c9 => ?_)
                · have b9 : ¬ v6.toInt = (0 : Int32).toInt := fun z9 => c9 (i_eq.mpr z9)
                  exact absurd b9 (by omega)
                · have b9 : v6.toInt = (0 : Int32).toInt := i_eq.mp c9
                  refine lv_iconst (v := 0) hx hb dX12_readCond_25 (by decide) ?_
                  exact retE_z hQ C S6 hr dX12_readCond_26 (z01 (by omega) (by omega)) (⟨⟨by omega, fun h9 => absurd h9 (by decide), fun h9 => absurd h9 (by decide), tk6⟩, RR.no (u9_3.trans ((conT_t y4).trans (con_no (atm_on 0) hT y6))) (by omega) wr6⟩)
          · skip
            refine lv_if_eq (tgt := 37) hx hb dX12_readCond_15 (by decide) (fun c10 => ?_) (fun c10 => ?_)
            · have b10 : v4.toInt = (0 : Int32).toInt := i_eq.mp c10
              refine lv_iconst (v := 1) hx hb dX12_readCond_37 (by decide) ?_
              have k_1 : (1 : Int32).toInt = 1 := by decide
              exact retE_z hQ C S4 hr dX12_readCond_38 (z01 (by omega) (by omega)) (⟨⟨by omega, fun _ => by omega, fun _ => (lq4.ex u9_0 (by omega)).at (by omega) (by omega), tk4⟩, RR.ok (u9_3.trans (conT_f y4)) (by omega) ts4⟩)
            · have b10 : ¬ v4.toInt = (0 : Int32).toInt := fun z9 => c10 (i_eq.mpr z9)
              exact absurd b10 (by omega)
      have ex0 := sx1 (by omega)
      have rn : 0 ≤ (fI D H1 11 a0 10).toInt ∧ (fI D H1 11 a0 10).toInt ≤ 400 := S1.1.rng ga0 rfl (by decide) rfl
      exact Lp9 402 c1 H1 L1 ls S1 (ex0.at (by omega) rfl) (by omega) ts1 (con_in (atm_on 0) hT y1) tk1  (by omega) (lv_sub hl [0] rfl)
    · have b2 : v1.toInt = (0 : Int32).toInt := i_eq.mp c2
      exact absurd b2 (by omega)
  · skip
    have k_0 : (0 : Int32).toInt = 0 := by decide
    refine lv_if_ne (tgt := 9) hx hb dX12_readCond_4 (by decide) (fun c11 => ?_) (fun c11 => ?_)
    · have b11 : ¬ v1.toInt = (0 : Int32).toInt := fun z9 => c11 (i_eq.mpr z9)
      exact absurd b11 (by omega)
    · have b11 : v1.toInt = (0 : Int32).toInt := i_eq.mp c11
      refine lv_iconst (v := 0) hx hb dX12_readCond_7 (by decide) ?_
      exact retE_z hQ C S1 hr dX12_readCond_8 (z01 (by omega) (by omega)) (⟨⟨by omega, fun h9 => absurd h9 (by decide), fun h9 => absurd h9 (by decide), tk1⟩, RR.no (con_no (atm_on 0) hT y1) (by omega) wr1⟩)

set_option maxRecDepth 100000 in
set_option maxHeartbeats 4000000 in
theorem c_X12_readAtom_d5 (l : Launch) (D : DD) (G : Nat → Nat) (a0 : Nat) (T : Tx) (b : Nat) (ga0 : G a0 = 30) : CE l D G yX12_readAtom cX12_readAtom 2 (some .boolean) 10 [.ref a0] (fun H => ((fI D H 11 a0 13).toInt = 5 ∧ (fI D H 11 a0 16).toInt + 3 ≤ (fI D H 11 a0 10).toInt) ∧ (RB D H a0 T b)) [(30, 10), (30, 12), (30, 16), (31, 0), (30, 13)] (xI (fun H r H1 => ((0 ≤ r.toInt ∧ r.toInt ≤ 1) ∧ (r.toInt = 1 → (fI D H1 11 a0 16).toInt - (fI D H 11 a0 16).toInt ≤ (fI D H1 11 a0 10).toInt - (fI D H 11 a0 10).toInt ∧ (fI D H1 11 a0 13).toInt = (fI D H 11 a0 13).toInt ∧ (fI D H 11 a0 10).toInt ≤ (fI D H1 11 a0 10).toInt) ∧ (r.toInt = 1 → Ex (Cs D H1 a0) (fI D H 11 a0 16).toInt.toNat (fI D H1 11 a0 16).toInt.toNat) ∧ Lq D H H1 a0) ∧ (RR D H1 a0 T (atm T 1 b) r))) := by
  refine enter (by decide) (Nat.le_of_ble_eq_true rfl) ?_
  intro p e s m args below meth c ls Q hA hQ C hr hO hpre hl
  have hx := C.1
  have hb := C.2.1
  have S : Sd D G [(30, 10), (30, 12), (30, 16), (31, 0), (30, 13)] s.heap s.heap [] := Sd.start hO
  have hl : lv_has ls 2 [(0, .ref a0)] := hl
  have rs0 : 0 ≤ (fI D s.heap 11 a0 16).toInt ∧ (fI D s.heap 11 a0 16).toInt ≤ 400 := hO.rng ga0 rfl (by decide) rfl
  have rp0 : 0 ≤ (fI D s.heap 11 a0 10).toInt ∧ (fI D s.heap 11 a0 10).toInt ≤ 400 := hO.rng ga0 rfl (by decide) rfl
  obtain ⟨hpre, hf⟩ := hpre
  have ts0 := hf
  have hT : T.2 ≤ 400 := ts0.le hO ga0
  have tk0 : Lq D s.heap s.heap a0 := Lq.refl
  refine lv_aload_n hx hb dX12_readAtom_0 rfl (lv_at hl 0 rfl) ?_
  refine lv_bipush (v := 40) hx hb dX12_readAtom_1 (by decide) ?_
  have k_40 : (40 : Int32).toInt = 40 := by decide
  refine callV_Ei C S (c_X12_sign_f l D G a0 (40 : Int32) 40 T b ga0 (by omega) (by decide)) kV_X12_193 ga0 (⟨trivial, ts0⟩) (by decide +kernel) dX12_readAtom_3 hl.1 rfl rfl (by decide) cd_X12_sign ⟨Nat.le_of_ble_eq_true rfl, Nat.le_of_ble_eq_true rfl, Nat.le_of_ble_eq_true rfl, Nat.le_of_ble_eq_true rfl, Nat.le_of_ble_eq_true rfl⟩ (fun v1 H1 L1 S1 K1 q1 => ?_)
  obtain ⟨q1, fq1⟩ := q1
  have y1_13 : (fI D H1 11 a0 13).toInt = (fI D s.heap 11 a0 13).toInt := congrArg Int32.toInt (K1.fI ga0 rfl (by decide) (by decide +kernel))
  have y1_16 : (fI D H1 11 a0 16).toInt = (fI D s.heap 11 a0 16).toInt := congrArg Int32.toInt (K1.fI ga0 rfl (by decide) (by decide +kernel))
  have lq1 : Lq D s.heap H1 a0 := Lq.keep S.1 ga0 K1 (by decide +kernel) (by decide +kernel) (by decide +kernel)
  have tk1 : Lq D s.heap H1 a0 := tk0.trans lq1
  rcases fq1 with ⟨z1, y1, ts1, wr1⟩ | ⟨z1, y1, ts1, wr1⟩
  · skip
    have k_0 : (0 : Int32).toInt = 0 := by decide
    refine lv_if_eq (tgt := 56) hx hb dX12_readAtom_6 (by decide) (fun c2 => ?_) (fun c2 => ?_)
    · have b2 : v1.toInt = (0 : Int32).toInt := i_eq.mp c2
      exact absurd b2 (by omega)
    · have b2 : ¬ v1.toInt = (0 : Int32).toInt := fun z9 => c2 (i_eq.mpr z9)
      have yn3 : isW T b w_not = false := isS_nW y1
      refine lv_aload_n hx hb dX12_readAtom_9 rfl (lv_at hl 0 rfl) ?_
      have dd : (fI D H1 11 a0 13).toInt = 5 := by omega
      refine q_gi (T := TX12) C S1.1 ga0 13 kF_X12_197 dX12_readAtom_10 rfl rfl (by decide) rfl (by decide) rfl ?_
      have r4 : 0 ≤ (fI D H1 11 a0 13).toInt ∧ (fI D H1 11 a0 13).toInt ≤ 6 := S1.1.rng ga0 rfl (by decide) rfl
      refine lv_bipush (v := 6) hx hb dX12_readAtom_13 (by decide) ?_
      have k_6 : (6 : Int32).toInt = 6 := by decide
      refine lv_icmp_ne (tgt := 20) hx hb dX12_readAtom_15 (by decide) (fun c5 => ?_) (fun c5 => ?_)
      · have b5 : ¬ (fI D H1 11 a0 13).toInt = (6 : Int32).toInt := fun z9 => c5 (i_eq.mpr z9)
        refine lv_aload_n hx hb dX12_readAtom_20 rfl (lv_at hl 0 rfl) ?_
        refine lv_dup hx hb dX12_readAtom_21 rfl ?_
        refine q_gi (T := TX12) C S1.1 ga0 13 kF_X12_197 dX12_readAtom_22 rfl rfl (by decide) rfl (by decide) rfl ?_
        refine lv_iconst (v := 1) hx hb dX12_readAtom_25 (by decide) ?_
        have k_1 : (1 : Int32).toInt = 1 := by decide
        refine lv_iadd hx hb dX12_readAtom_26 ?_
        refine lv_topi (fun v6 ev6 => ?_)
        have f7 : v6.toInt = (fI D H1 11 a0 13).toInt + (1 : Int32).toInt := by rw [ev6]; exact i_add (by omega) (by omega)
        refine q_put (T := TX12) C S1 ga0 13 kF_X12_197 dX12_readAtom_27 rfl rfl (by decide) (by decide) rfl rfl rfl rfl rfl (vok_i rfl (by omega) (by omega)) (by decide +kernel) (fun H8 L8 S8 P8 => ?_)
        have y8_10 : (fI D H8 11 a0 10).toInt = (fI D H1 11 a0 10).toInt := congrArg Int32.toInt (Pt.o P8 (by decide) (by decide))
        have y8_12 : (fI D H8 11 a0 12).toInt = (fI D H1 11 a0 12).toInt := congrArg Int32.toInt (Pt.o P8 (by decide) (by decide))
        have y8_13 : (fI D H8 11 a0 13).toInt = v6.toInt := congrArg Int32.toInt (Pt.i P8)
        have y8_16 : (fI D H8 11 a0 16).toInt = (fI D H1 11 a0 16).toInt := congrArg Int32.toInt (Pt.o P8 (by decide) (by decide))
        have lq8 : Lq D H1 H8 a0 := Lq.put S1.1 ga0 P8 (by decide) (by decide)
        have tk8 : Lq D s.heap H8 a0 := tk1.trans lq8
        have rb8 := ts1.put S1.1 ga0 P8 (by decide) (by decide) (by decide)
        have bg8 : (fI D H8 11 a0 12).toInt = ((b : Nat) : Int) := by rw [Pt.o P8 (by decide) (by decide)]; exact wr1
        refine lv_aload_n hx hb dX12_readAtom_30 rfl (lv_at hl 0 rfl) ?_
        have rs9 : 0 ≤ (fI D H8 11 a0 16).toInt ∧ (fI D H8 11 a0 16).toInt ≤ 400 := S8.1.rng ga0 rfl (by decide) rfl
        have rp9 : 0 ≤ (fI D H8 11 a0 10).toInt ∧ (fI D H8 11 a0 10).toInt ≤ 400 := S8.1.rng ga0 rfl (by decide) rfl
        refine callV_Ei C S8 (c_X12_readCond_d6 l D G a0 T (nx T b) ga0) kV_X12_200 ga0 (⟨⟨by omega, by omega⟩, rb8⟩) (by decide +kernel) dX12_readAtom_31 hl.1 rfl rfl (by decide) cd_X12_readCond ⟨Nat.le_of_ble_eq_true rfl, Nat.le_of_ble_eq_true rfl, Nat.le_of_ble_eq_true rfl, Nat.le_of_ble_eq_true rfl, Nat.le_of_ble_eq_true rfl⟩ (fun v9 H9 L9 S9 K9 q9 => ?_)
        obtain ⟨q9, fq9⟩ := q9
        obtain ⟨q9, sa9, sx9, tq9⟩ := q9
        have lq9 : Lq D H8 H9 a0 := tq9
        have tk9 : Lq D s.heap H9 a0 := tk8.trans lq9
        rcases fq9 with ⟨c9, y9, z9, ts9⟩ | ⟨e9, y9, z9, wr9⟩
        · skip
          refine lv_if_ne (tgt := 39) hx hb dX12_readAtom_34 (by decide) (fun c10 => ?_) (fun c10 => ?_)
          · have b10 : ¬ v9.toInt = (0 : Int32).toInt := fun z9 => c10 (i_eq.mpr z9)
            refine lv_aload_n hx hb dX12_readAtom_39 rfl (lv_at hl 0 rfl) ?_
            refine lv_dup hx hb dX12_readAtom_40 rfl ?_
            refine q_gi (T := TX12) C S9.1 ga0 13 kF_X12_197 dX12_readAtom_41 rfl rfl (by decide) rfl (by decide) rfl ?_
            have r11 : 0 ≤ (fI D H9 11 a0 13).toInt ∧ (fI D H9 11 a0 13).toInt ≤ 6 := S9.1.rng ga0 rfl (by decide) rfl
            refine lv_iconst (v := 1) hx hb dX12_readAtom_44 (by decide) ?_
            refine lv_isub hx hb dX12_readAtom_45 ?_
            refine lv_topi (fun v12 ev12 => ?_)
            have f13 : v12.toInt = (fI D H9 11 a0 13).toInt - (1 : Int32).toInt := by rw [ev12]; exact i_sub (by omega) (by omega)
            refine q_put (T := TX12) C S9 ga0 13 kF_X12_197 dX12_readAtom_46 rfl rfl (by decide) (by decide) rfl rfl rfl rfl rfl (vok_i rfl (by omega) (by omega)) (by decide +kernel) (fun H14 L14 S14 P14 => ?_)
            have y14_10 : (fI D H14 11 a0 10).toInt = (fI D H9 11 a0 10).toInt := congrArg Int32.toInt (Pt.o P14 (by decide) (by decide))
            have y14_12 : (fI D H14 11 a0 12).toInt = (fI D H9 11 a0 12).toInt := congrArg Int32.toInt (Pt.o P14 (by decide) (by decide))
            have y14_13 : (fI D H14 11 a0 13).toInt = v12.toInt := congrArg Int32.toInt (Pt.i P14)
            have y14_16 : (fI D H14 11 a0 16).toInt = (fI D H9 11 a0 16).toInt := congrArg Int32.toInt (Pt.o P14 (by decide) (by decide))
            have lq14 : Lq D H9 H14 a0 := Lq.put S9.1 ga0 P14 (by decide) (by decide)
            have tk14 : Lq D s.heap H14 a0 := tk9.trans lq14
            have rb14 := ts9.put S9.1 ga0 P14 (by decide) (by decide) (by decide)
            have rs9 : 0 ≤ (fI D H14 11 a0 16).toInt ∧ (fI D H14 11 a0 16).toInt ≤ 400 := S14.1.rng ga0 rfl (by decide) rfl
            have rp9 : 0 ≤ (fI D H14 11 a0 10).toInt ∧ (fI D H14 11 a0 10).toInt ≤ 400 := S14.1.rng ga0 rfl (by decide) rfl
            refine lv_aload_n hx hb dX12_readAtom_49 rfl (lv_at hl 0 rfl) ?_
            refine lv_bipush (v := 41) hx hb dX12_readAtom_50 (by decide) ?_
            have k_41 : (41 : Int32).toInt = 41 := by decide
            refine callV_Ei C S14 (c_X12_sign_f l D G a0 (41 : Int32) 41 T c9 ga0 (by omega) (by decide)) kV_X12_193 ga0 (⟨trivial, rb14⟩) (by decide +kernel) dX12_readAtom_52 hl.1 rfl rfl (by decide) cd_X12_sign ⟨Nat.le_of_ble_eq_true rfl, Nat.le_of_ble_eq_true rfl, Nat.le_of_ble_eq_true rfl, Nat.le_of_ble_eq_true rfl, Nat.le_of_ble_eq_true rfl⟩ (fun v15 H15 L15 S15 K15 q15 => ?_)
            obtain ⟨q15, fq15⟩ := q15
            have y15_13 : (fI D H15 11 a0 13).toInt = (fI D H14 11 a0 13).toInt := congrArg Int32.toInt (K15.fI ga0 rfl (by decide) (by decide +kernel))
            have y15_16 : (fI D H15 11 a0 16).toInt = (fI D H14 11 a0 16).toInt := congrArg Int32.toInt (K15.fI ga0 rfl (by decide) (by decide +kernel))
            have lq15 : Lq D H14 H15 a0 := Lq.keep S14.1 ga0 K15 (by decide +kernel) (by decide +kernel) (by decide +kernel)
            have tk15 : Lq D s.heap H15 a0 := tk14.trans lq15
            rcases fq15 with ⟨z15, y15, ts15, wr15⟩ | ⟨z15, y15, ts15, wr15⟩
            · skip
              exact retE_z hQ C S15 hr dX12_readAtom_55 (z01 (by omega) (by omega)) (⟨⟨by omega, fun _ => by omega, fun _ => ((lq14.trans lq15).ex (sx9 (by omega)) (by omega)).at (by omega) (by omega), tk15⟩, RR.ok (by rw [atm_s]; simp [clo, tkS, tlF, cmpF, y1, yn3, y9, y15]) (by omega) ts15⟩)
            · skip
              exact retE_z hQ C S15 hr dX12_readAtom_55 (z01 (by omega) (by omega)) (⟨⟨by omega, fun _ => by omega, fun _ => ((lq14.trans lq15).ex (sx9 (by omega)) (by omega)).at (by omega) (by omega), tk15⟩, RR.no (by rw [atm_s]; simp [clo, tkS, tlF, cmpF, y1, yn3, y9, y15]) (by omega) wr15⟩)
          · have b10 : v9.toInt = (0 : Int32).toInt := i_eq.mp c10
            exact absurd b10 (by omega)
        · skip
          refine lv_if_ne (tgt := 39) hx hb dX12_readAtom_34 (by decide) (fun c16 => ?_) (fun c16 => ?_)
          · have b16 : ¬ v9.toInt = (0 : Int32).toInt := fun z9 => c16 (i_eq.mpr z9)
            exact absurd b16 (by omega)
          · have b16 : v9.toInt = (0 : Int32).toInt := i_eq.mp c16
            refine lv_iconst (v := 0) hx hb dX12_readAtom_37 (by decide) ?_
            exact retE_z hQ C S9 hr dX12_readAtom_38 (z01 (by omega) (by omega)) (⟨⟨by omega, fun h9 => absurd h9 (by decide), fun h9 => absurd h9 (by decide), tk9⟩, RR.no (by rw [atm_s]; simp [clo, tkS, tlF, cmpF, y1, yn3, y9]) (by omega) wr9⟩)
      · have b5 : (fI D H1 11 a0 13).toInt = (6 : Int32).toInt := i_eq.mp c5
        exact absurd b5 (by omega)
  · skip
    have k_0 : (0 : Int32).toInt = 0 := by decide
    refine lv_if_eq (tgt := 56) hx hb dX12_readAtom_6 (by decide) (fun c17 => ?_) (fun c17 => ?_)
    · have b17 : v1.toInt = (0 : Int32).toInt := i_eq.mp c17
      refine lv_aload_n hx hb dX12_readAtom_56 rfl (lv_at hl 0 rfl) ?_
      refine q_lds C ks_X12_203 dX12_readAtom_57 (fun a18 ha18 wa18 => ?_)
      refine callV_Ei C S1 (c_X12_passes_f l D G a0 a18 3 w_not T b ga0 ha18 (Wc.of wa18 kw_not) (by decide)) kV_X12_120 ga0 (⟨trivial, ts1⟩) (by decide +kernel) dX12_readAtom_59 hl.1 rfl rfl (by decide) cd_X12_passes ⟨Nat.le_of_ble_eq_true rfl, Nat.le_of_ble_eq_true rfl, Nat.le_of_ble_eq_true rfl, Nat.le_of_ble_eq_true rfl, Nat.le_of_ble_eq_true rfl⟩ (fun v19 H19 L19 S19 K19 q19 => ?_)
      obtain ⟨q19, fq19⟩ := q19
      have y19_13 : (fI D H19 11 a0 13).toInt = (fI D H1 11 a0 13).toInt := congrArg Int32.toInt (K19.fI ga0 rfl (by decide) (by decide +kernel))
      have y19_16 : (fI D H19 11 a0 16).toInt = (fI D H1 11 a0 16).toInt := congrArg Int32.toInt (K19.fI ga0 rfl (by decide) (by decide +kernel))
      have lq19 : Lq D H1 H19 a0 := Lq.keep S1.1 ga0 K19 (by decide +kernel) (by decide +kernel) (by decide +kernel)
      have tk19 : Lq D s.heap H19 a0 := tk1.trans lq19
      rcases fq19 with ⟨z19, y19, ts19, wr19⟩ | ⟨z19, y19, ts19, wr19⟩
      · skip
        refine lv_if_eq (tgt := 114) hx hb dX12_readAtom_62 (by decide) (fun c20 => ?_) (fun c20 => ?_)
        · have b20 : v19.toInt = (0 : Int32).toInt := i_eq.mp c20
          exact absurd b20 (by omega)
        · have b20 : ¬ v19.toInt = (0 : Int32).toInt := fun z9 => c20 (i_eq.mpr z9)
          refine lv_aload_n hx hb dX12_readAtom_65 rfl (lv_at hl 0 rfl) ?_
          have dd : (fI D H19 11 a0 13).toInt = 5 := by omega
          refine q_gi (T := TX12) C S19.1 ga0 13 kF_X12_197 dX12_readAtom_66 rfl rfl (by decide) rfl (by decide) rfl ?_
          have r21 : 0 ≤ (fI D H19 11 a0 13).toInt ∧ (fI D H19 11 a0 13).toInt ≤ 6 := S19.1.rng ga0 rfl (by decide) rfl
          refine lv_bipush (v := 6) hx hb dX12_readAtom_69 (by decide) ?_
          have k_6 : (6 : Int32).toInt = 6 := by decide
          refine lv_icmp_ne (tgt := 76) hx hb dX12_readAtom_71 (by decide) (fun c22 => ?_) (fun c22 => ?_)
          · have b22 : ¬ (fI D H19 11 a0 13).toInt = (6 : Int32).toInt := fun z9 => c22 (i_eq.mpr z9)
            refine lv_aload_n hx hb dX12_readAtom_76 rfl (lv_at hl 0 rfl) ?_
            refine lv_dup hx hb dX12_readAtom_77 rfl ?_
            refine q_gi (T := TX12) C S19.1 ga0 13 kF_X12_197 dX12_readAtom_78 rfl rfl (by decide) rfl (by decide) rfl ?_
            refine lv_iconst (v := 1) hx hb dX12_readAtom_81 (by decide) ?_
            have k_1 : (1 : Int32).toInt = 1 := by decide
            refine lv_iadd hx hb dX12_readAtom_82 ?_
            refine lv_topi (fun v23 ev23 => ?_)
            have f24 : v23.toInt = (fI D H19 11 a0 13).toInt + (1 : Int32).toInt := by rw [ev23]; exact i_add (by omega) (by omega)
            refine q_put (T := TX12) C S19 ga0 13 kF_X12_197 dX12_readAtom_83 rfl rfl (by decide) (by decide) rfl rfl rfl rfl rfl (vok_i rfl (by omega) (by omega)) (by decide +kernel) (fun H25 L25 S25 P25 => ?_)
            have y25_10 : (fI D H25 11 a0 10).toInt = (fI D H19 11 a0 10).toInt := congrArg Int32.toInt (Pt.o P25 (by decide) (by decide))
            have y25_12 : (fI D H25 11 a0 12).toInt = (fI D H19 11 a0 12).toInt := congrArg Int32.toInt (Pt.o P25 (by decide) (by decide))
            have y25_13 : (fI D H25 11 a0 13).toInt = v23.toInt := congrArg Int32.toInt (Pt.i P25)
            have y25_16 : (fI D H25 11 a0 16).toInt = (fI D H19 11 a0 16).toInt := congrArg Int32.toInt (Pt.o P25 (by decide) (by decide))
            have lq25 : Lq D H19 H25 a0 := Lq.put S19.1 ga0 P25 (by decide) (by decide)
            have tk25 : Lq D s.heap H25 a0 := tk19.trans lq25
            have rb25 := ts19.put S19.1 ga0 P25 (by decide) (by decide) (by decide)
            have bg25 : (fI D H25 11 a0 12).toInt = ((b : Nat) : Int) := by rw [Pt.o P25 (by decide) (by decide)]; exact wr19
            refine lv_aload_n hx hb dX12_readAtom_86 rfl (lv_at hl 0 rfl) ?_
            have rs9 : 0 ≤ (fI D H25 11 a0 16).toInt ∧ (fI D H25 11 a0 16).toInt ≤ 400 := S25.1.rng ga0 rfl (by decide) rfl
            have rp9 : 0 ≤ (fI D H25 11 a0 10).toInt ∧ (fI D H25 11 a0 10).toInt ≤ 400 := S25.1.rng ga0 rfl (by decide) rfl
            refine callV_Ei C S25 (c_X12_readAtom_d6 l D G a0 T (nx T b) ga0) kV_X12_205 ga0 (⟨⟨by omega, by omega⟩, rb25⟩) (by decide +kernel) dX12_readAtom_87 hl.1 rfl rfl (by decide) cd_X12_readAtom ⟨Nat.le_of_ble_eq_true rfl, Nat.le_of_ble_eq_true rfl, Nat.le_of_ble_eq_true rfl, Nat.le_of_ble_eq_true rfl, Nat.le_of_ble_eq_true rfl⟩ (fun v26 H26 L26 S26 K26 q26 => ?_)
            obtain ⟨q26, fq26⟩ := q26
            obtain ⟨q26, sa26, sx26, tq26⟩ := q26
            have lq26 : Lq D H25 H26 a0 := tq26
            have tk26 : Lq D s.heap H26 a0 := tk25.trans lq26
            rcases fq26 with ⟨c26, y26, z26, ts26⟩ | ⟨e26, y26, z26, wr26⟩
            · skip
              refine lv_if_ne (tgt := 95) hx hb dX12_readAtom_90 (by decide) (fun c27 => ?_) (fun c27 => ?_)
              · have b27 : ¬ v26.toInt = (0 : Int32).toInt := fun z9 => c27 (i_eq.mpr z9)
                refine lv_aload_n hx hb dX12_readAtom_95 rfl (lv_at hl 0 rfl) ?_
                refine lv_dup hx hb dX12_readAtom_96 rfl ?_
                refine q_gi (T := TX12) C S26.1 ga0 13 kF_X12_197 dX12_readAtom_97 rfl rfl (by decide) rfl (by decide) rfl ?_
                have r28 : 0 ≤ (fI D H26 11 a0 13).toInt ∧ (fI D H26 11 a0 13).toInt ≤ 6 := S26.1.rng ga0 rfl (by decide) rfl
                refine lv_iconst (v := 1) hx hb dX12_readAtom_100 (by decide) ?_
                refine lv_isub hx hb dX12_readAtom_101 ?_
                refine lv_topi (fun v29 ev29 => ?_)
                have f30 : v29.toInt = (fI D H26 11 a0 13).toInt - (1 : Int32).toInt := by rw [ev29]; exact i_sub (by omega) (by omega)
                refine q_put (T := TX12) C S26 ga0 13 kF_X12_197 dX12_readAtom_102 rfl rfl (by decide) (by decide) rfl rfl rfl rfl rfl (vok_i rfl (by omega) (by omega)) (by decide +kernel) (fun H31 L31 S31 P31 => ?_)
                have y31_10 : (fI D H31 11 a0 10).toInt = (fI D H26 11 a0 10).toInt := congrArg Int32.toInt (Pt.o P31 (by decide) (by decide))
                have y31_12 : (fI D H31 11 a0 12).toInt = (fI D H26 11 a0 12).toInt := congrArg Int32.toInt (Pt.o P31 (by decide) (by decide))
                have y31_13 : (fI D H31 11 a0 13).toInt = v29.toInt := congrArg Int32.toInt (Pt.i P31)
                have y31_16 : (fI D H31 11 a0 16).toInt = (fI D H26 11 a0 16).toInt := congrArg Int32.toInt (Pt.o P31 (by decide) (by decide))
                have lq31 : Lq D H26 H31 a0 := Lq.put S26.1 ga0 P31 (by decide) (by decide)
                have tk31 : Lq D s.heap H31 a0 := tk26.trans lq31
                have rb31 := ts26.put S26.1 ga0 P31 (by decide) (by decide) (by decide)
                refine lv_aload_n hx hb dX12_readAtom_105 rfl (lv_at hl 0 rfl) ?_
                refine lv_bipush (v := 15) hx hb dX12_readAtom_106 (by decide) ?_
                refine lv_iconst (v := 0) hx hb dX12_readAtom_108 (by decide) ?_
                have rs9 : 0 ≤ (fI D H31 11 a0 16).toInt ∧ (fI D H31 11 a0 16).toInt ≤ 400 := S31.1.rng ga0 rfl (by decide) rfl
                have rp9 : 0 ≤ (fI D H31 11 a0 10).toInt ∧ (fI D H31 11 a0 10).toInt ≤ 400 := S31.1.rng ga0 rfl (by decide) rfl
                have k_15 : (15 : Int32).toInt = 15 := by decide
                refine callV_Ev C S31 (c_X12_emits l D G a0 (15 : Int32) (0 : Int32) ga0) kV_X12_185 ga0 (by omega) (by decide +kernel) dX12_readAtom_109 hl.1 rfl rfl (by decide) cd_X12_emits ⟨Nat.le_of_ble_eq_true rfl, Nat.le_of_ble_eq_true rfl, Nat.le_of_ble_eq_true rfl, Nat.le_of_ble_eq_true rfl, Nat.le_of_ble_eq_true rfl⟩ (fun H32 L32 S32 K32 q32 => ?_)
                obtain ⟨qa32, qb32, tq32⟩ := q32
                have y32_10 : (fI D H32 11 a0 10).toInt = (fI D H31 11 a0 10).toInt := congrArg Int32.toInt (K32.fI ga0 rfl (by decide) (by decide +kernel))
                have y32_12 : (fI D H32 11 a0 12).toInt = (fI D H31 11 a0 12).toInt := congrArg Int32.toInt (K32.fI ga0 rfl (by decide) (by decide +kernel))
                have y32_13 : (fI D H32 11 a0 13).toInt = (fI D H31 11 a0 13).toInt := congrArg Int32.toInt (K32.fI ga0 rfl (by decide) (by decide +kernel))
                have lq32 : Lq D H31 H32 a0 := tq32
                have tk32 : Lq D s.heap H32 a0 := tk31.trans lq32
                have rb32 := rb31.keep S31.1 ga0 K32 (by decide +kernel)
                refine lv_iconst (v := 1) hx hb dX12_readAtom_112 (by decide) ?_
                exact retE_z hQ C S32 hr dX12_readAtom_113 (z01 (by omega) (by omega)) (⟨⟨by omega, fun _ => by omega, fun _ => (Ex.un (((lq31.trans lq32).ex (sx26 (by omega)) (by omega)).at (j' := (fI D H31 11 a0 16).toInt.toNat) rfl (by omega)) (by rw [qb32]; decide) rfl).at (by omega) (by omega), tk32⟩, RR.ok (by rw [atm_s]; simp [clo, tkS, tlF, cmpF, y1, y19, y26]) (by omega) rb32⟩)
              · have b27 : v26.toInt = (0 : Int32).toInt := i_eq.mp c27
                exact absurd b27 (by omega)
            · skip
              refine lv_if_ne (tgt := 95) hx hb dX12_readAtom_90 (by decide) (fun c33 => ?_) (fun c33 => ?_)
              · have b33 : ¬ v26.toInt = (0 : Int32).toInt := fun z9 => c33 (i_eq.mpr z9)
                exact absurd b33 (by omega)
              · have b33 : v26.toInt = (0 : Int32).toInt := i_eq.mp c33
                refine lv_iconst (v := 0) hx hb dX12_readAtom_93 (by decide) ?_
                exact retE_z hQ C S26 hr dX12_readAtom_94 (z01 (by omega) (by omega)) (⟨⟨by omega, fun h9 => absurd h9 (by decide), fun h9 => absurd h9 (by decide), tk26⟩, RR.no (by rw [atm_s]; simp [clo, tkS, tlF, cmpF, y1, y19, y26]) (by omega) wr26⟩)
          · have b22 : (fI D H19 11 a0 13).toInt = (6 : Int32).toInt := i_eq.mp c22
            exact absurd b22 (by omega)
      · skip
        refine lv_if_eq (tgt := 114) hx hb dX12_readAtom_62 (by decide) (fun c34 => ?_) (fun c34 => ?_)
        · have b34 : v19.toInt = (0 : Int32).toInt := i_eq.mp c34
          refine lv_aload_n hx hb dX12_readAtom_114 rfl (lv_at hl 0 rfl) ?_
          have rs9 : 0 ≤ (fI D H19 11 a0 16).toInt ∧ (fI D H19 11 a0 16).toInt ≤ 400 := S19.1.rng ga0 rfl (by decide) rfl
          have rp9 : 0 ≤ (fI D H19 11 a0 10).toInt ∧ (fI D H19 11 a0 10).toInt ≤ 400 := S19.1.rng ga0 rfl (by decide) rfl
          refine callV_Ei C S19 (c_X12_readTag l D G a0 T b ga0) kV_X12_208 ga0 (⟨by omega, ts19⟩) (by decide +kernel) dX12_readAtom_115 hl.1 rfl rfl (by decide) cd_X12_readTag ⟨Nat.le_of_ble_eq_true rfl, Nat.le_of_ble_eq_true rfl, Nat.le_of_ble_eq_true rfl, Nat.le_of_ble_eq_true rfl, Nat.le_of_ble_eq_true rfl⟩ (fun v35 H35 L35 S35 K35 q35 => ?_)
          obtain ⟨q35, fq35⟩ := q35
          obtain ⟨q35, sa35, sx35, tq35, sf35⟩ := q35
          have y35_13 : (fI D H35 11 a0 13).toInt = (fI D H19 11 a0 13).toInt := congrArg Int32.toInt (K35.fI ga0 rfl (by decide) (by decide +kernel))
          have lq35 : Lq D H19 H35 a0 := tq35
          have tk35 : Lq D s.heap H35 a0 := tk19.trans lq35
          rcases fq35 with ⟨z35, y35, ts35, wr35⟩ | ⟨z35, y35, ts35, wr35⟩
          · skip
            refine lv_if_eq (tgt := 123) hx hb dX12_readAtom_118 (by decide) (fun c36 => ?_) (fun c36 => ?_)
            · have b36 : v35.toInt = (0 : Int32).toInt := i_eq.mp c36
              exact absurd b36 (by omega)
            · have b36 : ¬ v35.toInt = (0 : Int32).toInt := fun z9 => c36 (i_eq.mpr z9)
              have yt37 : ¬ tru T b = -1 := tag_t y35
              refine lv_iconst (v := 1) hx hb dX12_readAtom_121 (by decide) ?_
              have k_1 : (1 : Int32).toInt = 1 := by decide
              exact retE_z hQ C S35 hr dX12_readAtom_122 (z01 (by omega) (by omega)) (⟨⟨by omega, fun _ => by omega, fun _ => (sx35 (by omega)).at (by omega) rfl, tk35⟩, RR.ok (by rw [atm_s]; simp [clo, tkS, tlF, cmpF, y1, y19, y35, yt37]) (by omega) ts35⟩)
          · skip
            refine lv_if_eq (tgt := 123) hx hb dX12_readAtom_118 (by decide) (fun c38 => ?_) (fun c38 => ?_)
            · have b38 : v35.toInt = (0 : Int32).toInt := i_eq.mp c38
              have yt39 : tru T b = -1 := tag_f y35
              refine lv_aload_n hx hb dX12_readAtom_123 rfl (lv_at hl 0 rfl) ?_
              have rs9 : 0 ≤ (fI D H35 11 a0 16).toInt ∧ (fI D H35 11 a0 16).toInt ≤ 400 := S35.1.rng ga0 rfl (by decide) rfl
              have rp9 : 0 ≤ (fI D H35 11 a0 10).toInt ∧ (fI D H35 11 a0 10).toInt ≤ 400 := S35.1.rng ga0 rfl (by decide) rfl
              refine callV_Ei C S35 (c_X12_readSum l D G a0 T b ga0) kV_X12_211 ga0 (⟨by omega, ts35⟩) (by decide +kernel) dX12_readAtom_124 hl.1 rfl rfl (by decide) cd_X12_readSum ⟨Nat.le_of_ble_eq_true rfl, Nat.le_of_ble_eq_true rfl, Nat.le_of_ble_eq_true rfl, Nat.le_of_ble_eq_true rfl, Nat.le_of_ble_eq_true rfl⟩ (fun v40 H40 L40 S40 K40 q40 => ?_)
              obtain ⟨q40, fq40⟩ := q40
              obtain ⟨q40, sa40, sx40, tq40⟩ := q40
              have y40_13 : (fI D H40 11 a0 13).toInt = (fI D H35 11 a0 13).toInt := congrArg Int32.toInt (K40.fI ga0 rfl (by decide) (by decide +kernel))
              have lq40 : Lq D H35 H40 a0 := tq40
              have tk40 : Lq D s.heap H40 a0 := tk35.trans lq40
              rcases fq40 with ⟨c40, y40, z40, ts40⟩ | ⟨e40, y40, z40, wr40⟩
              · skip
                refine lv_if_ne (tgt := 132) hx hb dX12_readAtom_127 (by decide) (fun c41 => ?_) (fun c41 => ?_)
                · have b41 : ¬ v40.toInt = (0 : Int32).toInt := fun z9 => c41 (i_eq.mpr z9)
                  refine lv_aload_n hx hb dX12_readAtom_132 rfl (lv_at hl 0 rfl) ?_
                  refine lv_bipush (v := 60) hx hb dX12_readAtom_133 (by decide) ?_
                  have k_60 : (60 : Int32).toInt = 60 := by decide
                  refine callV_Ei C S40 (c_X12_sign_f l D G a0 (60 : Int32) 60 T c40 ga0 (by omega) (by decide)) kV_X12_193 ga0 (⟨trivial, ts40⟩) (by decide +kernel) dX12_readAtom_135 hl.1 rfl rfl (by decide) cd_X12_sign ⟨Nat.le_of_ble_eq_true rfl, Nat.le_of_ble_eq_true rfl, Nat.le_of_ble_eq_true rfl, Nat.le_of_ble_eq_true rfl, Nat.le_of_ble_eq_true rfl⟩ (fun v42 H42 L42 S42 K42 q42 => ?_)
                  obtain ⟨q42, fq42⟩ := q42
                  have y42_13 : (fI D H42 11 a0 13).toInt = (fI D H40 11 a0 13).toInt := congrArg Int32.toInt (K42.fI ga0 rfl (by decide) (by decide +kernel))
                  have y42_16 : (fI D H42 11 a0 16).toInt = (fI D H40 11 a0 16).toInt := congrArg Int32.toInt (K42.fI ga0 rfl (by decide) (by decide +kernel))
                  have lq42 : Lq D H40 H42 a0 := Lq.keep S40.1 ga0 K42 (by decide +kernel) (by decide +kernel) (by decide +kernel)
                  have tk42 : Lq D s.heap H42 a0 := tk40.trans lq42
                  rcases fq42 with ⟨z42, y42, ts42, wr42⟩ | ⟨z42, y42, ts42, wr42⟩
                  · skip
                    refine lv_istore_n (lv' := [(1, .int v42), (0, .ref a0)]) hx hb dX12_readAtom_138 rfl hl (by decide) rfl (fun ls hl => ?_)
                    refine lv_iload_n hx hb dX12_readAtom_139 rfl (lv_at hl 0 rfl) ?_
                    refine lv_if_ne (tgt := 152) hx hb dX12_readAtom_140 (by decide) (fun c43 => ?_) (fun c43 => ?_)
                    · have b43 : ¬ v42.toInt = (0 : Int32).toInt := fun z9 => c43 (i_eq.mpr z9)
                      refine lv_aload_n hx hb dX12_readAtom_152 rfl (lv_at hl 1 rfl) ?_
                      have rs9 : 0 ≤ (fI D H42 11 a0 16).toInt ∧ (fI D H42 11 a0 16).toInt ≤ 400 := S42.1.rng ga0 rfl (by decide) rfl
                      have rp9 : 0 ≤ (fI D H42 11 a0 10).toInt ∧ (fI D H42 11 a0 10).toInt ≤ 400 := S42.1.rng ga0 rfl (by decide) rfl
                      refine callV_Ei C S42 (c_X12_readSum l D G a0 T (nx T c40) ga0) kV_X12_211 ga0 (⟨by omega, ts42⟩) (by decide +kernel) dX12_readAtom_153 hl.1 rfl rfl (by decide) cd_X12_readSum ⟨Nat.le_of_ble_eq_true rfl, Nat.le_of_ble_eq_true rfl, Nat.le_of_ble_eq_true rfl, Nat.le_of_ble_eq_true rfl, Nat.le_of_ble_eq_true rfl⟩ (fun v44 H44 L44 S44 K44 q44 => ?_)
                      obtain ⟨q44, fq44⟩ := q44
                      obtain ⟨q44, sa44, sx44, tq44⟩ := q44
                      have y44_13 : (fI D H44 11 a0 13).toInt = (fI D H42 11 a0 13).toInt := congrArg Int32.toInt (K44.fI ga0 rfl (by decide) (by decide +kernel))
                      have lq44 : Lq D H42 H44 a0 := tq44
                      have tk44 : Lq D s.heap H44 a0 := tk42.trans lq44
                      rcases fq44 with ⟨c44, y44, z44, ts44⟩ | ⟨e44, y44, z44, wr44⟩
                      · skip
                        refine lv_if_ne (tgt := 161) hx hb dX12_readAtom_156 (by decide) (fun c45 => ?_) (fun c45 => ?_)
                        · have b45 : ¬ v44.toInt = (0 : Int32).toInt := fun z9 => c45 (i_eq.mpr z9)
                          refine lv_aload_n hx hb dX12_readAtom_161 rfl (lv_at hl 1 rfl) ?_
                          refine lv_iload_n hx hb dX12_readAtom_162 rfl (lv_at hl 0 rfl) ?_
                          refine lv_if_eq (tgt := 171) hx hb dX12_readAtom_163 (by decide) (fun c46 => ?_) (fun c46 => ?_)
                          · have b46 : v42.toInt = (0 : Int32).toInt := i_eq.mp c46
                            exact absurd b46 (by omega)
                          · have b46 : ¬ v42.toInt = (0 : Int32).toInt := fun z9 => c46 (i_eq.mpr z9)
                            refine lv_bipush (v := 13) hx hb dX12_readAtom_166 (by decide) ?_
                            refine lv_goto (tgt := 173) hx hb dX12_readAtom_168 (by decide) ?_
                            refine lv_iconst (v := 0) hx hb dX12_readAtom_173 (by decide) ?_
                            have rs9 : 0 ≤ (fI D H44 11 a0 16).toInt ∧ (fI D H44 11 a0 16).toInt ≤ 400 := S44.1.rng ga0 rfl (by decide) rfl
                            have rp9 : 0 ≤ (fI D H44 11 a0 10).toInt ∧ (fI D H44 11 a0 10).toInt ≤ 400 := S44.1.rng ga0 rfl (by decide) rfl
                            have k_13 : (13 : Int32).toInt = 13 := by decide
                            refine callV_Ev C S44 (c_X12_emits l D G a0 (13 : Int32) (0 : Int32) ga0) kV_X12_185 ga0 (by omega) (by decide +kernel) dX12_readAtom_174 hl.1 rfl rfl (by decide) cd_X12_emits ⟨Nat.le_of_ble_eq_true rfl, Nat.le_of_ble_eq_true rfl, Nat.le_of_ble_eq_true rfl, Nat.le_of_ble_eq_true rfl, Nat.le_of_ble_eq_true rfl⟩ (fun H47 L47 S47 K47 q47 => ?_)
                            obtain ⟨qa47, qb47, tq47⟩ := q47
                            have y47_10 : (fI D H47 11 a0 10).toInt = (fI D H44 11 a0 10).toInt := congrArg Int32.toInt (K47.fI ga0 rfl (by decide) (by decide +kernel))
                            have y47_12 : (fI D H47 11 a0 12).toInt = (fI D H44 11 a0 12).toInt := congrArg Int32.toInt (K47.fI ga0 rfl (by decide) (by decide +kernel))
                            have y47_13 : (fI D H47 11 a0 13).toInt = (fI D H44 11 a0 13).toInt := congrArg Int32.toInt (K47.fI ga0 rfl (by decide) (by decide +kernel))
                            have lq47 : Lq D H44 H47 a0 := tq47
                            have tk47 : Lq D s.heap H47 a0 := tk44.trans lq47
                            have rb47 := ts44.keep S44.1 ga0 K47 (by decide +kernel)
                            refine lv_iconst (v := 1) hx hb dX12_readAtom_177 (by decide) ?_
                            have k_1 : (1 : Int32).toInt = 1 := by decide
                            exact retE_z hQ C S47 hr dX12_readAtom_178 (z01 (by omega) (by omega)) (⟨⟨by omega, fun _ => by omega, fun _ => (Ex.bin (((lq42.trans lq44).trans lq47).ex (sx40 (by omega)) (by omega)) ((lq47.ex (sx44 (by omega)) (by omega)).at (i' := (fI D H40 11 a0 16).toInt.toNat) (by omega) rfl) (by rw [qb47]; decide) rfl).at (by omega) (by omega), tk47⟩, RR.ok (by rw [atm_s]; simp [clo, tkS, tlF, cmpF, y1, y19, y35, yt39, y40, y42, y44]) (by omega) rb47⟩)
                        · have b45 : v44.toInt = (0 : Int32).toInt := i_eq.mp c45
                          exact absurd b45 (by omega)
                      · skip
                        refine lv_if_ne (tgt := 161) hx hb dX12_readAtom_156 (by decide) (fun c48 => ?_) (fun c48 => ?_)
                        · have b48 : ¬ v44.toInt = (0 : Int32).toInt := fun z9 => c48 (i_eq.mpr z9)
                          exact absurd b48 (by omega)
                        · have b48 : v44.toInt = (0 : Int32).toInt := i_eq.mp c48
                          refine lv_iconst (v := 0) hx hb dX12_readAtom_159 (by decide) ?_
                          exact retE_z hQ C S44 hr dX12_readAtom_160 (z01 (by omega) (by omega)) (⟨⟨by omega, fun h9 => absurd h9 (by decide), fun h9 => absurd h9 (by decide), tk44⟩, RR.no (by rw [atm_s]; simp [clo, tkS, tlF, cmpF, y1, y19, y35, yt39, y40, y42, y44]) (by omega) wr44⟩)
                    · have b43 : v42.toInt = (0 : Int32).toInt := i_eq.mp c43
                      exact absurd b43 (by omega)
                  · skip
                    refine lv_istore_n (lv' := [(1, .int v42), (0, .ref a0)]) hx hb dX12_readAtom_138 rfl hl (by decide) rfl (fun ls hl => ?_)
                    refine lv_iload_n hx hb dX12_readAtom_139 rfl (lv_at hl 0 rfl) ?_
                    refine lv_if_ne (tgt := 152) hx hb dX12_readAtom_140 (by decide) (fun c49 => ?_) (fun c49 => ?_)
                    · have b49 : ¬ v42.toInt = (0 : Int32).toInt := fun z9 => c49 (i_eq.mpr z9)
                      exact absurd b49 (by omega)
                    · have b49 : v42.toInt = (0 : Int32).toInt := i_eq.mp c49
                      refine lv_aload_n hx hb dX12_readAtom_143 rfl (lv_at hl 1 rfl) ?_
                      refine lv_bipush (v := 62) hx hb dX12_readAtom_144 (by decide) ?_
                      have k_62 : (62 : Int32).toInt = 62 := by decide
                      refine callV_Ei C S42 (c_X12_sign_f l D G a0 (62 : Int32) 62 T c40 ga0 (by omega) (by decide)) kV_X12_193 ga0 (⟨trivial, ts42⟩) (by decide +kernel) dX12_readAtom_146 hl.1 rfl rfl (by decide) cd_X12_sign ⟨Nat.le_of_ble_eq_true rfl, Nat.le_of_ble_eq_true rfl, Nat.le_of_ble_eq_true rfl, Nat.le_of_ble_eq_true rfl, Nat.le_of_ble_eq_true rfl⟩ (fun v50 H50 L50 S50 K50 q50 => ?_)
                      obtain ⟨q50, fq50⟩ := q50
                      have y50_13 : (fI D H50 11 a0 13).toInt = (fI D H42 11 a0 13).toInt := congrArg Int32.toInt (K50.fI ga0 rfl (by decide) (by decide +kernel))
                      have y50_16 : (fI D H50 11 a0 16).toInt = (fI D H42 11 a0 16).toInt := congrArg Int32.toInt (K50.fI ga0 rfl (by decide) (by decide +kernel))
                      have lq50 : Lq D H42 H50 a0 := Lq.keep S42.1 ga0 K50 (by decide +kernel) (by decide +kernel) (by decide +kernel)
                      have tk50 : Lq D s.heap H50 a0 := tk42.trans lq50
                      rcases fq50 with ⟨z50, y50, ts50, wr50⟩ | ⟨z50, y50, ts50, wr50⟩
                      · skip
                        refine lv_if_eq (tgt := 159) hx hb dX12_readAtom_149 (by decide) (fun c51 => ?_) (fun c51 => ?_)
                        · have b51 : v50.toInt = (0 : Int32).toInt := i_eq.mp c51
                          exact absurd b51 (by omega)
                        · have b51 : ¬ v50.toInt = (0 : Int32).toInt := fun z9 => c51 (i_eq.mpr z9)
                          refine lv_aload_n hx hb dX12_readAtom_152 rfl (lv_at hl 1 rfl) ?_
                          have rs9 : 0 ≤ (fI D H50 11 a0 16).toInt ∧ (fI D H50 11 a0 16).toInt ≤ 400 := S50.1.rng ga0 rfl (by decide) rfl
                          have rp9 : 0 ≤ (fI D H50 11 a0 10).toInt ∧ (fI D H50 11 a0 10).toInt ≤ 400 := S50.1.rng ga0 rfl (by decide) rfl
                          refine callV_Ei C S50 (c_X12_readSum l D G a0 T (nx T c40) ga0) kV_X12_211 ga0 (⟨by omega, ts50⟩) (by decide +kernel) dX12_readAtom_153 hl.1 rfl rfl (by decide) cd_X12_readSum ⟨Nat.le_of_ble_eq_true rfl, Nat.le_of_ble_eq_true rfl, Nat.le_of_ble_eq_true rfl, Nat.le_of_ble_eq_true rfl, Nat.le_of_ble_eq_true rfl⟩ (fun v52 H52 L52 S52 K52 q52 => ?_)
                          obtain ⟨q52, fq52⟩ := q52
                          obtain ⟨q52, sa52, sx52, tq52⟩ := q52
                          have y52_13 : (fI D H52 11 a0 13).toInt = (fI D H50 11 a0 13).toInt := congrArg Int32.toInt (K52.fI ga0 rfl (by decide) (by decide +kernel))
                          have lq52 : Lq D H50 H52 a0 := tq52
                          have tk52 : Lq D s.heap H52 a0 := tk50.trans lq52
                          rcases fq52 with ⟨c52, y52, z52, ts52⟩ | ⟨e52, y52, z52, wr52⟩
                          · skip
                            refine lv_if_ne (tgt := 161) hx hb dX12_readAtom_156 (by decide) (fun c53 => ?_) (fun c53 => ?_)
                            · have b53 : ¬ v52.toInt = (0 : Int32).toInt := fun z9 => c53 (i_eq.mpr z9)
                              refine lv_aload_n hx hb dX12_readAtom_161 rfl (lv_at hl 1 rfl) ?_
                              refine lv_iload_n hx hb dX12_readAtom_162 rfl (lv_at hl 0 rfl) ?_
                              refine lv_if_eq (tgt := 171) hx hb dX12_readAtom_163 (by decide) (fun c54 => ?_) (fun c54 => ?_)
                              · have b54 : v42.toInt = (0 : Int32).toInt := i_eq.mp c54
                                refine lv_bipush (v := 14) hx hb dX12_readAtom_171 (by decide) ?_
                                refine lv_iconst (v := 0) hx hb dX12_readAtom_173 (by decide) ?_
                                have rs9 : 0 ≤ (fI D H52 11 a0 16).toInt ∧ (fI D H52 11 a0 16).toInt ≤ 400 := S52.1.rng ga0 rfl (by decide) rfl
                                have rp9 : 0 ≤ (fI D H52 11 a0 10).toInt ∧ (fI D H52 11 a0 10).toInt ≤ 400 := S52.1.rng ga0 rfl (by decide) rfl
                                have k_14 : (14 : Int32).toInt = 14 := by decide
                                refine callV_Ev C S52 (c_X12_emits l D G a0 (14 : Int32) (0 : Int32) ga0) kV_X12_185 ga0 (by omega) (by decide +kernel) dX12_readAtom_174 hl.1 rfl rfl (by decide) cd_X12_emits ⟨Nat.le_of_ble_eq_true rfl, Nat.le_of_ble_eq_true rfl, Nat.le_of_ble_eq_true rfl, Nat.le_of_ble_eq_true rfl, Nat.le_of_ble_eq_true rfl⟩ (fun H55 L55 S55 K55 q55 => ?_)
                                obtain ⟨qa55, qb55, tq55⟩ := q55
                                have y55_10 : (fI D H55 11 a0 10).toInt = (fI D H52 11 a0 10).toInt := congrArg Int32.toInt (K55.fI ga0 rfl (by decide) (by decide +kernel))
                                have y55_12 : (fI D H55 11 a0 12).toInt = (fI D H52 11 a0 12).toInt := congrArg Int32.toInt (K55.fI ga0 rfl (by decide) (by decide +kernel))
                                have y55_13 : (fI D H55 11 a0 13).toInt = (fI D H52 11 a0 13).toInt := congrArg Int32.toInt (K55.fI ga0 rfl (by decide) (by decide +kernel))
                                have lq55 : Lq D H52 H55 a0 := tq55
                                have tk55 : Lq D s.heap H55 a0 := tk52.trans lq55
                                have rb55 := ts52.keep S52.1 ga0 K55 (by decide +kernel)
                                refine lv_iconst (v := 1) hx hb dX12_readAtom_177 (by decide) ?_
                                have k_1 : (1 : Int32).toInt = 1 := by decide
                                exact retE_z hQ C S55 hr dX12_readAtom_178 (z01 (by omega) (by omega)) (⟨⟨by omega, fun _ => by omega, fun _ => (Ex.bin ((((lq42.trans lq50).trans lq52).trans lq55).ex (sx40 (by omega)) (by omega)) ((lq55.ex (sx52 (by omega)) (by omega)).at (i' := (fI D H40 11 a0 16).toInt.toNat) (by omega) rfl) (by rw [qb55]; decide) rfl).at (by omega) (by omega), tk55⟩, RR.ok (by rw [atm_s]; simp [clo, tkS, tlF, cmpF, y1, y19, y35, yt39, y40, y42, y50, y52]) (by omega) rb55⟩)
                              · have b54 : ¬ v42.toInt = (0 : Int32).toInt := fun z9 => c54 (i_eq.mpr z9)
                                exact absurd b54 (by omega)
                            · have b53 : v52.toInt = (0 : Int32).toInt := i_eq.mp c53
                              exact absurd b53 (by omega)
                          · skip
                            refine lv_if_ne (tgt := 161) hx hb dX12_readAtom_156 (by decide) (fun c56 => ?_) (fun c56 => ?_)
                            · have b56 : ¬ v52.toInt = (0 : Int32).toInt := fun z9 => c56 (i_eq.mpr z9)
                              exact absurd b56 (by omega)
                            · have b56 : v52.toInt = (0 : Int32).toInt := i_eq.mp c56
                              refine lv_iconst (v := 0) hx hb dX12_readAtom_159 (by decide) ?_
                              exact retE_z hQ C S52 hr dX12_readAtom_160 (z01 (by omega) (by omega)) (⟨⟨by omega, fun h9 => absurd h9 (by decide), fun h9 => absurd h9 (by decide), tk52⟩, RR.no (by rw [atm_s]; simp [clo, tkS, tlF, cmpF, y1, y19, y35, yt39, y40, y42, y50, y52]) (by omega) wr52⟩)
                      · skip
                        refine lv_if_eq (tgt := 159) hx hb dX12_readAtom_149 (by decide) (fun c57 => ?_) (fun c57 => ?_)
                        · have b57 : v50.toInt = (0 : Int32).toInt := i_eq.mp c57
                          refine lv_iconst (v := 0) hx hb dX12_readAtom_159 (by decide) ?_
                          exact retE_z hQ C S50 hr dX12_readAtom_160 (z01 (by omega) (by omega)) (⟨⟨by omega, fun h9 => absurd h9 (by decide), fun h9 => absurd h9 (by decide), tk50⟩, RR.no (by rw [atm_s]; simp [clo, tkS, tlF, cmpF, y1, y19, y35, yt39, y40, y42, y50]) (by omega) wr50⟩)
                        · have b57 : ¬ v50.toInt = (0 : Int32).toInt := fun z9 => c57 (i_eq.mpr z9)
                          exact absurd b57 (by omega)
                · have b41 : v40.toInt = (0 : Int32).toInt := i_eq.mp c41
                  exact absurd b41 (by omega)
              · skip
                refine lv_if_ne (tgt := 132) hx hb dX12_readAtom_127 (by decide) (fun c58 => ?_) (fun c58 => ?_)
                · have b58 : ¬ v40.toInt = (0 : Int32).toInt := fun z9 => c58 (i_eq.mpr z9)
                  exact absurd b58 (by omega)
                · have b58 : v40.toInt = (0 : Int32).toInt := i_eq.mp c58
                  refine lv_iconst (v := 0) hx hb dX12_readAtom_130 (by decide) ?_
                  exact retE_z hQ C S40 hr dX12_readAtom_131 (z01 (by omega) (by omega)) (⟨⟨by omega, fun h9 => absurd h9 (by decide), fun h9 => absurd h9 (by decide), tk40⟩, RR.no (by rw [atm_s]; simp [clo, tkS, tlF, cmpF, y1, y19, y35, yt39, y40]) (by omega) wr40⟩)
            · have b38 : ¬ v35.toInt = (0 : Int32).toInt := fun z9 => c38 (i_eq.mpr z9)
              exact absurd b38 (by omega)
        · have b34 : ¬ v19.toInt = (0 : Int32).toInt := fun z9 => c34 (i_eq.mpr z9)
          exact absurd b34 (by omega)
    · have b17 : ¬ v1.toInt = (0 : Int32).toInt := fun z9 => c17 (i_eq.mpr z9)
      exact absurd b17 (by omega)

set_option maxRecDepth 100000 in
set_option maxHeartbeats 4000000 in
theorem c_X12_readAllOf_d5 (l : Launch) (D : DD) (G : Nat → Nat) (a0 : Nat) (T : Tx) (b : Nat) (ga0 : G a0 = 30) : CE l D G yX12_readAllOf cX12_readAllOf 1 (some .boolean) 11 [.ref a0] (fun H => ((fI D H 11 a0 13).toInt = 5 ∧ (fI D H 11 a0 16).toInt + 3 ≤ (fI D H 11 a0 10).toInt) ∧ (RB D H a0 T b)) [(30, 10), (30, 12), (30, 16), (31, 0), (30, 13)] (xI (fun H r H1 => ((0 ≤ r.toInt ∧ r.toInt ≤ 1) ∧ (r.toInt = 1 → (fI D H1 11 a0 16).toInt - (fI D H 11 a0 16).toInt ≤ (fI D H1 11 a0 10).toInt - (fI D H 11 a0 10).toInt ∧ (fI D H1 11 a0 13).toInt = (fI D H 11 a0 13).toInt ∧ (fI D H 11 a0 10).toInt ≤ (fI D H1 11 a0 10).toInt) ∧ (r.toInt = 1 → Ex (Cs D H1 a0) (fI D H 11 a0 16).toInt.toNat (fI D H1 11 a0 16).toInt.toNat) ∧ Lq D H H1 a0) ∧ (RR D H1 a0 T (allF T (atm T 1) b) r))) := by
  refine enter (by decide) (Nat.le_of_ble_eq_true rfl) ?_
  intro p e s m args below meth c ls Q hA hQ C hr hO hpre hl
  have hx := C.1
  have hb := C.2.1
  have S : Sd D G [(30, 10), (30, 12), (30, 16), (31, 0), (30, 13)] s.heap s.heap [] := Sd.start hO
  have hl : lv_has ls 1 [(0, .ref a0)] := hl
  have rs0 : 0 ≤ (fI D s.heap 11 a0 16).toInt ∧ (fI D s.heap 11 a0 16).toInt ≤ 400 := hO.rng ga0 rfl (by decide) rfl
  have rp0 : 0 ≤ (fI D s.heap 11 a0 10).toInt ∧ (fI D s.heap 11 a0 10).toInt ≤ 400 := hO.rng ga0 rfl (by decide) rfl
  obtain ⟨hpre, hf⟩ := hpre
  have ts0 := hf
  have hT : T.2 ≤ 400 := ts0.le hO ga0
  have tk0 : Lq D s.heap s.heap a0 := Lq.refl
  refine lv_aload_n hx hb dX12_readAllOf_0 rfl (lv_at hl 0 rfl) ?_
  refine callV_Ei C S (c_X12_readAtom_d5 l D G a0 T b ga0) kV_X12_205 ga0 (⟨hpre, ts0⟩) (by decide +kernel) dX12_readAllOf_1 hl.1 rfl rfl (by decide) cd_X12_readAtom ⟨Nat.le_of_ble_eq_true rfl, Nat.le_of_ble_eq_true rfl, Nat.le_of_ble_eq_true rfl, Nat.le_of_ble_eq_true rfl, Nat.le_of_ble_eq_true rfl⟩ (fun v1 H1 L1 S1 K1 q1 => ?_)
  obtain ⟨q1, fq1⟩ := q1
  obtain ⟨q1, sa1, sx1, tq1⟩ := q1
  have lq1 : Lq D s.heap H1 a0 := tq1
  have tk1 : Lq D s.heap H1 a0 := tk0.trans lq1
  rcases fq1 with ⟨c1, y1, z1, ts1⟩ | ⟨e1, y1, z1, wr1⟩
  · skip
    have k_0 : (0 : Int32).toInt = 0 := by decide
    refine lv_if_ne (tgt := 9) hx hb dX12_readAllOf_4 (by decide) (fun c2 => ?_) (fun c2 => ?_)
    · have b2 : ¬ v1.toInt = (0 : Int32).toInt := fun z9 => c2 (i_eq.mpr z9)
      have Lp9 : ∀ (n : Nat) (b_9 : Nat) (H_9 : Heap) (L_9 : List Loc) (ls : Array Slot), (Sd D G [(30, 10), (30, 12), (30, 16), (31, 0), (30, 13)] s.heap H_9 L_9) → (Ex (Cs D H_9 a0) (fI D s.heap 11 a0 16).toInt.toNat (fI D H_9 11 a0 16).toInt.toNat) → ((fI D H_9 11 a0 16).toInt - (fI D s.heap 11 a0 16).toInt ≤ (fI D H_9 11 a0 10).toInt - (fI D s.heap 11 a0 10).toInt ∧ (fI D H_9 11 a0 13).toInt = (fI D s.heap 11 a0 13).toInt ∧ (fI D s.heap 11 a0 10).toInt ≤ (fI D H_9 11 a0 10).toInt) → (RB D H_9 a0 T b_9) → (allF T (atm T 1) b = allT T (atm T 1) b_9) → (Lq D s.heap H_9 a0) → 401 - (fI D H_9 11 a0 10).toInt ≤ (n : Int) → lv_has ls 1 [(0, .ref a0)] → W p l e (rmU 11 0 0) s m args below meth c H_9 L_9 0 0 Q (F0 m 9 ls []) := by
        intro n
        induction n with
        | zero =>
          intro b_9 H_9 L_9 ls S_9 u9_0 u9_1 u9_2 u9_3 u9_4 hn hl
          have rz : 0 ≤ (fI D H_9 11 a0 10).toInt ∧ (fI D H_9 11 a0 10).toInt ≤ 400 := S_9.1.rng ga0 rfl (by decide) rfl
          exact absurd hn (by omega)
        | succ n ih9 =>
          intro b_9 H_9 L_9 ls S_9 u9_0 u9_1 u9_2 u9_3 u9_4 hn hl
          have rs9 : 0 ≤ (fI D H_9 11 a0 16).toInt ∧ (fI D H_9 11 a0 16).toInt ≤ 400 := S_9.1.rng ga0 rfl (by decide) rfl
          have rp9 : 0 ≤ (fI D H_9 11 a0 10).toInt ∧ (fI D H_9 11 a0 10).toInt ≤ 400 := S_9.1.rng ga0 rfl (by decide) rfl
          refine lv_aload_n hx hb dX12_readAllOf_9 rfl (lv_at hl 0 rfl) ?_
          refine q_lds C ks_X12_214 dX12_readAllOf_10 (fun a3 ha3 wa3 => ?_)
          refine callV_Ei C S_9 (c_X12_passes_f l D G a0 a3 3 w_and T b_9 ga0 ha3 (Wc.of wa3 kw_and) (by decide)) kV_X12_120 ga0 (⟨trivial, u9_2⟩) (by decide +kernel) dX12_readAllOf_12 hl.1 rfl rfl (by decide) cd_X12_passes ⟨Nat.le_of_ble_eq_true rfl, Nat.le_of_ble_eq_true rfl, Nat.le_of_ble_eq_true rfl, Nat.le_of_ble_eq_true rfl, Nat.le_of_ble_eq_true rfl⟩ (fun v4 H4 L4 S4 K4 q4 => ?_)
          obtain ⟨q4, fq4⟩ := q4
          have y4_13 : (fI D H4 11 a0 13).toInt = (fI D H_9 11 a0 13).toInt := congrArg Int32.toInt (K4.fI ga0 rfl (by decide) (by decide +kernel))
          have y4_16 : (fI D H4 11 a0 16).toInt = (fI D H_9 11 a0 16).toInt := congrArg Int32.toInt (K4.fI ga0 rfl (by decide) (by decide +kernel))
          have lq4 : Lq D H_9 H4 a0 := Lq.keep S_9.1 ga0 K4 (by decide +kernel) (by decide +kernel) (by decide +kernel)
          have tk4 : Lq D s.heap H4 a0 := u9_4.trans lq4
          rcases fq4 with ⟨z4, y4, ts4, wr4⟩ | ⟨z4, y4, ts4, wr4⟩
          · skip
            refine lv_if_eq (tgt := 37) hx hb dX12_readAllOf_15 (by decide) (fun c5 => ?_) (fun c5 => ?_)
            · have b5 : v4.toInt = (0 : Int32).toInt := i_eq.mp c5
              exact absurd b5 (by omega)
            · have b5 : ¬ v4.toInt = (0 : Int32).toInt := fun z9 => c5 (i_eq.mpr z9)
              refine lv_aload_n hx hb dX12_readAllOf_18 rfl (lv_at hl 0 rfl) ?_
              have rs9 : 0 ≤ (fI D H4 11 a0 16).toInt ∧ (fI D H4 11 a0 16).toInt ≤ 400 := S4.1.rng ga0 rfl (by decide) rfl
              have rp9 : 0 ≤ (fI D H4 11 a0 10).toInt ∧ (fI D H4 11 a0 10).toInt ≤ 400 := S4.1.rng ga0 rfl (by decide) rfl
              refine callV_Ei C S4 (c_X12_readAtom_d5 l D G a0 T (nx T b_9) ga0) kV_X12_205 ga0 (⟨⟨by omega, by omega⟩, ts4⟩) (by decide +kernel) dX12_readAllOf_19 hl.1 rfl rfl (by decide) cd_X12_readAtom ⟨Nat.le_of_ble_eq_true rfl, Nat.le_of_ble_eq_true rfl, Nat.le_of_ble_eq_true rfl, Nat.le_of_ble_eq_true rfl, Nat.le_of_ble_eq_true rfl⟩ (fun v6 H6 L6 S6 K6 q6 => ?_)
              obtain ⟨q6, fq6⟩ := q6
              obtain ⟨q6, sa6, sx6, tq6⟩ := q6
              have lq6 : Lq D H4 H6 a0 := tq6
              have tk6 : Lq D s.heap H6 a0 := tk4.trans lq6
              rcases fq6 with ⟨c6, y6, z6, ts6⟩ | ⟨e6, y6, z6, wr6⟩
              · skip
                refine lv_if_ne (tgt := 27) hx hb dX12_readAllOf_22 (by decide) (fun c7 => ?_) (fun c7 => ?_)
                · have b7 : ¬ v6.toInt = (0 : Int32).toInt := fun z9 => c7 (i_eq.mpr z9)
                  refine lv_aload_n hx hb dX12_readAllOf_27 rfl (lv_at hl 0 rfl) ?_
                  refine lv_bipush (v := 16) hx hb dX12_readAllOf_28 (by decide) ?_
                  refine lv_iconst (v := 0) hx hb dX12_readAllOf_30 (by decide) ?_
                  have rs9 : 0 ≤ (fI D H6 11 a0 16).toInt ∧ (fI D H6 11 a0 16).toInt ≤ 400 := S6.1.rng ga0 rfl (by decide) rfl
                  have rp9 : 0 ≤ (fI D H6 11 a0 10).toInt ∧ (fI D H6 11 a0 10).toInt ≤ 400 := S6.1.rng ga0 rfl (by decide) rfl
                  have k_16 : (16 : Int32).toInt = 16 := by decide
                  refine callV_Ev C S6 (c_X12_emits l D G a0 (16 : Int32) (0 : Int32) ga0) kV_X12_185 ga0 (by omega) (by decide +kernel) dX12_readAllOf_31 hl.1 rfl rfl (by decide) cd_X12_emits ⟨Nat.le_of_ble_eq_true rfl, Nat.le_of_ble_eq_true rfl, Nat.le_of_ble_eq_true rfl, Nat.le_of_ble_eq_true rfl, Nat.le_of_ble_eq_true rfl⟩ (fun H8 L8 S8 K8 q8 => ?_)
                  obtain ⟨qa8, qb8, tq8⟩ := q8
                  have y8_10 : (fI D H8 11 a0 10).toInt = (fI D H6 11 a0 10).toInt := congrArg Int32.toInt (K8.fI ga0 rfl (by decide) (by decide +kernel))
                  have y8_12 : (fI D H8 11 a0 12).toInt = (fI D H6 11 a0 12).toInt := congrArg Int32.toInt (K8.fI ga0 rfl (by decide) (by decide +kernel))
                  have y8_13 : (fI D H8 11 a0 13).toInt = (fI D H6 11 a0 13).toInt := congrArg Int32.toInt (K8.fI ga0 rfl (by decide) (by decide +kernel))
                  have lq8 : Lq D H6 H8 a0 := tq8
                  have tk8 : Lq D s.heap H8 a0 := tk6.trans lq8
                  have rb8 := ts6.keep S6.1 ga0 K8 (by decide +kernel)
                  refine lv_goto (tgt := 9) hx hb dX12_readAllOf_34 (by decide) ?_
                  have e9 : Ex (Cs D H8 a0) (fI D s.heap 11 a0 16).toInt.toNat (fI D H8 11 a0 16).toInt.toNat := (Ex.bin (((lq4.trans lq6).trans lq8).ex u9_0 (by omega)) ((lq8.ex (sx6 (by omega)) (by omega)).at (i' := (fI D H_9 11 a0 16).toInt.toNat) (by omega) rfl) (by rw [qb8]; decide) rfl).at (by omega) (by omega)
                  exact ih9 c6 H8 L8 ls S8 e9 (by omega) rb8 (u9_3.trans ((allT_t y4).trans (all_in (atm_on 1) hT y6))) tk8 (by omega) (lv_sub hl [0] rfl)
                · have b7 : v6.toInt = (0 : Int32).toInt := i_eq.mp c7
                  exact absurd b7 (by omega)
              · skip
                refine lv_if_ne (tgt := 27) hx hb dX12_readAllOf_22 (by decide) (fun c9 => ?_) (fun c9 => ?_)
                · have b9 : ¬ v6.toInt = (0 : Int32).toInt := fun z9 => c9 (i_eq.mpr z9)
                  exact absurd b9 (by omega)
                · have b9 : v6.toInt = (0 : Int32).toInt := i_eq.mp c9
                  refine lv_iconst (v := 0) hx hb dX12_readAllOf_25 (by decide) ?_
                  exact retE_z hQ C S6 hr dX12_readAllOf_26 (z01 (by omega) (by omega)) (⟨⟨by omega, fun h9 => absurd h9 (by decide), fun h9 => absurd h9 (by decide), tk6⟩, RR.no (u9_3.trans ((allT_t y4).trans (all_no (atm_on 1) hT y6))) (by omega) wr6⟩)
          · skip
            refine lv_if_eq (tgt := 37) hx hb dX12_readAllOf_15 (by decide) (fun c10 => ?_) (fun c10 => ?_)
            · have b10 : v4.toInt = (0 : Int32).toInt := i_eq.mp c10
              refine lv_iconst (v := 1) hx hb dX12_readAllOf_37 (by decide) ?_
              have k_1 : (1 : Int32).toInt = 1 := by decide
              exact retE_z hQ C S4 hr dX12_readAllOf_38 (z01 (by omega) (by omega)) (⟨⟨by omega, fun _ => by omega, fun _ => (lq4.ex u9_0 (by omega)).at (by omega) (by omega), tk4⟩, RR.ok (u9_3.trans (allT_f y4)) (by omega) ts4⟩)
            · have b10 : ¬ v4.toInt = (0 : Int32).toInt := fun z9 => c10 (i_eq.mpr z9)
              exact absurd b10 (by omega)
      have ex0 := sx1 (by omega)
      have rn : 0 ≤ (fI D H1 11 a0 10).toInt ∧ (fI D H1 11 a0 10).toInt ≤ 400 := S1.1.rng ga0 rfl (by decide) rfl
      exact Lp9 402 c1 H1 L1 ls S1 (ex0.at (by omega) rfl) (by omega) ts1 (all_in (atm_on 1) hT y1) tk1  (by omega) (lv_sub hl [0] rfl)
    · have b2 : v1.toInt = (0 : Int32).toInt := i_eq.mp c2
      exact absurd b2 (by omega)
  · skip
    have k_0 : (0 : Int32).toInt = 0 := by decide
    refine lv_if_ne (tgt := 9) hx hb dX12_readAllOf_4 (by decide) (fun c11 => ?_) (fun c11 => ?_)
    · have b11 : ¬ v1.toInt = (0 : Int32).toInt := fun z9 => c11 (i_eq.mpr z9)
      exact absurd b11 (by omega)
    · have b11 : v1.toInt = (0 : Int32).toInt := i_eq.mp c11
      refine lv_iconst (v := 0) hx hb dX12_readAllOf_7 (by decide) ?_
      exact retE_z hQ C S1 hr dX12_readAllOf_8 (z01 (by omega) (by omega)) (⟨⟨by omega, fun h9 => absurd h9 (by decide), fun h9 => absurd h9 (by decide), tk1⟩, RR.no (all_no (atm_on 1) hT y1) (by omega) wr1⟩)

set_option maxRecDepth 100000 in
set_option maxHeartbeats 4000000 in
theorem c_X12_readCond_d5 (l : Launch) (D : DD) (G : Nat → Nat) (a0 : Nat) (T : Tx) (b : Nat) (ga0 : G a0 = 30) : CE l D G yX12_readCond cX12_readCond 1 (some .boolean) 12 [.ref a0] (fun H => ((fI D H 11 a0 13).toInt = 5 ∧ (fI D H 11 a0 16).toInt + 3 ≤ (fI D H 11 a0 10).toInt) ∧ (RB D H a0 T b)) [(30, 10), (30, 12), (30, 16), (31, 0), (30, 13)] (xI (fun H r H1 => ((0 ≤ r.toInt ∧ r.toInt ≤ 1) ∧ (r.toInt = 1 → (fI D H1 11 a0 16).toInt - (fI D H 11 a0 16).toInt ≤ (fI D H1 11 a0 10).toInt - (fI D H 11 a0 10).toInt ∧ (fI D H1 11 a0 13).toInt = (fI D H 11 a0 13).toInt ∧ (fI D H 11 a0 10).toInt ≤ (fI D H1 11 a0 10).toInt) ∧ (r.toInt = 1 → Ex (Cs D H1 a0) (fI D H 11 a0 16).toInt.toNat (fI D H1 11 a0 16).toInt.toNat) ∧ Lq D H H1 a0) ∧ (RR D H1 a0 T (conF T (atm T 1) b) r))) := by
  refine enter (by decide) (Nat.le_of_ble_eq_true rfl) ?_
  intro p e s m args below meth c ls Q hA hQ C hr hO hpre hl
  have hx := C.1
  have hb := C.2.1
  have S : Sd D G [(30, 10), (30, 12), (30, 16), (31, 0), (30, 13)] s.heap s.heap [] := Sd.start hO
  have hl : lv_has ls 1 [(0, .ref a0)] := hl
  have rs0 : 0 ≤ (fI D s.heap 11 a0 16).toInt ∧ (fI D s.heap 11 a0 16).toInt ≤ 400 := hO.rng ga0 rfl (by decide) rfl
  have rp0 : 0 ≤ (fI D s.heap 11 a0 10).toInt ∧ (fI D s.heap 11 a0 10).toInt ≤ 400 := hO.rng ga0 rfl (by decide) rfl
  obtain ⟨hpre, hf⟩ := hpre
  have ts0 := hf
  have hT : T.2 ≤ 400 := ts0.le hO ga0
  have tk0 : Lq D s.heap s.heap a0 := Lq.refl
  refine lv_aload_n hx hb dX12_readCond_0 rfl (lv_at hl 0 rfl) ?_
  refine callV_Ei C S (c_X12_readAllOf_d5 l D G a0 T b ga0) kV_X12_216 ga0 (⟨hpre, ts0⟩) (by decide +kernel) dX12_readCond_1 hl.1 rfl rfl (by decide) cd_X12_readAllOf ⟨Nat.le_of_ble_eq_true rfl, Nat.le_of_ble_eq_true rfl, Nat.le_of_ble_eq_true rfl, Nat.le_of_ble_eq_true rfl, Nat.le_of_ble_eq_true rfl⟩ (fun v1 H1 L1 S1 K1 q1 => ?_)
  obtain ⟨q1, fq1⟩ := q1
  obtain ⟨q1, sa1, sx1, tq1⟩ := q1
  have lq1 : Lq D s.heap H1 a0 := tq1
  have tk1 : Lq D s.heap H1 a0 := tk0.trans lq1
  rcases fq1 with ⟨c1, y1, z1, ts1⟩ | ⟨e1, y1, z1, wr1⟩
  · skip
    have k_0 : (0 : Int32).toInt = 0 := by decide
    refine lv_if_ne (tgt := 9) hx hb dX12_readCond_4 (by decide) (fun c2 => ?_) (fun c2 => ?_)
    · have b2 : ¬ v1.toInt = (0 : Int32).toInt := fun z9 => c2 (i_eq.mpr z9)
      have Lp9 : ∀ (n : Nat) (b_9 : Nat) (H_9 : Heap) (L_9 : List Loc) (ls : Array Slot), (Sd D G [(30, 10), (30, 12), (30, 16), (31, 0), (30, 13)] s.heap H_9 L_9) → (Ex (Cs D H_9 a0) (fI D s.heap 11 a0 16).toInt.toNat (fI D H_9 11 a0 16).toInt.toNat) → ((fI D H_9 11 a0 16).toInt - (fI D s.heap 11 a0 16).toInt ≤ (fI D H_9 11 a0 10).toInt - (fI D s.heap 11 a0 10).toInt ∧ (fI D H_9 11 a0 13).toInt = (fI D s.heap 11 a0 13).toInt ∧ (fI D s.heap 11 a0 10).toInt ≤ (fI D H_9 11 a0 10).toInt) → (RB D H_9 a0 T b_9) → (conF T (atm T 1) b = conT T (atm T 1) b_9) → (Lq D s.heap H_9 a0) → 401 - (fI D H_9 11 a0 10).toInt ≤ (n : Int) → lv_has ls 1 [(0, .ref a0)] → W p l e (rmU 12 0 0) s m args below meth c H_9 L_9 0 0 Q (F0 m 9 ls []) := by
        intro n
        induction n with
        | zero =>
          intro b_9 H_9 L_9 ls S_9 u9_0 u9_1 u9_2 u9_3 u9_4 hn hl
          have rz : 0 ≤ (fI D H_9 11 a0 10).toInt ∧ (fI D H_9 11 a0 10).toInt ≤ 400 := S_9.1.rng ga0 rfl (by decide) rfl
          exact absurd hn (by omega)
        | succ n ih9 =>
          intro b_9 H_9 L_9 ls S_9 u9_0 u9_1 u9_2 u9_3 u9_4 hn hl
          have rs9 : 0 ≤ (fI D H_9 11 a0 16).toInt ∧ (fI D H_9 11 a0 16).toInt ≤ 400 := S_9.1.rng ga0 rfl (by decide) rfl
          have rp9 : 0 ≤ (fI D H_9 11 a0 10).toInt ∧ (fI D H_9 11 a0 10).toInt ≤ 400 := S_9.1.rng ga0 rfl (by decide) rfl
          refine lv_aload_n hx hb dX12_readCond_9 rfl (lv_at hl 0 rfl) ?_
          refine q_lds C ks_X12_219 dX12_readCond_10 (fun a3 ha3 wa3 => ?_)
          refine callV_Ei C S_9 (c_X12_passes_f l D G a0 a3 2 w_or T b_9 ga0 ha3 (Wc.of wa3 kw_or) (by decide)) kV_X12_120 ga0 (⟨trivial, u9_2⟩) (by decide +kernel) dX12_readCond_12 hl.1 rfl rfl (by decide) cd_X12_passes ⟨Nat.le_of_ble_eq_true rfl, Nat.le_of_ble_eq_true rfl, Nat.le_of_ble_eq_true rfl, Nat.le_of_ble_eq_true rfl, Nat.le_of_ble_eq_true rfl⟩ (fun v4 H4 L4 S4 K4 q4 => ?_)
          obtain ⟨q4, fq4⟩ := q4
          have y4_13 : (fI D H4 11 a0 13).toInt = (fI D H_9 11 a0 13).toInt := congrArg Int32.toInt (K4.fI ga0 rfl (by decide) (by decide +kernel))
          have y4_16 : (fI D H4 11 a0 16).toInt = (fI D H_9 11 a0 16).toInt := congrArg Int32.toInt (K4.fI ga0 rfl (by decide) (by decide +kernel))
          have lq4 : Lq D H_9 H4 a0 := Lq.keep S_9.1 ga0 K4 (by decide +kernel) (by decide +kernel) (by decide +kernel)
          have tk4 : Lq D s.heap H4 a0 := u9_4.trans lq4
          rcases fq4 with ⟨z4, y4, ts4, wr4⟩ | ⟨z4, y4, ts4, wr4⟩
          · skip
            refine lv_if_eq (tgt := 37) hx hb dX12_readCond_15 (by decide) (fun c5 => ?_) (fun c5 => ?_)
            · have b5 : v4.toInt = (0 : Int32).toInt := i_eq.mp c5
              exact absurd b5 (by omega)
            · have b5 : ¬ v4.toInt = (0 : Int32).toInt := fun z9 => c5 (i_eq.mpr z9)
              refine lv_aload_n hx hb dX12_readCond_18 rfl (lv_at hl 0 rfl) ?_
              have rs9 : 0 ≤ (fI D H4 11 a0 16).toInt ∧ (fI D H4 11 a0 16).toInt ≤ 400 := S4.1.rng ga0 rfl (by decide) rfl
              have rp9 : 0 ≤ (fI D H4 11 a0 10).toInt ∧ (fI D H4 11 a0 10).toInt ≤ 400 := S4.1.rng ga0 rfl (by decide) rfl
              refine callV_Ei C S4 (c_X12_readAllOf_d5 l D G a0 T (nx T b_9) ga0) kV_X12_216 ga0 (⟨⟨by omega, by omega⟩, ts4⟩) (by decide +kernel) dX12_readCond_19 hl.1 rfl rfl (by decide) cd_X12_readAllOf ⟨Nat.le_of_ble_eq_true rfl, Nat.le_of_ble_eq_true rfl, Nat.le_of_ble_eq_true rfl, Nat.le_of_ble_eq_true rfl, Nat.le_of_ble_eq_true rfl⟩ (fun v6 H6 L6 S6 K6 q6 => ?_)
              obtain ⟨q6, fq6⟩ := q6
              obtain ⟨q6, sa6, sx6, tq6⟩ := q6
              have lq6 : Lq D H4 H6 a0 := tq6
              have tk6 : Lq D s.heap H6 a0 := tk4.trans lq6
              rcases fq6 with ⟨c6, y6, z6, ts6⟩ | ⟨e6, y6, z6, wr6⟩
              · skip
                refine lv_if_ne (tgt := 27) hx hb dX12_readCond_22 (by decide) (fun c7 => ?_) (fun c7 => ?_)
                · have b7 : ¬ v6.toInt = (0 : Int32).toInt := fun z9 => c7 (i_eq.mpr z9)
                  refine lv_aload_n hx hb dX12_readCond_27 rfl (lv_at hl 0 rfl) ?_
                  refine lv_bipush (v := 17) hx hb dX12_readCond_28 (by decide) ?_
                  refine lv_iconst (v := 0) hx hb dX12_readCond_30 (by decide) ?_
                  have rs9 : 0 ≤ (fI D H6 11 a0 16).toInt ∧ (fI D H6 11 a0 16).toInt ≤ 400 := S6.1.rng ga0 rfl (by decide) rfl
                  have rp9 : 0 ≤ (fI D H6 11 a0 10).toInt ∧ (fI D H6 11 a0 10).toInt ≤ 400 := S6.1.rng ga0 rfl (by decide) rfl
                  have k_17 : (17 : Int32).toInt = 17 := by decide
                  refine callV_Ev C S6 (c_X12_emits l D G a0 (17 : Int32) (0 : Int32) ga0) kV_X12_185 ga0 (by omega) (by decide +kernel) dX12_readCond_31 hl.1 rfl rfl (by decide) cd_X12_emits ⟨Nat.le_of_ble_eq_true rfl, Nat.le_of_ble_eq_true rfl, Nat.le_of_ble_eq_true rfl, Nat.le_of_ble_eq_true rfl, Nat.le_of_ble_eq_true rfl⟩ (fun H8 L8 S8 K8 q8 => ?_)
                  obtain ⟨qa8, qb8, tq8⟩ := q8
                  have y8_10 : (fI D H8 11 a0 10).toInt = (fI D H6 11 a0 10).toInt := congrArg Int32.toInt (K8.fI ga0 rfl (by decide) (by decide +kernel))
                  have y8_12 : (fI D H8 11 a0 12).toInt = (fI D H6 11 a0 12).toInt := congrArg Int32.toInt (K8.fI ga0 rfl (by decide) (by decide +kernel))
                  have y8_13 : (fI D H8 11 a0 13).toInt = (fI D H6 11 a0 13).toInt := congrArg Int32.toInt (K8.fI ga0 rfl (by decide) (by decide +kernel))
                  have lq8 : Lq D H6 H8 a0 := tq8
                  have tk8 : Lq D s.heap H8 a0 := tk6.trans lq8
                  have rb8 := ts6.keep S6.1 ga0 K8 (by decide +kernel)
                  refine lv_goto (tgt := 9) hx hb dX12_readCond_34 (by decide) ?_
                  have e9 : Ex (Cs D H8 a0) (fI D s.heap 11 a0 16).toInt.toNat (fI D H8 11 a0 16).toInt.toNat := (Ex.bin (((lq4.trans lq6).trans lq8).ex u9_0 (by omega)) ((lq8.ex (sx6 (by omega)) (by omega)).at (i' := (fI D H_9 11 a0 16).toInt.toNat) (by omega) rfl) (by rw [qb8]; decide) rfl).at (by omega) (by omega)
                  exact ih9 c6 H8 L8 ls S8 e9 (by omega) rb8 (u9_3.trans ((conT_t y4).trans (con_in (atm_on 1) hT y6))) tk8 (by omega) (lv_sub hl [0] rfl)
                · have b7 : v6.toInt = (0 : Int32).toInt := i_eq.mp c7
                  exact absurd b7 (by omega)
              · skip
                refine lv_if_ne (tgt := 27) hx hb dX12_readCond_22 (by decide) (fun c9 => ?_) (fun c9 => ?_)
                · have b9 : ¬ v6.toInt = (0 : Int32).toInt := fun z9 => c9 (i_eq.mpr z9)
                  exact absurd b9 (by omega)
                · have b9 : v6.toInt = (0 : Int32).toInt := i_eq.mp c9
                  refine lv_iconst (v := 0) hx hb dX12_readCond_25 (by decide) ?_
                  exact retE_z hQ C S6 hr dX12_readCond_26 (z01 (by omega) (by omega)) (⟨⟨by omega, fun h9 => absurd h9 (by decide), fun h9 => absurd h9 (by decide), tk6⟩, RR.no (u9_3.trans ((conT_t y4).trans (con_no (atm_on 1) hT y6))) (by omega) wr6⟩)
          · skip
            refine lv_if_eq (tgt := 37) hx hb dX12_readCond_15 (by decide) (fun c10 => ?_) (fun c10 => ?_)
            · have b10 : v4.toInt = (0 : Int32).toInt := i_eq.mp c10
              refine lv_iconst (v := 1) hx hb dX12_readCond_37 (by decide) ?_
              have k_1 : (1 : Int32).toInt = 1 := by decide
              exact retE_z hQ C S4 hr dX12_readCond_38 (z01 (by omega) (by omega)) (⟨⟨by omega, fun _ => by omega, fun _ => (lq4.ex u9_0 (by omega)).at (by omega) (by omega), tk4⟩, RR.ok (u9_3.trans (conT_f y4)) (by omega) ts4⟩)
            · have b10 : ¬ v4.toInt = (0 : Int32).toInt := fun z9 => c10 (i_eq.mpr z9)
              exact absurd b10 (by omega)
      have ex0 := sx1 (by omega)
      have rn : 0 ≤ (fI D H1 11 a0 10).toInt ∧ (fI D H1 11 a0 10).toInt ≤ 400 := S1.1.rng ga0 rfl (by decide) rfl
      exact Lp9 402 c1 H1 L1 ls S1 (ex0.at (by omega) rfl) (by omega) ts1 (con_in (atm_on 1) hT y1) tk1  (by omega) (lv_sub hl [0] rfl)
    · have b2 : v1.toInt = (0 : Int32).toInt := i_eq.mp c2
      exact absurd b2 (by omega)
  · skip
    have k_0 : (0 : Int32).toInt = 0 := by decide
    refine lv_if_ne (tgt := 9) hx hb dX12_readCond_4 (by decide) (fun c11 => ?_) (fun c11 => ?_)
    · have b11 : ¬ v1.toInt = (0 : Int32).toInt := fun z9 => c11 (i_eq.mpr z9)
      exact absurd b11 (by omega)
    · have b11 : v1.toInt = (0 : Int32).toInt := i_eq.mp c11
      refine lv_iconst (v := 0) hx hb dX12_readCond_7 (by decide) ?_
      exact retE_z hQ C S1 hr dX12_readCond_8 (z01 (by omega) (by omega)) (⟨⟨by omega, fun h9 => absurd h9 (by decide), fun h9 => absurd h9 (by decide), tk1⟩, RR.no (con_no (atm_on 1) hT y1) (by omega) wr1⟩)

set_option maxRecDepth 100000 in
set_option maxHeartbeats 4000000 in
theorem c_X12_readAtom_d4 (l : Launch) (D : DD) (G : Nat → Nat) (a0 : Nat) (T : Tx) (b : Nat) (ga0 : G a0 = 30) : CE l D G yX12_readAtom cX12_readAtom 2 (some .boolean) 13 [.ref a0] (fun H => ((fI D H 11 a0 13).toInt = 4 ∧ (fI D H 11 a0 16).toInt + 3 ≤ (fI D H 11 a0 10).toInt) ∧ (RB D H a0 T b)) [(30, 10), (30, 12), (30, 16), (31, 0), (30, 13)] (xI (fun H r H1 => ((0 ≤ r.toInt ∧ r.toInt ≤ 1) ∧ (r.toInt = 1 → (fI D H1 11 a0 16).toInt - (fI D H 11 a0 16).toInt ≤ (fI D H1 11 a0 10).toInt - (fI D H 11 a0 10).toInt ∧ (fI D H1 11 a0 13).toInt = (fI D H 11 a0 13).toInt ∧ (fI D H 11 a0 10).toInt ≤ (fI D H1 11 a0 10).toInt) ∧ (r.toInt = 1 → Ex (Cs D H1 a0) (fI D H 11 a0 16).toInt.toNat (fI D H1 11 a0 16).toInt.toNat) ∧ Lq D H H1 a0) ∧ (RR D H1 a0 T (atm T 2 b) r))) := by
  refine enter (by decide) (Nat.le_of_ble_eq_true rfl) ?_
  intro p e s m args below meth c ls Q hA hQ C hr hO hpre hl
  have hx := C.1
  have hb := C.2.1
  have S : Sd D G [(30, 10), (30, 12), (30, 16), (31, 0), (30, 13)] s.heap s.heap [] := Sd.start hO
  have hl : lv_has ls 2 [(0, .ref a0)] := hl
  have rs0 : 0 ≤ (fI D s.heap 11 a0 16).toInt ∧ (fI D s.heap 11 a0 16).toInt ≤ 400 := hO.rng ga0 rfl (by decide) rfl
  have rp0 : 0 ≤ (fI D s.heap 11 a0 10).toInt ∧ (fI D s.heap 11 a0 10).toInt ≤ 400 := hO.rng ga0 rfl (by decide) rfl
  obtain ⟨hpre, hf⟩ := hpre
  have ts0 := hf
  have hT : T.2 ≤ 400 := ts0.le hO ga0
  have tk0 : Lq D s.heap s.heap a0 := Lq.refl
  refine lv_aload_n hx hb dX12_readAtom_0 rfl (lv_at hl 0 rfl) ?_
  refine lv_bipush (v := 40) hx hb dX12_readAtom_1 (by decide) ?_
  have k_40 : (40 : Int32).toInt = 40 := by decide
  refine callV_Ei C S (c_X12_sign_f l D G a0 (40 : Int32) 40 T b ga0 (by omega) (by decide)) kV_X12_193 ga0 (⟨trivial, ts0⟩) (by decide +kernel) dX12_readAtom_3 hl.1 rfl rfl (by decide) cd_X12_sign ⟨Nat.le_of_ble_eq_true rfl, Nat.le_of_ble_eq_true rfl, Nat.le_of_ble_eq_true rfl, Nat.le_of_ble_eq_true rfl, Nat.le_of_ble_eq_true rfl⟩ (fun v1 H1 L1 S1 K1 q1 => ?_)
  obtain ⟨q1, fq1⟩ := q1
  have y1_13 : (fI D H1 11 a0 13).toInt = (fI D s.heap 11 a0 13).toInt := congrArg Int32.toInt (K1.fI ga0 rfl (by decide) (by decide +kernel))
  have y1_16 : (fI D H1 11 a0 16).toInt = (fI D s.heap 11 a0 16).toInt := congrArg Int32.toInt (K1.fI ga0 rfl (by decide) (by decide +kernel))
  have lq1 : Lq D s.heap H1 a0 := Lq.keep S.1 ga0 K1 (by decide +kernel) (by decide +kernel) (by decide +kernel)
  have tk1 : Lq D s.heap H1 a0 := tk0.trans lq1
  rcases fq1 with ⟨z1, y1, ts1, wr1⟩ | ⟨z1, y1, ts1, wr1⟩
  · skip
    have k_0 : (0 : Int32).toInt = 0 := by decide
    refine lv_if_eq (tgt := 56) hx hb dX12_readAtom_6 (by decide) (fun c2 => ?_) (fun c2 => ?_)
    · have b2 : v1.toInt = (0 : Int32).toInt := i_eq.mp c2
      exact absurd b2 (by omega)
    · have b2 : ¬ v1.toInt = (0 : Int32).toInt := fun z9 => c2 (i_eq.mpr z9)
      have yn3 : isW T b w_not = false := isS_nW y1
      refine lv_aload_n hx hb dX12_readAtom_9 rfl (lv_at hl 0 rfl) ?_
      have dd : (fI D H1 11 a0 13).toInt = 4 := by omega
      refine q_gi (T := TX12) C S1.1 ga0 13 kF_X12_197 dX12_readAtom_10 rfl rfl (by decide) rfl (by decide) rfl ?_
      have r4 : 0 ≤ (fI D H1 11 a0 13).toInt ∧ (fI D H1 11 a0 13).toInt ≤ 6 := S1.1.rng ga0 rfl (by decide) rfl
      refine lv_bipush (v := 6) hx hb dX12_readAtom_13 (by decide) ?_
      have k_6 : (6 : Int32).toInt = 6 := by decide
      refine lv_icmp_ne (tgt := 20) hx hb dX12_readAtom_15 (by decide) (fun c5 => ?_) (fun c5 => ?_)
      · have b5 : ¬ (fI D H1 11 a0 13).toInt = (6 : Int32).toInt := fun z9 => c5 (i_eq.mpr z9)
        refine lv_aload_n hx hb dX12_readAtom_20 rfl (lv_at hl 0 rfl) ?_
        refine lv_dup hx hb dX12_readAtom_21 rfl ?_
        refine q_gi (T := TX12) C S1.1 ga0 13 kF_X12_197 dX12_readAtom_22 rfl rfl (by decide) rfl (by decide) rfl ?_
        refine lv_iconst (v := 1) hx hb dX12_readAtom_25 (by decide) ?_
        have k_1 : (1 : Int32).toInt = 1 := by decide
        refine lv_iadd hx hb dX12_readAtom_26 ?_
        refine lv_topi (fun v6 ev6 => ?_)
        have f7 : v6.toInt = (fI D H1 11 a0 13).toInt + (1 : Int32).toInt := by rw [ev6]; exact i_add (by omega) (by omega)
        refine q_put (T := TX12) C S1 ga0 13 kF_X12_197 dX12_readAtom_27 rfl rfl (by decide) (by decide) rfl rfl rfl rfl rfl (vok_i rfl (by omega) (by omega)) (by decide +kernel) (fun H8 L8 S8 P8 => ?_)
        have y8_10 : (fI D H8 11 a0 10).toInt = (fI D H1 11 a0 10).toInt := congrArg Int32.toInt (Pt.o P8 (by decide) (by decide))
        have y8_12 : (fI D H8 11 a0 12).toInt = (fI D H1 11 a0 12).toInt := congrArg Int32.toInt (Pt.o P8 (by decide) (by decide))
        have y8_13 : (fI D H8 11 a0 13).toInt = v6.toInt := congrArg Int32.toInt (Pt.i P8)
        have y8_16 : (fI D H8 11 a0 16).toInt = (fI D H1 11 a0 16).toInt := congrArg Int32.toInt (Pt.o P8 (by decide) (by decide))
        have lq8 : Lq D H1 H8 a0 := Lq.put S1.1 ga0 P8 (by decide) (by decide)
        have tk8 : Lq D s.heap H8 a0 := tk1.trans lq8
        have rb8 := ts1.put S1.1 ga0 P8 (by decide) (by decide) (by decide)
        have bg8 : (fI D H8 11 a0 12).toInt = ((b : Nat) : Int) := by rw [Pt.o P8 (by decide) (by decide)]; exact wr1
        refine lv_aload_n hx hb dX12_readAtom_30 rfl (lv_at hl 0 rfl) ?_
        have rs9 : 0 ≤ (fI D H8 11 a0 16).toInt ∧ (fI D H8 11 a0 16).toInt ≤ 400 := S8.1.rng ga0 rfl (by decide) rfl
        have rp9 : 0 ≤ (fI D H8 11 a0 10).toInt ∧ (fI D H8 11 a0 10).toInt ≤ 400 := S8.1.rng ga0 rfl (by decide) rfl
        refine callV_Ei C S8 (c_X12_readCond_d5 l D G a0 T (nx T b) ga0) kV_X12_200 ga0 (⟨⟨by omega, by omega⟩, rb8⟩) (by decide +kernel) dX12_readAtom_31 hl.1 rfl rfl (by decide) cd_X12_readCond ⟨Nat.le_of_ble_eq_true rfl, Nat.le_of_ble_eq_true rfl, Nat.le_of_ble_eq_true rfl, Nat.le_of_ble_eq_true rfl, Nat.le_of_ble_eq_true rfl⟩ (fun v9 H9 L9 S9 K9 q9 => ?_)
        obtain ⟨q9, fq9⟩ := q9
        obtain ⟨q9, sa9, sx9, tq9⟩ := q9
        have lq9 : Lq D H8 H9 a0 := tq9
        have tk9 : Lq D s.heap H9 a0 := tk8.trans lq9
        rcases fq9 with ⟨c9, y9, z9, ts9⟩ | ⟨e9, y9, z9, wr9⟩
        · skip
          refine lv_if_ne (tgt := 39) hx hb dX12_readAtom_34 (by decide) (fun c10 => ?_) (fun c10 => ?_)
          · have b10 : ¬ v9.toInt = (0 : Int32).toInt := fun z9 => c10 (i_eq.mpr z9)
            refine lv_aload_n hx hb dX12_readAtom_39 rfl (lv_at hl 0 rfl) ?_
            refine lv_dup hx hb dX12_readAtom_40 rfl ?_
            refine q_gi (T := TX12) C S9.1 ga0 13 kF_X12_197 dX12_readAtom_41 rfl rfl (by decide) rfl (by decide) rfl ?_
            have r11 : 0 ≤ (fI D H9 11 a0 13).toInt ∧ (fI D H9 11 a0 13).toInt ≤ 6 := S9.1.rng ga0 rfl (by decide) rfl
            refine lv_iconst (v := 1) hx hb dX12_readAtom_44 (by decide) ?_
            refine lv_isub hx hb dX12_readAtom_45 ?_
            refine lv_topi (fun v12 ev12 => ?_)
            have f13 : v12.toInt = (fI D H9 11 a0 13).toInt - (1 : Int32).toInt := by rw [ev12]; exact i_sub (by omega) (by omega)
            refine q_put (T := TX12) C S9 ga0 13 kF_X12_197 dX12_readAtom_46 rfl rfl (by decide) (by decide) rfl rfl rfl rfl rfl (vok_i rfl (by omega) (by omega)) (by decide +kernel) (fun H14 L14 S14 P14 => ?_)
            have y14_10 : (fI D H14 11 a0 10).toInt = (fI D H9 11 a0 10).toInt := congrArg Int32.toInt (Pt.o P14 (by decide) (by decide))
            have y14_12 : (fI D H14 11 a0 12).toInt = (fI D H9 11 a0 12).toInt := congrArg Int32.toInt (Pt.o P14 (by decide) (by decide))
            have y14_13 : (fI D H14 11 a0 13).toInt = v12.toInt := congrArg Int32.toInt (Pt.i P14)
            have y14_16 : (fI D H14 11 a0 16).toInt = (fI D H9 11 a0 16).toInt := congrArg Int32.toInt (Pt.o P14 (by decide) (by decide))
            have lq14 : Lq D H9 H14 a0 := Lq.put S9.1 ga0 P14 (by decide) (by decide)
            have tk14 : Lq D s.heap H14 a0 := tk9.trans lq14
            have rb14 := ts9.put S9.1 ga0 P14 (by decide) (by decide) (by decide)
            have rs9 : 0 ≤ (fI D H14 11 a0 16).toInt ∧ (fI D H14 11 a0 16).toInt ≤ 400 := S14.1.rng ga0 rfl (by decide) rfl
            have rp9 : 0 ≤ (fI D H14 11 a0 10).toInt ∧ (fI D H14 11 a0 10).toInt ≤ 400 := S14.1.rng ga0 rfl (by decide) rfl
            refine lv_aload_n hx hb dX12_readAtom_49 rfl (lv_at hl 0 rfl) ?_
            refine lv_bipush (v := 41) hx hb dX12_readAtom_50 (by decide) ?_
            have k_41 : (41 : Int32).toInt = 41 := by decide
            refine callV_Ei C S14 (c_X12_sign_f l D G a0 (41 : Int32) 41 T c9 ga0 (by omega) (by decide)) kV_X12_193 ga0 (⟨trivial, rb14⟩) (by decide +kernel) dX12_readAtom_52 hl.1 rfl rfl (by decide) cd_X12_sign ⟨Nat.le_of_ble_eq_true rfl, Nat.le_of_ble_eq_true rfl, Nat.le_of_ble_eq_true rfl, Nat.le_of_ble_eq_true rfl, Nat.le_of_ble_eq_true rfl⟩ (fun v15 H15 L15 S15 K15 q15 => ?_)
            obtain ⟨q15, fq15⟩ := q15
            have y15_13 : (fI D H15 11 a0 13).toInt = (fI D H14 11 a0 13).toInt := congrArg Int32.toInt (K15.fI ga0 rfl (by decide) (by decide +kernel))
            have y15_16 : (fI D H15 11 a0 16).toInt = (fI D H14 11 a0 16).toInt := congrArg Int32.toInt (K15.fI ga0 rfl (by decide) (by decide +kernel))
            have lq15 : Lq D H14 H15 a0 := Lq.keep S14.1 ga0 K15 (by decide +kernel) (by decide +kernel) (by decide +kernel)
            have tk15 : Lq D s.heap H15 a0 := tk14.trans lq15
            rcases fq15 with ⟨z15, y15, ts15, wr15⟩ | ⟨z15, y15, ts15, wr15⟩
            · skip
              exact retE_z hQ C S15 hr dX12_readAtom_55 (z01 (by omega) (by omega)) (⟨⟨by omega, fun _ => by omega, fun _ => ((lq14.trans lq15).ex (sx9 (by omega)) (by omega)).at (by omega) (by omega), tk15⟩, RR.ok (by rw [atm_s]; simp [clo, tkS, tlF, cmpF, y1, yn3, y9, y15]) (by omega) ts15⟩)
            · skip
              exact retE_z hQ C S15 hr dX12_readAtom_55 (z01 (by omega) (by omega)) (⟨⟨by omega, fun _ => by omega, fun _ => ((lq14.trans lq15).ex (sx9 (by omega)) (by omega)).at (by omega) (by omega), tk15⟩, RR.no (by rw [atm_s]; simp [clo, tkS, tlF, cmpF, y1, yn3, y9, y15]) (by omega) wr15⟩)
          · have b10 : v9.toInt = (0 : Int32).toInt := i_eq.mp c10
            exact absurd b10 (by omega)
        · skip
          refine lv_if_ne (tgt := 39) hx hb dX12_readAtom_34 (by decide) (fun c16 => ?_) (fun c16 => ?_)
          · have b16 : ¬ v9.toInt = (0 : Int32).toInt := fun z9 => c16 (i_eq.mpr z9)
            exact absurd b16 (by omega)
          · have b16 : v9.toInt = (0 : Int32).toInt := i_eq.mp c16
            refine lv_iconst (v := 0) hx hb dX12_readAtom_37 (by decide) ?_
            exact retE_z hQ C S9 hr dX12_readAtom_38 (z01 (by omega) (by omega)) (⟨⟨by omega, fun h9 => absurd h9 (by decide), fun h9 => absurd h9 (by decide), tk9⟩, RR.no (by rw [atm_s]; simp [clo, tkS, tlF, cmpF, y1, yn3, y9]) (by omega) wr9⟩)
      · have b5 : (fI D H1 11 a0 13).toInt = (6 : Int32).toInt := i_eq.mp c5
        exact absurd b5 (by omega)
  · skip
    have k_0 : (0 : Int32).toInt = 0 := by decide
    refine lv_if_eq (tgt := 56) hx hb dX12_readAtom_6 (by decide) (fun c17 => ?_) (fun c17 => ?_)
    · have b17 : v1.toInt = (0 : Int32).toInt := i_eq.mp c17
      refine lv_aload_n hx hb dX12_readAtom_56 rfl (lv_at hl 0 rfl) ?_
      refine q_lds C ks_X12_203 dX12_readAtom_57 (fun a18 ha18 wa18 => ?_)
      refine callV_Ei C S1 (c_X12_passes_f l D G a0 a18 3 w_not T b ga0 ha18 (Wc.of wa18 kw_not) (by decide)) kV_X12_120 ga0 (⟨trivial, ts1⟩) (by decide +kernel) dX12_readAtom_59 hl.1 rfl rfl (by decide) cd_X12_passes ⟨Nat.le_of_ble_eq_true rfl, Nat.le_of_ble_eq_true rfl, Nat.le_of_ble_eq_true rfl, Nat.le_of_ble_eq_true rfl, Nat.le_of_ble_eq_true rfl⟩ (fun v19 H19 L19 S19 K19 q19 => ?_)
      obtain ⟨q19, fq19⟩ := q19
      have y19_13 : (fI D H19 11 a0 13).toInt = (fI D H1 11 a0 13).toInt := congrArg Int32.toInt (K19.fI ga0 rfl (by decide) (by decide +kernel))
      have y19_16 : (fI D H19 11 a0 16).toInt = (fI D H1 11 a0 16).toInt := congrArg Int32.toInt (K19.fI ga0 rfl (by decide) (by decide +kernel))
      have lq19 : Lq D H1 H19 a0 := Lq.keep S1.1 ga0 K19 (by decide +kernel) (by decide +kernel) (by decide +kernel)
      have tk19 : Lq D s.heap H19 a0 := tk1.trans lq19
      rcases fq19 with ⟨z19, y19, ts19, wr19⟩ | ⟨z19, y19, ts19, wr19⟩
      · skip
        refine lv_if_eq (tgt := 114) hx hb dX12_readAtom_62 (by decide) (fun c20 => ?_) (fun c20 => ?_)
        · have b20 : v19.toInt = (0 : Int32).toInt := i_eq.mp c20
          exact absurd b20 (by omega)
        · have b20 : ¬ v19.toInt = (0 : Int32).toInt := fun z9 => c20 (i_eq.mpr z9)
          refine lv_aload_n hx hb dX12_readAtom_65 rfl (lv_at hl 0 rfl) ?_
          have dd : (fI D H19 11 a0 13).toInt = 4 := by omega
          refine q_gi (T := TX12) C S19.1 ga0 13 kF_X12_197 dX12_readAtom_66 rfl rfl (by decide) rfl (by decide) rfl ?_
          have r21 : 0 ≤ (fI D H19 11 a0 13).toInt ∧ (fI D H19 11 a0 13).toInt ≤ 6 := S19.1.rng ga0 rfl (by decide) rfl
          refine lv_bipush (v := 6) hx hb dX12_readAtom_69 (by decide) ?_
          have k_6 : (6 : Int32).toInt = 6 := by decide
          refine lv_icmp_ne (tgt := 76) hx hb dX12_readAtom_71 (by decide) (fun c22 => ?_) (fun c22 => ?_)
          · have b22 : ¬ (fI D H19 11 a0 13).toInt = (6 : Int32).toInt := fun z9 => c22 (i_eq.mpr z9)
            refine lv_aload_n hx hb dX12_readAtom_76 rfl (lv_at hl 0 rfl) ?_
            refine lv_dup hx hb dX12_readAtom_77 rfl ?_
            refine q_gi (T := TX12) C S19.1 ga0 13 kF_X12_197 dX12_readAtom_78 rfl rfl (by decide) rfl (by decide) rfl ?_
            refine lv_iconst (v := 1) hx hb dX12_readAtom_81 (by decide) ?_
            have k_1 : (1 : Int32).toInt = 1 := by decide
            refine lv_iadd hx hb dX12_readAtom_82 ?_
            refine lv_topi (fun v23 ev23 => ?_)
            have f24 : v23.toInt = (fI D H19 11 a0 13).toInt + (1 : Int32).toInt := by rw [ev23]; exact i_add (by omega) (by omega)
            refine q_put (T := TX12) C S19 ga0 13 kF_X12_197 dX12_readAtom_83 rfl rfl (by decide) (by decide) rfl rfl rfl rfl rfl (vok_i rfl (by omega) (by omega)) (by decide +kernel) (fun H25 L25 S25 P25 => ?_)
            have y25_10 : (fI D H25 11 a0 10).toInt = (fI D H19 11 a0 10).toInt := congrArg Int32.toInt (Pt.o P25 (by decide) (by decide))
            have y25_12 : (fI D H25 11 a0 12).toInt = (fI D H19 11 a0 12).toInt := congrArg Int32.toInt (Pt.o P25 (by decide) (by decide))
            have y25_13 : (fI D H25 11 a0 13).toInt = v23.toInt := congrArg Int32.toInt (Pt.i P25)
            have y25_16 : (fI D H25 11 a0 16).toInt = (fI D H19 11 a0 16).toInt := congrArg Int32.toInt (Pt.o P25 (by decide) (by decide))
            have lq25 : Lq D H19 H25 a0 := Lq.put S19.1 ga0 P25 (by decide) (by decide)
            have tk25 : Lq D s.heap H25 a0 := tk19.trans lq25
            have rb25 := ts19.put S19.1 ga0 P25 (by decide) (by decide) (by decide)
            have bg25 : (fI D H25 11 a0 12).toInt = ((b : Nat) : Int) := by rw [Pt.o P25 (by decide) (by decide)]; exact wr19
            refine lv_aload_n hx hb dX12_readAtom_86 rfl (lv_at hl 0 rfl) ?_
            have rs9 : 0 ≤ (fI D H25 11 a0 16).toInt ∧ (fI D H25 11 a0 16).toInt ≤ 400 := S25.1.rng ga0 rfl (by decide) rfl
            have rp9 : 0 ≤ (fI D H25 11 a0 10).toInt ∧ (fI D H25 11 a0 10).toInt ≤ 400 := S25.1.rng ga0 rfl (by decide) rfl
            refine callV_Ei C S25 (c_X12_readAtom_d5 l D G a0 T (nx T b) ga0) kV_X12_205 ga0 (⟨⟨by omega, by omega⟩, rb25⟩) (by decide +kernel) dX12_readAtom_87 hl.1 rfl rfl (by decide) cd_X12_readAtom ⟨Nat.le_of_ble_eq_true rfl, Nat.le_of_ble_eq_true rfl, Nat.le_of_ble_eq_true rfl, Nat.le_of_ble_eq_true rfl, Nat.le_of_ble_eq_true rfl⟩ (fun v26 H26 L26 S26 K26 q26 => ?_)
            obtain ⟨q26, fq26⟩ := q26
            obtain ⟨q26, sa26, sx26, tq26⟩ := q26
            have lq26 : Lq D H25 H26 a0 := tq26
            have tk26 : Lq D s.heap H26 a0 := tk25.trans lq26
            rcases fq26 with ⟨c26, y26, z26, ts26⟩ | ⟨e26, y26, z26, wr26⟩
            · skip
              refine lv_if_ne (tgt := 95) hx hb dX12_readAtom_90 (by decide) (fun c27 => ?_) (fun c27 => ?_)
              · have b27 : ¬ v26.toInt = (0 : Int32).toInt := fun z9 => c27 (i_eq.mpr z9)
                refine lv_aload_n hx hb dX12_readAtom_95 rfl (lv_at hl 0 rfl) ?_
                refine lv_dup hx hb dX12_readAtom_96 rfl ?_
                refine q_gi (T := TX12) C S26.1 ga0 13 kF_X12_197 dX12_readAtom_97 rfl rfl (by decide) rfl (by decide) rfl ?_
                have r28 : 0 ≤ (fI D H26 11 a0 13).toInt ∧ (fI D H26 11 a0 13).toInt ≤ 6 := S26.1.rng ga0 rfl (by decide) rfl
                refine lv_iconst (v := 1) hx hb dX12_readAtom_100 (by decide) ?_
                refine lv_isub hx hb dX12_readAtom_101 ?_
                refine lv_topi (fun v29 ev29 => ?_)
                have f30 : v29.toInt = (fI D H26 11 a0 13).toInt - (1 : Int32).toInt := by rw [ev29]; exact i_sub (by omega) (by omega)
                refine q_put (T := TX12) C S26 ga0 13 kF_X12_197 dX12_readAtom_102 rfl rfl (by decide) (by decide) rfl rfl rfl rfl rfl (vok_i rfl (by omega) (by omega)) (by decide +kernel) (fun H31 L31 S31 P31 => ?_)
                have y31_10 : (fI D H31 11 a0 10).toInt = (fI D H26 11 a0 10).toInt := congrArg Int32.toInt (Pt.o P31 (by decide) (by decide))
                have y31_12 : (fI D H31 11 a0 12).toInt = (fI D H26 11 a0 12).toInt := congrArg Int32.toInt (Pt.o P31 (by decide) (by decide))
                have y31_13 : (fI D H31 11 a0 13).toInt = v29.toInt := congrArg Int32.toInt (Pt.i P31)
                have y31_16 : (fI D H31 11 a0 16).toInt = (fI D H26 11 a0 16).toInt := congrArg Int32.toInt (Pt.o P31 (by decide) (by decide))
                have lq31 : Lq D H26 H31 a0 := Lq.put S26.1 ga0 P31 (by decide) (by decide)
                have tk31 : Lq D s.heap H31 a0 := tk26.trans lq31
                have rb31 := ts26.put S26.1 ga0 P31 (by decide) (by decide) (by decide)
                refine lv_aload_n hx hb dX12_readAtom_105 rfl (lv_at hl 0 rfl) ?_
                refine lv_bipush (v := 15) hx hb dX12_readAtom_106 (by decide) ?_
                refine lv_iconst (v := 0) hx hb dX12_readAtom_108 (by decide) ?_
                have rs9 : 0 ≤ (fI D H31 11 a0 16).toInt ∧ (fI D H31 11 a0 16).toInt ≤ 400 := S31.1.rng ga0 rfl (by decide) rfl
                have rp9 : 0 ≤ (fI D H31 11 a0 10).toInt ∧ (fI D H31 11 a0 10).toInt ≤ 400 := S31.1.rng ga0 rfl (by decide) rfl
                have k_15 : (15 : Int32).toInt = 15 := by decide
                refine callV_Ev C S31 (c_X12_emits l D G a0 (15 : Int32) (0 : Int32) ga0) kV_X12_185 ga0 (by omega) (by decide +kernel) dX12_readAtom_109 hl.1 rfl rfl (by decide) cd_X12_emits ⟨Nat.le_of_ble_eq_true rfl, Nat.le_of_ble_eq_true rfl, Nat.le_of_ble_eq_true rfl, Nat.le_of_ble_eq_true rfl, Nat.le_of_ble_eq_true rfl⟩ (fun H32 L32 S32 K32 q32 => ?_)
                obtain ⟨qa32, qb32, tq32⟩ := q32
                have y32_10 : (fI D H32 11 a0 10).toInt = (fI D H31 11 a0 10).toInt := congrArg Int32.toInt (K32.fI ga0 rfl (by decide) (by decide +kernel))
                have y32_12 : (fI D H32 11 a0 12).toInt = (fI D H31 11 a0 12).toInt := congrArg Int32.toInt (K32.fI ga0 rfl (by decide) (by decide +kernel))
                have y32_13 : (fI D H32 11 a0 13).toInt = (fI D H31 11 a0 13).toInt := congrArg Int32.toInt (K32.fI ga0 rfl (by decide) (by decide +kernel))
                have lq32 : Lq D H31 H32 a0 := tq32
                have tk32 : Lq D s.heap H32 a0 := tk31.trans lq32
                have rb32 := rb31.keep S31.1 ga0 K32 (by decide +kernel)
                refine lv_iconst (v := 1) hx hb dX12_readAtom_112 (by decide) ?_
                exact retE_z hQ C S32 hr dX12_readAtom_113 (z01 (by omega) (by omega)) (⟨⟨by omega, fun _ => by omega, fun _ => (Ex.un (((lq31.trans lq32).ex (sx26 (by omega)) (by omega)).at (j' := (fI D H31 11 a0 16).toInt.toNat) rfl (by omega)) (by rw [qb32]; decide) rfl).at (by omega) (by omega), tk32⟩, RR.ok (by rw [atm_s]; simp [clo, tkS, tlF, cmpF, y1, y19, y26]) (by omega) rb32⟩)
              · have b27 : v26.toInt = (0 : Int32).toInt := i_eq.mp c27
                exact absurd b27 (by omega)
            · skip
              refine lv_if_ne (tgt := 95) hx hb dX12_readAtom_90 (by decide) (fun c33 => ?_) (fun c33 => ?_)
              · have b33 : ¬ v26.toInt = (0 : Int32).toInt := fun z9 => c33 (i_eq.mpr z9)
                exact absurd b33 (by omega)
              · have b33 : v26.toInt = (0 : Int32).toInt := i_eq.mp c33
                refine lv_iconst (v := 0) hx hb dX12_readAtom_93 (by decide) ?_
                exact retE_z hQ C S26 hr dX12_readAtom_94 (z01 (by omega) (by omega)) (⟨⟨by omega, fun h9 => absurd h9 (by decide), fun h9 => absurd h9 (by decide), tk26⟩, RR.no (by rw [atm_s]; simp [clo, tkS, tlF, cmpF, y1, y19, y26]) (by omega) wr26⟩)
          · have b22 : (fI D H19 11 a0 13).toInt = (6 : Int32).toInt := i_eq.mp c22
            exact absurd b22 (by omega)
      · skip
        refine lv_if_eq (tgt := 114) hx hb dX12_readAtom_62 (by decide) (fun c34 => ?_) (fun c34 => ?_)
        · have b34 : v19.toInt = (0 : Int32).toInt := i_eq.mp c34
          refine lv_aload_n hx hb dX12_readAtom_114 rfl (lv_at hl 0 rfl) ?_
          have rs9 : 0 ≤ (fI D H19 11 a0 16).toInt ∧ (fI D H19 11 a0 16).toInt ≤ 400 := S19.1.rng ga0 rfl (by decide) rfl
          have rp9 : 0 ≤ (fI D H19 11 a0 10).toInt ∧ (fI D H19 11 a0 10).toInt ≤ 400 := S19.1.rng ga0 rfl (by decide) rfl
          refine callV_Ei C S19 (c_X12_readTag l D G a0 T b ga0) kV_X12_208 ga0 (⟨by omega, ts19⟩) (by decide +kernel) dX12_readAtom_115 hl.1 rfl rfl (by decide) cd_X12_readTag ⟨Nat.le_of_ble_eq_true rfl, Nat.le_of_ble_eq_true rfl, Nat.le_of_ble_eq_true rfl, Nat.le_of_ble_eq_true rfl, Nat.le_of_ble_eq_true rfl⟩ (fun v35 H35 L35 S35 K35 q35 => ?_)
          obtain ⟨q35, fq35⟩ := q35
          obtain ⟨q35, sa35, sx35, tq35, sf35⟩ := q35
          have y35_13 : (fI D H35 11 a0 13).toInt = (fI D H19 11 a0 13).toInt := congrArg Int32.toInt (K35.fI ga0 rfl (by decide) (by decide +kernel))
          have lq35 : Lq D H19 H35 a0 := tq35
          have tk35 : Lq D s.heap H35 a0 := tk19.trans lq35
          rcases fq35 with ⟨z35, y35, ts35, wr35⟩ | ⟨z35, y35, ts35, wr35⟩
          · skip
            refine lv_if_eq (tgt := 123) hx hb dX12_readAtom_118 (by decide) (fun c36 => ?_) (fun c36 => ?_)
            · have b36 : v35.toInt = (0 : Int32).toInt := i_eq.mp c36
              exact absurd b36 (by omega)
            · have b36 : ¬ v35.toInt = (0 : Int32).toInt := fun z9 => c36 (i_eq.mpr z9)
              have yt37 : ¬ tru T b = -1 := tag_t y35
              refine lv_iconst (v := 1) hx hb dX12_readAtom_121 (by decide) ?_
              have k_1 : (1 : Int32).toInt = 1 := by decide
              exact retE_z hQ C S35 hr dX12_readAtom_122 (z01 (by omega) (by omega)) (⟨⟨by omega, fun _ => by omega, fun _ => (sx35 (by omega)).at (by omega) rfl, tk35⟩, RR.ok (by rw [atm_s]; simp [clo, tkS, tlF, cmpF, y1, y19, y35, yt37]) (by omega) ts35⟩)
          · skip
            refine lv_if_eq (tgt := 123) hx hb dX12_readAtom_118 (by decide) (fun c38 => ?_) (fun c38 => ?_)
            · have b38 : v35.toInt = (0 : Int32).toInt := i_eq.mp c38
              have yt39 : tru T b = -1 := tag_f y35
              refine lv_aload_n hx hb dX12_readAtom_123 rfl (lv_at hl 0 rfl) ?_
              have rs9 : 0 ≤ (fI D H35 11 a0 16).toInt ∧ (fI D H35 11 a0 16).toInt ≤ 400 := S35.1.rng ga0 rfl (by decide) rfl
              have rp9 : 0 ≤ (fI D H35 11 a0 10).toInt ∧ (fI D H35 11 a0 10).toInt ≤ 400 := S35.1.rng ga0 rfl (by decide) rfl
              refine callV_Ei C S35 (c_X12_readSum l D G a0 T b ga0) kV_X12_211 ga0 (⟨by omega, ts35⟩) (by decide +kernel) dX12_readAtom_124 hl.1 rfl rfl (by decide) cd_X12_readSum ⟨Nat.le_of_ble_eq_true rfl, Nat.le_of_ble_eq_true rfl, Nat.le_of_ble_eq_true rfl, Nat.le_of_ble_eq_true rfl, Nat.le_of_ble_eq_true rfl⟩ (fun v40 H40 L40 S40 K40 q40 => ?_)
              obtain ⟨q40, fq40⟩ := q40
              obtain ⟨q40, sa40, sx40, tq40⟩ := q40
              have y40_13 : (fI D H40 11 a0 13).toInt = (fI D H35 11 a0 13).toInt := congrArg Int32.toInt (K40.fI ga0 rfl (by decide) (by decide +kernel))
              have lq40 : Lq D H35 H40 a0 := tq40
              have tk40 : Lq D s.heap H40 a0 := tk35.trans lq40
              rcases fq40 with ⟨c40, y40, z40, ts40⟩ | ⟨e40, y40, z40, wr40⟩
              · skip
                refine lv_if_ne (tgt := 132) hx hb dX12_readAtom_127 (by decide) (fun c41 => ?_) (fun c41 => ?_)
                · have b41 : ¬ v40.toInt = (0 : Int32).toInt := fun z9 => c41 (i_eq.mpr z9)
                  refine lv_aload_n hx hb dX12_readAtom_132 rfl (lv_at hl 0 rfl) ?_
                  refine lv_bipush (v := 60) hx hb dX12_readAtom_133 (by decide) ?_
                  have k_60 : (60 : Int32).toInt = 60 := by decide
                  refine callV_Ei C S40 (c_X12_sign_f l D G a0 (60 : Int32) 60 T c40 ga0 (by omega) (by decide)) kV_X12_193 ga0 (⟨trivial, ts40⟩) (by decide +kernel) dX12_readAtom_135 hl.1 rfl rfl (by decide) cd_X12_sign ⟨Nat.le_of_ble_eq_true rfl, Nat.le_of_ble_eq_true rfl, Nat.le_of_ble_eq_true rfl, Nat.le_of_ble_eq_true rfl, Nat.le_of_ble_eq_true rfl⟩ (fun v42 H42 L42 S42 K42 q42 => ?_)
                  obtain ⟨q42, fq42⟩ := q42
                  have y42_13 : (fI D H42 11 a0 13).toInt = (fI D H40 11 a0 13).toInt := congrArg Int32.toInt (K42.fI ga0 rfl (by decide) (by decide +kernel))
                  have y42_16 : (fI D H42 11 a0 16).toInt = (fI D H40 11 a0 16).toInt := congrArg Int32.toInt (K42.fI ga0 rfl (by decide) (by decide +kernel))
                  have lq42 : Lq D H40 H42 a0 := Lq.keep S40.1 ga0 K42 (by decide +kernel) (by decide +kernel) (by decide +kernel)
                  have tk42 : Lq D s.heap H42 a0 := tk40.trans lq42
                  rcases fq42 with ⟨z42, y42, ts42, wr42⟩ | ⟨z42, y42, ts42, wr42⟩
                  · skip
                    refine lv_istore_n (lv' := [(1, .int v42), (0, .ref a0)]) hx hb dX12_readAtom_138 rfl hl (by decide) rfl (fun ls hl => ?_)
                    refine lv_iload_n hx hb dX12_readAtom_139 rfl (lv_at hl 0 rfl) ?_
                    refine lv_if_ne (tgt := 152) hx hb dX12_readAtom_140 (by decide) (fun c43 => ?_) (fun c43 => ?_)
                    · have b43 : ¬ v42.toInt = (0 : Int32).toInt := fun z9 => c43 (i_eq.mpr z9)
                      refine lv_aload_n hx hb dX12_readAtom_152 rfl (lv_at hl 1 rfl) ?_
                      have rs9 : 0 ≤ (fI D H42 11 a0 16).toInt ∧ (fI D H42 11 a0 16).toInt ≤ 400 := S42.1.rng ga0 rfl (by decide) rfl
                      have rp9 : 0 ≤ (fI D H42 11 a0 10).toInt ∧ (fI D H42 11 a0 10).toInt ≤ 400 := S42.1.rng ga0 rfl (by decide) rfl
                      refine callV_Ei C S42 (c_X12_readSum l D G a0 T (nx T c40) ga0) kV_X12_211 ga0 (⟨by omega, ts42⟩) (by decide +kernel) dX12_readAtom_153 hl.1 rfl rfl (by decide) cd_X12_readSum ⟨Nat.le_of_ble_eq_true rfl, Nat.le_of_ble_eq_true rfl, Nat.le_of_ble_eq_true rfl, Nat.le_of_ble_eq_true rfl, Nat.le_of_ble_eq_true rfl⟩ (fun v44 H44 L44 S44 K44 q44 => ?_)
                      obtain ⟨q44, fq44⟩ := q44
                      obtain ⟨q44, sa44, sx44, tq44⟩ := q44
                      have y44_13 : (fI D H44 11 a0 13).toInt = (fI D H42 11 a0 13).toInt := congrArg Int32.toInt (K44.fI ga0 rfl (by decide) (by decide +kernel))
                      have lq44 : Lq D H42 H44 a0 := tq44
                      have tk44 : Lq D s.heap H44 a0 := tk42.trans lq44
                      rcases fq44 with ⟨c44, y44, z44, ts44⟩ | ⟨e44, y44, z44, wr44⟩
                      · skip
                        refine lv_if_ne (tgt := 161) hx hb dX12_readAtom_156 (by decide) (fun c45 => ?_) (fun c45 => ?_)
                        · have b45 : ¬ v44.toInt = (0 : Int32).toInt := fun z9 => c45 (i_eq.mpr z9)
                          refine lv_aload_n hx hb dX12_readAtom_161 rfl (lv_at hl 1 rfl) ?_
                          refine lv_iload_n hx hb dX12_readAtom_162 rfl (lv_at hl 0 rfl) ?_
                          refine lv_if_eq (tgt := 171) hx hb dX12_readAtom_163 (by decide) (fun c46 => ?_) (fun c46 => ?_)
                          · have b46 : v42.toInt = (0 : Int32).toInt := i_eq.mp c46
                            exact absurd b46 (by omega)
                          · have b46 : ¬ v42.toInt = (0 : Int32).toInt := fun z9 => c46 (i_eq.mpr z9)
                            refine lv_bipush (v := 13) hx hb dX12_readAtom_166 (by decide) ?_
                            refine lv_goto (tgt := 173) hx hb dX12_readAtom_168 (by decide) ?_
                            refine lv_iconst (v := 0) hx hb dX12_readAtom_173 (by decide) ?_
                            have rs9 : 0 ≤ (fI D H44 11 a0 16).toInt ∧ (fI D H44 11 a0 16).toInt ≤ 400 := S44.1.rng ga0 rfl (by decide) rfl
                            have rp9 : 0 ≤ (fI D H44 11 a0 10).toInt ∧ (fI D H44 11 a0 10).toInt ≤ 400 := S44.1.rng ga0 rfl (by decide) rfl
                            have k_13 : (13 : Int32).toInt = 13 := by decide
                            refine callV_Ev C S44 (c_X12_emits l D G a0 (13 : Int32) (0 : Int32) ga0) kV_X12_185 ga0 (by omega) (by decide +kernel) dX12_readAtom_174 hl.1 rfl rfl (by decide) cd_X12_emits ⟨Nat.le_of_ble_eq_true rfl, Nat.le_of_ble_eq_true rfl, Nat.le_of_ble_eq_true rfl, Nat.le_of_ble_eq_true rfl, Nat.le_of_ble_eq_true rfl⟩ (fun H47 L47 S47 K47 q47 => ?_)
                            obtain ⟨qa47, qb47, tq47⟩ := q47
                            have y47_10 : (fI D H47 11 a0 10).toInt = (fI D H44 11 a0 10).toInt := congrArg Int32.toInt (K47.fI ga0 rfl (by decide) (by decide +kernel))
                            have y47_12 : (fI D H47 11 a0 12).toInt = (fI D H44 11 a0 12).toInt := congrArg Int32.toInt (K47.fI ga0 rfl (by decide) (by decide +kernel))
                            have y47_13 : (fI D H47 11 a0 13).toInt = (fI D H44 11 a0 13).toInt := congrArg Int32.toInt (K47.fI ga0 rfl (by decide) (by decide +kernel))
                            have lq47 : Lq D H44 H47 a0 := tq47
                            have tk47 : Lq D s.heap H47 a0 := tk44.trans lq47
                            have rb47 := ts44.keep S44.1 ga0 K47 (by decide +kernel)
                            refine lv_iconst (v := 1) hx hb dX12_readAtom_177 (by decide) ?_
                            have k_1 : (1 : Int32).toInt = 1 := by decide
                            exact retE_z hQ C S47 hr dX12_readAtom_178 (z01 (by omega) (by omega)) (⟨⟨by omega, fun _ => by omega, fun _ => (Ex.bin (((lq42.trans lq44).trans lq47).ex (sx40 (by omega)) (by omega)) ((lq47.ex (sx44 (by omega)) (by omega)).at (i' := (fI D H40 11 a0 16).toInt.toNat) (by omega) rfl) (by rw [qb47]; decide) rfl).at (by omega) (by omega), tk47⟩, RR.ok (by rw [atm_s]; simp [clo, tkS, tlF, cmpF, y1, y19, y35, yt39, y40, y42, y44]) (by omega) rb47⟩)
                        · have b45 : v44.toInt = (0 : Int32).toInt := i_eq.mp c45
                          exact absurd b45 (by omega)
                      · skip
                        refine lv_if_ne (tgt := 161) hx hb dX12_readAtom_156 (by decide) (fun c48 => ?_) (fun c48 => ?_)
                        · have b48 : ¬ v44.toInt = (0 : Int32).toInt := fun z9 => c48 (i_eq.mpr z9)
                          exact absurd b48 (by omega)
                        · have b48 : v44.toInt = (0 : Int32).toInt := i_eq.mp c48
                          refine lv_iconst (v := 0) hx hb dX12_readAtom_159 (by decide) ?_
                          exact retE_z hQ C S44 hr dX12_readAtom_160 (z01 (by omega) (by omega)) (⟨⟨by omega, fun h9 => absurd h9 (by decide), fun h9 => absurd h9 (by decide), tk44⟩, RR.no (by rw [atm_s]; simp [clo, tkS, tlF, cmpF, y1, y19, y35, yt39, y40, y42, y44]) (by omega) wr44⟩)
                    · have b43 : v42.toInt = (0 : Int32).toInt := i_eq.mp c43
                      exact absurd b43 (by omega)
                  · skip
                    refine lv_istore_n (lv' := [(1, .int v42), (0, .ref a0)]) hx hb dX12_readAtom_138 rfl hl (by decide) rfl (fun ls hl => ?_)
                    refine lv_iload_n hx hb dX12_readAtom_139 rfl (lv_at hl 0 rfl) ?_
                    refine lv_if_ne (tgt := 152) hx hb dX12_readAtom_140 (by decide) (fun c49 => ?_) (fun c49 => ?_)
                    · have b49 : ¬ v42.toInt = (0 : Int32).toInt := fun z9 => c49 (i_eq.mpr z9)
                      exact absurd b49 (by omega)
                    · have b49 : v42.toInt = (0 : Int32).toInt := i_eq.mp c49
                      refine lv_aload_n hx hb dX12_readAtom_143 rfl (lv_at hl 1 rfl) ?_
                      refine lv_bipush (v := 62) hx hb dX12_readAtom_144 (by decide) ?_
                      have k_62 : (62 : Int32).toInt = 62 := by decide
                      refine callV_Ei C S42 (c_X12_sign_f l D G a0 (62 : Int32) 62 T c40 ga0 (by omega) (by decide)) kV_X12_193 ga0 (⟨trivial, ts42⟩) (by decide +kernel) dX12_readAtom_146 hl.1 rfl rfl (by decide) cd_X12_sign ⟨Nat.le_of_ble_eq_true rfl, Nat.le_of_ble_eq_true rfl, Nat.le_of_ble_eq_true rfl, Nat.le_of_ble_eq_true rfl, Nat.le_of_ble_eq_true rfl⟩ (fun v50 H50 L50 S50 K50 q50 => ?_)
                      obtain ⟨q50, fq50⟩ := q50
                      have y50_13 : (fI D H50 11 a0 13).toInt = (fI D H42 11 a0 13).toInt := congrArg Int32.toInt (K50.fI ga0 rfl (by decide) (by decide +kernel))
                      have y50_16 : (fI D H50 11 a0 16).toInt = (fI D H42 11 a0 16).toInt := congrArg Int32.toInt (K50.fI ga0 rfl (by decide) (by decide +kernel))
                      have lq50 : Lq D H42 H50 a0 := Lq.keep S42.1 ga0 K50 (by decide +kernel) (by decide +kernel) (by decide +kernel)
                      have tk50 : Lq D s.heap H50 a0 := tk42.trans lq50
                      rcases fq50 with ⟨z50, y50, ts50, wr50⟩ | ⟨z50, y50, ts50, wr50⟩
                      · skip
                        refine lv_if_eq (tgt := 159) hx hb dX12_readAtom_149 (by decide) (fun c51 => ?_) (fun c51 => ?_)
                        · have b51 : v50.toInt = (0 : Int32).toInt := i_eq.mp c51
                          exact absurd b51 (by omega)
                        · have b51 : ¬ v50.toInt = (0 : Int32).toInt := fun z9 => c51 (i_eq.mpr z9)
                          refine lv_aload_n hx hb dX12_readAtom_152 rfl (lv_at hl 1 rfl) ?_
                          have rs9 : 0 ≤ (fI D H50 11 a0 16).toInt ∧ (fI D H50 11 a0 16).toInt ≤ 400 := S50.1.rng ga0 rfl (by decide) rfl
                          have rp9 : 0 ≤ (fI D H50 11 a0 10).toInt ∧ (fI D H50 11 a0 10).toInt ≤ 400 := S50.1.rng ga0 rfl (by decide) rfl
                          refine callV_Ei C S50 (c_X12_readSum l D G a0 T (nx T c40) ga0) kV_X12_211 ga0 (⟨by omega, ts50⟩) (by decide +kernel) dX12_readAtom_153 hl.1 rfl rfl (by decide) cd_X12_readSum ⟨Nat.le_of_ble_eq_true rfl, Nat.le_of_ble_eq_true rfl, Nat.le_of_ble_eq_true rfl, Nat.le_of_ble_eq_true rfl, Nat.le_of_ble_eq_true rfl⟩ (fun v52 H52 L52 S52 K52 q52 => ?_)
                          obtain ⟨q52, fq52⟩ := q52
                          obtain ⟨q52, sa52, sx52, tq52⟩ := q52
                          have y52_13 : (fI D H52 11 a0 13).toInt = (fI D H50 11 a0 13).toInt := congrArg Int32.toInt (K52.fI ga0 rfl (by decide) (by decide +kernel))
                          have lq52 : Lq D H50 H52 a0 := tq52
                          have tk52 : Lq D s.heap H52 a0 := tk50.trans lq52
                          rcases fq52 with ⟨c52, y52, z52, ts52⟩ | ⟨e52, y52, z52, wr52⟩
                          · skip
                            refine lv_if_ne (tgt := 161) hx hb dX12_readAtom_156 (by decide) (fun c53 => ?_) (fun c53 => ?_)
                            · have b53 : ¬ v52.toInt = (0 : Int32).toInt := fun z9 => c53 (i_eq.mpr z9)
                              refine lv_aload_n hx hb dX12_readAtom_161 rfl (lv_at hl 1 rfl) ?_
                              refine lv_iload_n hx hb dX12_readAtom_162 rfl (lv_at hl 0 rfl) ?_
                              refine lv_if_eq (tgt := 171) hx hb dX12_readAtom_163 (by decide) (fun c54 => ?_) (fun c54 => ?_)
                              · have b54 : v42.toInt = (0 : Int32).toInt := i_eq.mp c54
                                refine lv_bipush (v := 14) hx hb dX12_readAtom_171 (by decide) ?_
                                refine lv_iconst (v := 0) hx hb dX12_readAtom_173 (by decide) ?_
                                have rs9 : 0 ≤ (fI D H52 11 a0 16).toInt ∧ (fI D H52 11 a0 16).toInt ≤ 400 := S52.1.rng ga0 rfl (by decide) rfl
                                have rp9 : 0 ≤ (fI D H52 11 a0 10).toInt ∧ (fI D H52 11 a0 10).toInt ≤ 400 := S52.1.rng ga0 rfl (by decide) rfl
                                have k_14 : (14 : Int32).toInt = 14 := by decide
                                refine callV_Ev C S52 (c_X12_emits l D G a0 (14 : Int32) (0 : Int32) ga0) kV_X12_185 ga0 (by omega) (by decide +kernel) dX12_readAtom_174 hl.1 rfl rfl (by decide) cd_X12_emits ⟨Nat.le_of_ble_eq_true rfl, Nat.le_of_ble_eq_true rfl, Nat.le_of_ble_eq_true rfl, Nat.le_of_ble_eq_true rfl, Nat.le_of_ble_eq_true rfl⟩ (fun H55 L55 S55 K55 q55 => ?_)
                                obtain ⟨qa55, qb55, tq55⟩ := q55
                                have y55_10 : (fI D H55 11 a0 10).toInt = (fI D H52 11 a0 10).toInt := congrArg Int32.toInt (K55.fI ga0 rfl (by decide) (by decide +kernel))
                                have y55_12 : (fI D H55 11 a0 12).toInt = (fI D H52 11 a0 12).toInt := congrArg Int32.toInt (K55.fI ga0 rfl (by decide) (by decide +kernel))
                                have y55_13 : (fI D H55 11 a0 13).toInt = (fI D H52 11 a0 13).toInt := congrArg Int32.toInt (K55.fI ga0 rfl (by decide) (by decide +kernel))
                                have lq55 : Lq D H52 H55 a0 := tq55
                                have tk55 : Lq D s.heap H55 a0 := tk52.trans lq55
                                have rb55 := ts52.keep S52.1 ga0 K55 (by decide +kernel)
                                refine lv_iconst (v := 1) hx hb dX12_readAtom_177 (by decide) ?_
                                have k_1 : (1 : Int32).toInt = 1 := by decide
                                exact retE_z hQ C S55 hr dX12_readAtom_178 (z01 (by omega) (by omega)) (⟨⟨by omega, fun _ => by omega, fun _ => (Ex.bin ((((lq42.trans lq50).trans lq52).trans lq55).ex (sx40 (by omega)) (by omega)) ((lq55.ex (sx52 (by omega)) (by omega)).at (i' := (fI D H40 11 a0 16).toInt.toNat) (by omega) rfl) (by rw [qb55]; decide) rfl).at (by omega) (by omega), tk55⟩, RR.ok (by rw [atm_s]; simp [clo, tkS, tlF, cmpF, y1, y19, y35, yt39, y40, y42, y50, y52]) (by omega) rb55⟩)
                              · have b54 : ¬ v42.toInt = (0 : Int32).toInt := fun z9 => c54 (i_eq.mpr z9)
                                exact absurd b54 (by omega)
                            · have b53 : v52.toInt = (0 : Int32).toInt := i_eq.mp c53
                              exact absurd b53 (by omega)
                          · skip
                            refine lv_if_ne (tgt := 161) hx hb dX12_readAtom_156 (by decide) (fun c56 => ?_) (fun c56 => ?_)
                            · have b56 : ¬ v52.toInt = (0 : Int32).toInt := fun z9 => c56 (i_eq.mpr z9)
                              exact absurd b56 (by omega)
                            · have b56 : v52.toInt = (0 : Int32).toInt := i_eq.mp c56
                              refine lv_iconst (v := 0) hx hb dX12_readAtom_159 (by decide) ?_
                              exact retE_z hQ C S52 hr dX12_readAtom_160 (z01 (by omega) (by omega)) (⟨⟨by omega, fun h9 => absurd h9 (by decide), fun h9 => absurd h9 (by decide), tk52⟩, RR.no (by rw [atm_s]; simp [clo, tkS, tlF, cmpF, y1, y19, y35, yt39, y40, y42, y50, y52]) (by omega) wr52⟩)
                      · skip
                        refine lv_if_eq (tgt := 159) hx hb dX12_readAtom_149 (by decide) (fun c57 => ?_) (fun c57 => ?_)
                        · have b57 : v50.toInt = (0 : Int32).toInt := i_eq.mp c57
                          refine lv_iconst (v := 0) hx hb dX12_readAtom_159 (by decide) ?_
                          exact retE_z hQ C S50 hr dX12_readAtom_160 (z01 (by omega) (by omega)) (⟨⟨by omega, fun h9 => absurd h9 (by decide), fun h9 => absurd h9 (by decide), tk50⟩, RR.no (by rw [atm_s]; simp [clo, tkS, tlF, cmpF, y1, y19, y35, yt39, y40, y42, y50]) (by omega) wr50⟩)
                        · have b57 : ¬ v50.toInt = (0 : Int32).toInt := fun z9 => c57 (i_eq.mpr z9)
                          exact absurd b57 (by omega)
                · have b41 : v40.toInt = (0 : Int32).toInt := i_eq.mp c41
                  exact absurd b41 (by omega)
              · skip
                refine lv_if_ne (tgt := 132) hx hb dX12_readAtom_127 (by decide) (fun c58 => ?_) (fun c58 => ?_)
                · have b58 : ¬ v40.toInt = (0 : Int32).toInt := fun z9 => c58 (i_eq.mpr z9)
                  exact absurd b58 (by omega)
                · have b58 : v40.toInt = (0 : Int32).toInt := i_eq.mp c58
                  refine lv_iconst (v := 0) hx hb dX12_readAtom_130 (by decide) ?_
                  exact retE_z hQ C S40 hr dX12_readAtom_131 (z01 (by omega) (by omega)) (⟨⟨by omega, fun h9 => absurd h9 (by decide), fun h9 => absurd h9 (by decide), tk40⟩, RR.no (by rw [atm_s]; simp [clo, tkS, tlF, cmpF, y1, y19, y35, yt39, y40]) (by omega) wr40⟩)
            · have b38 : ¬ v35.toInt = (0 : Int32).toInt := fun z9 => c38 (i_eq.mpr z9)
              exact absurd b38 (by omega)
        · have b34 : ¬ v19.toInt = (0 : Int32).toInt := fun z9 => c34 (i_eq.mpr z9)
          exact absurd b34 (by omega)
    · have b17 : ¬ v1.toInt = (0 : Int32).toInt := fun z9 => c17 (i_eq.mpr z9)
      exact absurd b17 (by omega)

set_option maxRecDepth 100000 in
set_option maxHeartbeats 4000000 in
theorem c_X12_readAllOf_d4 (l : Launch) (D : DD) (G : Nat → Nat) (a0 : Nat) (T : Tx) (b : Nat) (ga0 : G a0 = 30) : CE l D G yX12_readAllOf cX12_readAllOf 1 (some .boolean) 14 [.ref a0] (fun H => ((fI D H 11 a0 13).toInt = 4 ∧ (fI D H 11 a0 16).toInt + 3 ≤ (fI D H 11 a0 10).toInt) ∧ (RB D H a0 T b)) [(30, 10), (30, 12), (30, 16), (31, 0), (30, 13)] (xI (fun H r H1 => ((0 ≤ r.toInt ∧ r.toInt ≤ 1) ∧ (r.toInt = 1 → (fI D H1 11 a0 16).toInt - (fI D H 11 a0 16).toInt ≤ (fI D H1 11 a0 10).toInt - (fI D H 11 a0 10).toInt ∧ (fI D H1 11 a0 13).toInt = (fI D H 11 a0 13).toInt ∧ (fI D H 11 a0 10).toInt ≤ (fI D H1 11 a0 10).toInt) ∧ (r.toInt = 1 → Ex (Cs D H1 a0) (fI D H 11 a0 16).toInt.toNat (fI D H1 11 a0 16).toInt.toNat) ∧ Lq D H H1 a0) ∧ (RR D H1 a0 T (allF T (atm T 2) b) r))) := by
  refine enter (by decide) (Nat.le_of_ble_eq_true rfl) ?_
  intro p e s m args below meth c ls Q hA hQ C hr hO hpre hl
  have hx := C.1
  have hb := C.2.1
  have S : Sd D G [(30, 10), (30, 12), (30, 16), (31, 0), (30, 13)] s.heap s.heap [] := Sd.start hO
  have hl : lv_has ls 1 [(0, .ref a0)] := hl
  have rs0 : 0 ≤ (fI D s.heap 11 a0 16).toInt ∧ (fI D s.heap 11 a0 16).toInt ≤ 400 := hO.rng ga0 rfl (by decide) rfl
  have rp0 : 0 ≤ (fI D s.heap 11 a0 10).toInt ∧ (fI D s.heap 11 a0 10).toInt ≤ 400 := hO.rng ga0 rfl (by decide) rfl
  obtain ⟨hpre, hf⟩ := hpre
  have ts0 := hf
  have hT : T.2 ≤ 400 := ts0.le hO ga0
  have tk0 : Lq D s.heap s.heap a0 := Lq.refl
  refine lv_aload_n hx hb dX12_readAllOf_0 rfl (lv_at hl 0 rfl) ?_
  refine callV_Ei C S (c_X12_readAtom_d4 l D G a0 T b ga0) kV_X12_205 ga0 (⟨hpre, ts0⟩) (by decide +kernel) dX12_readAllOf_1 hl.1 rfl rfl (by decide) cd_X12_readAtom ⟨Nat.le_of_ble_eq_true rfl, Nat.le_of_ble_eq_true rfl, Nat.le_of_ble_eq_true rfl, Nat.le_of_ble_eq_true rfl, Nat.le_of_ble_eq_true rfl⟩ (fun v1 H1 L1 S1 K1 q1 => ?_)
  obtain ⟨q1, fq1⟩ := q1
  obtain ⟨q1, sa1, sx1, tq1⟩ := q1
  have lq1 : Lq D s.heap H1 a0 := tq1
  have tk1 : Lq D s.heap H1 a0 := tk0.trans lq1
  rcases fq1 with ⟨c1, y1, z1, ts1⟩ | ⟨e1, y1, z1, wr1⟩
  · skip
    have k_0 : (0 : Int32).toInt = 0 := by decide
    refine lv_if_ne (tgt := 9) hx hb dX12_readAllOf_4 (by decide) (fun c2 => ?_) (fun c2 => ?_)
    · have b2 : ¬ v1.toInt = (0 : Int32).toInt := fun z9 => c2 (i_eq.mpr z9)
      have Lp9 : ∀ (n : Nat) (b_9 : Nat) (H_9 : Heap) (L_9 : List Loc) (ls : Array Slot), (Sd D G [(30, 10), (30, 12), (30, 16), (31, 0), (30, 13)] s.heap H_9 L_9) → (Ex (Cs D H_9 a0) (fI D s.heap 11 a0 16).toInt.toNat (fI D H_9 11 a0 16).toInt.toNat) → ((fI D H_9 11 a0 16).toInt - (fI D s.heap 11 a0 16).toInt ≤ (fI D H_9 11 a0 10).toInt - (fI D s.heap 11 a0 10).toInt ∧ (fI D H_9 11 a0 13).toInt = (fI D s.heap 11 a0 13).toInt ∧ (fI D s.heap 11 a0 10).toInt ≤ (fI D H_9 11 a0 10).toInt) → (RB D H_9 a0 T b_9) → (allF T (atm T 2) b = allT T (atm T 2) b_9) → (Lq D s.heap H_9 a0) → 401 - (fI D H_9 11 a0 10).toInt ≤ (n : Int) → lv_has ls 1 [(0, .ref a0)] → W p l e (rmU 14 0 0) s m args below meth c H_9 L_9 0 0 Q (F0 m 9 ls []) := by
        intro n
        induction n with
        | zero =>
          intro b_9 H_9 L_9 ls S_9 u9_0 u9_1 u9_2 u9_3 u9_4 hn hl
          have rz : 0 ≤ (fI D H_9 11 a0 10).toInt ∧ (fI D H_9 11 a0 10).toInt ≤ 400 := S_9.1.rng ga0 rfl (by decide) rfl
          exact absurd hn (by omega)
        | succ n ih9 =>
          intro b_9 H_9 L_9 ls S_9 u9_0 u9_1 u9_2 u9_3 u9_4 hn hl
          have rs9 : 0 ≤ (fI D H_9 11 a0 16).toInt ∧ (fI D H_9 11 a0 16).toInt ≤ 400 := S_9.1.rng ga0 rfl (by decide) rfl
          have rp9 : 0 ≤ (fI D H_9 11 a0 10).toInt ∧ (fI D H_9 11 a0 10).toInt ≤ 400 := S_9.1.rng ga0 rfl (by decide) rfl
          refine lv_aload_n hx hb dX12_readAllOf_9 rfl (lv_at hl 0 rfl) ?_
          refine q_lds C ks_X12_214 dX12_readAllOf_10 (fun a3 ha3 wa3 => ?_)
          refine callV_Ei C S_9 (c_X12_passes_f l D G a0 a3 3 w_and T b_9 ga0 ha3 (Wc.of wa3 kw_and) (by decide)) kV_X12_120 ga0 (⟨trivial, u9_2⟩) (by decide +kernel) dX12_readAllOf_12 hl.1 rfl rfl (by decide) cd_X12_passes ⟨Nat.le_of_ble_eq_true rfl, Nat.le_of_ble_eq_true rfl, Nat.le_of_ble_eq_true rfl, Nat.le_of_ble_eq_true rfl, Nat.le_of_ble_eq_true rfl⟩ (fun v4 H4 L4 S4 K4 q4 => ?_)
          obtain ⟨q4, fq4⟩ := q4
          have y4_13 : (fI D H4 11 a0 13).toInt = (fI D H_9 11 a0 13).toInt := congrArg Int32.toInt (K4.fI ga0 rfl (by decide) (by decide +kernel))
          have y4_16 : (fI D H4 11 a0 16).toInt = (fI D H_9 11 a0 16).toInt := congrArg Int32.toInt (K4.fI ga0 rfl (by decide) (by decide +kernel))
          have lq4 : Lq D H_9 H4 a0 := Lq.keep S_9.1 ga0 K4 (by decide +kernel) (by decide +kernel) (by decide +kernel)
          have tk4 : Lq D s.heap H4 a0 := u9_4.trans lq4
          rcases fq4 with ⟨z4, y4, ts4, wr4⟩ | ⟨z4, y4, ts4, wr4⟩
          · skip
            refine lv_if_eq (tgt := 37) hx hb dX12_readAllOf_15 (by decide) (fun c5 => ?_) (fun c5 => ?_)
            · have b5 : v4.toInt = (0 : Int32).toInt := i_eq.mp c5
              exact absurd b5 (by omega)
            · have b5 : ¬ v4.toInt = (0 : Int32).toInt := fun z9 => c5 (i_eq.mpr z9)
              refine lv_aload_n hx hb dX12_readAllOf_18 rfl (lv_at hl 0 rfl) ?_
              have rs9 : 0 ≤ (fI D H4 11 a0 16).toInt ∧ (fI D H4 11 a0 16).toInt ≤ 400 := S4.1.rng ga0 rfl (by decide) rfl
              have rp9 : 0 ≤ (fI D H4 11 a0 10).toInt ∧ (fI D H4 11 a0 10).toInt ≤ 400 := S4.1.rng ga0 rfl (by decide) rfl
              refine callV_Ei C S4 (c_X12_readAtom_d4 l D G a0 T (nx T b_9) ga0) kV_X12_205 ga0 (⟨⟨by omega, by omega⟩, ts4⟩) (by decide +kernel) dX12_readAllOf_19 hl.1 rfl rfl (by decide) cd_X12_readAtom ⟨Nat.le_of_ble_eq_true rfl, Nat.le_of_ble_eq_true rfl, Nat.le_of_ble_eq_true rfl, Nat.le_of_ble_eq_true rfl, Nat.le_of_ble_eq_true rfl⟩ (fun v6 H6 L6 S6 K6 q6 => ?_)
              obtain ⟨q6, fq6⟩ := q6
              obtain ⟨q6, sa6, sx6, tq6⟩ := q6
              have lq6 : Lq D H4 H6 a0 := tq6
              have tk6 : Lq D s.heap H6 a0 := tk4.trans lq6
              rcases fq6 with ⟨c6, y6, z6, ts6⟩ | ⟨e6, y6, z6, wr6⟩
              · skip
                refine lv_if_ne (tgt := 27) hx hb dX12_readAllOf_22 (by decide) (fun c7 => ?_) (fun c7 => ?_)
                · have b7 : ¬ v6.toInt = (0 : Int32).toInt := fun z9 => c7 (i_eq.mpr z9)
                  refine lv_aload_n hx hb dX12_readAllOf_27 rfl (lv_at hl 0 rfl) ?_
                  refine lv_bipush (v := 16) hx hb dX12_readAllOf_28 (by decide) ?_
                  refine lv_iconst (v := 0) hx hb dX12_readAllOf_30 (by decide) ?_
                  have rs9 : 0 ≤ (fI D H6 11 a0 16).toInt ∧ (fI D H6 11 a0 16).toInt ≤ 400 := S6.1.rng ga0 rfl (by decide) rfl
                  have rp9 : 0 ≤ (fI D H6 11 a0 10).toInt ∧ (fI D H6 11 a0 10).toInt ≤ 400 := S6.1.rng ga0 rfl (by decide) rfl
                  have k_16 : (16 : Int32).toInt = 16 := by decide
                  refine callV_Ev C S6 (c_X12_emits l D G a0 (16 : Int32) (0 : Int32) ga0) kV_X12_185 ga0 (by omega) (by decide +kernel) dX12_readAllOf_31 hl.1 rfl rfl (by decide) cd_X12_emits ⟨Nat.le_of_ble_eq_true rfl, Nat.le_of_ble_eq_true rfl, Nat.le_of_ble_eq_true rfl, Nat.le_of_ble_eq_true rfl, Nat.le_of_ble_eq_true rfl⟩ (fun H8 L8 S8 K8 q8 => ?_)
                  obtain ⟨qa8, qb8, tq8⟩ := q8
                  have y8_10 : (fI D H8 11 a0 10).toInt = (fI D H6 11 a0 10).toInt := congrArg Int32.toInt (K8.fI ga0 rfl (by decide) (by decide +kernel))
                  have y8_12 : (fI D H8 11 a0 12).toInt = (fI D H6 11 a0 12).toInt := congrArg Int32.toInt (K8.fI ga0 rfl (by decide) (by decide +kernel))
                  have y8_13 : (fI D H8 11 a0 13).toInt = (fI D H6 11 a0 13).toInt := congrArg Int32.toInt (K8.fI ga0 rfl (by decide) (by decide +kernel))
                  have lq8 : Lq D H6 H8 a0 := tq8
                  have tk8 : Lq D s.heap H8 a0 := tk6.trans lq8
                  have rb8 := ts6.keep S6.1 ga0 K8 (by decide +kernel)
                  refine lv_goto (tgt := 9) hx hb dX12_readAllOf_34 (by decide) ?_
                  have e9 : Ex (Cs D H8 a0) (fI D s.heap 11 a0 16).toInt.toNat (fI D H8 11 a0 16).toInt.toNat := (Ex.bin (((lq4.trans lq6).trans lq8).ex u9_0 (by omega)) ((lq8.ex (sx6 (by omega)) (by omega)).at (i' := (fI D H_9 11 a0 16).toInt.toNat) (by omega) rfl) (by rw [qb8]; decide) rfl).at (by omega) (by omega)
                  exact ih9 c6 H8 L8 ls S8 e9 (by omega) rb8 (u9_3.trans ((allT_t y4).trans (all_in (atm_on 2) hT y6))) tk8 (by omega) (lv_sub hl [0] rfl)
                · have b7 : v6.toInt = (0 : Int32).toInt := i_eq.mp c7
                  exact absurd b7 (by omega)
              · skip
                refine lv_if_ne (tgt := 27) hx hb dX12_readAllOf_22 (by decide) (fun c9 => ?_) (fun c9 => ?_)
                · have b9 : ¬ v6.toInt = (0 : Int32).toInt := fun z9 => c9 (i_eq.mpr z9)
                  exact absurd b9 (by omega)
                · have b9 : v6.toInt = (0 : Int32).toInt := i_eq.mp c9
                  refine lv_iconst (v := 0) hx hb dX12_readAllOf_25 (by decide) ?_
                  exact retE_z hQ C S6 hr dX12_readAllOf_26 (z01 (by omega) (by omega)) (⟨⟨by omega, fun h9 => absurd h9 (by decide), fun h9 => absurd h9 (by decide), tk6⟩, RR.no (u9_3.trans ((allT_t y4).trans (all_no (atm_on 2) hT y6))) (by omega) wr6⟩)
          · skip
            refine lv_if_eq (tgt := 37) hx hb dX12_readAllOf_15 (by decide) (fun c10 => ?_) (fun c10 => ?_)
            · have b10 : v4.toInt = (0 : Int32).toInt := i_eq.mp c10
              refine lv_iconst (v := 1) hx hb dX12_readAllOf_37 (by decide) ?_
              have k_1 : (1 : Int32).toInt = 1 := by decide
              exact retE_z hQ C S4 hr dX12_readAllOf_38 (z01 (by omega) (by omega)) (⟨⟨by omega, fun _ => by omega, fun _ => (lq4.ex u9_0 (by omega)).at (by omega) (by omega), tk4⟩, RR.ok (u9_3.trans (allT_f y4)) (by omega) ts4⟩)
            · have b10 : ¬ v4.toInt = (0 : Int32).toInt := fun z9 => c10 (i_eq.mpr z9)
              exact absurd b10 (by omega)
      have ex0 := sx1 (by omega)
      have rn : 0 ≤ (fI D H1 11 a0 10).toInt ∧ (fI D H1 11 a0 10).toInt ≤ 400 := S1.1.rng ga0 rfl (by decide) rfl
      exact Lp9 402 c1 H1 L1 ls S1 (ex0.at (by omega) rfl) (by omega) ts1 (all_in (atm_on 2) hT y1) tk1  (by omega) (lv_sub hl [0] rfl)
    · have b2 : v1.toInt = (0 : Int32).toInt := i_eq.mp c2
      exact absurd b2 (by omega)
  · skip
    have k_0 : (0 : Int32).toInt = 0 := by decide
    refine lv_if_ne (tgt := 9) hx hb dX12_readAllOf_4 (by decide) (fun c11 => ?_) (fun c11 => ?_)
    · have b11 : ¬ v1.toInt = (0 : Int32).toInt := fun z9 => c11 (i_eq.mpr z9)
      exact absurd b11 (by omega)
    · have b11 : v1.toInt = (0 : Int32).toInt := i_eq.mp c11
      refine lv_iconst (v := 0) hx hb dX12_readAllOf_7 (by decide) ?_
      exact retE_z hQ C S1 hr dX12_readAllOf_8 (z01 (by omega) (by omega)) (⟨⟨by omega, fun h9 => absurd h9 (by decide), fun h9 => absurd h9 (by decide), tk1⟩, RR.no (all_no (atm_on 2) hT y1) (by omega) wr1⟩)

set_option maxRecDepth 100000 in
set_option maxHeartbeats 4000000 in
theorem c_X12_readCond_d4 (l : Launch) (D : DD) (G : Nat → Nat) (a0 : Nat) (T : Tx) (b : Nat) (ga0 : G a0 = 30) : CE l D G yX12_readCond cX12_readCond 1 (some .boolean) 15 [.ref a0] (fun H => ((fI D H 11 a0 13).toInt = 4 ∧ (fI D H 11 a0 16).toInt + 3 ≤ (fI D H 11 a0 10).toInt) ∧ (RB D H a0 T b)) [(30, 10), (30, 12), (30, 16), (31, 0), (30, 13)] (xI (fun H r H1 => ((0 ≤ r.toInt ∧ r.toInt ≤ 1) ∧ (r.toInt = 1 → (fI D H1 11 a0 16).toInt - (fI D H 11 a0 16).toInt ≤ (fI D H1 11 a0 10).toInt - (fI D H 11 a0 10).toInt ∧ (fI D H1 11 a0 13).toInt = (fI D H 11 a0 13).toInt ∧ (fI D H 11 a0 10).toInt ≤ (fI D H1 11 a0 10).toInt) ∧ (r.toInt = 1 → Ex (Cs D H1 a0) (fI D H 11 a0 16).toInt.toNat (fI D H1 11 a0 16).toInt.toNat) ∧ Lq D H H1 a0) ∧ (RR D H1 a0 T (conF T (atm T 2) b) r))) := by
  refine enter (by decide) (Nat.le_of_ble_eq_true rfl) ?_
  intro p e s m args below meth c ls Q hA hQ C hr hO hpre hl
  have hx := C.1
  have hb := C.2.1
  have S : Sd D G [(30, 10), (30, 12), (30, 16), (31, 0), (30, 13)] s.heap s.heap [] := Sd.start hO
  have hl : lv_has ls 1 [(0, .ref a0)] := hl
  have rs0 : 0 ≤ (fI D s.heap 11 a0 16).toInt ∧ (fI D s.heap 11 a0 16).toInt ≤ 400 := hO.rng ga0 rfl (by decide) rfl
  have rp0 : 0 ≤ (fI D s.heap 11 a0 10).toInt ∧ (fI D s.heap 11 a0 10).toInt ≤ 400 := hO.rng ga0 rfl (by decide) rfl
  obtain ⟨hpre, hf⟩ := hpre
  have ts0 := hf
  have hT : T.2 ≤ 400 := ts0.le hO ga0
  have tk0 : Lq D s.heap s.heap a0 := Lq.refl
  refine lv_aload_n hx hb dX12_readCond_0 rfl (lv_at hl 0 rfl) ?_
  refine callV_Ei C S (c_X12_readAllOf_d4 l D G a0 T b ga0) kV_X12_216 ga0 (⟨hpre, ts0⟩) (by decide +kernel) dX12_readCond_1 hl.1 rfl rfl (by decide) cd_X12_readAllOf ⟨Nat.le_of_ble_eq_true rfl, Nat.le_of_ble_eq_true rfl, Nat.le_of_ble_eq_true rfl, Nat.le_of_ble_eq_true rfl, Nat.le_of_ble_eq_true rfl⟩ (fun v1 H1 L1 S1 K1 q1 => ?_)
  obtain ⟨q1, fq1⟩ := q1
  obtain ⟨q1, sa1, sx1, tq1⟩ := q1
  have lq1 : Lq D s.heap H1 a0 := tq1
  have tk1 : Lq D s.heap H1 a0 := tk0.trans lq1
  rcases fq1 with ⟨c1, y1, z1, ts1⟩ | ⟨e1, y1, z1, wr1⟩
  · skip
    have k_0 : (0 : Int32).toInt = 0 := by decide
    refine lv_if_ne (tgt := 9) hx hb dX12_readCond_4 (by decide) (fun c2 => ?_) (fun c2 => ?_)
    · have b2 : ¬ v1.toInt = (0 : Int32).toInt := fun z9 => c2 (i_eq.mpr z9)
      have Lp9 : ∀ (n : Nat) (b_9 : Nat) (H_9 : Heap) (L_9 : List Loc) (ls : Array Slot), (Sd D G [(30, 10), (30, 12), (30, 16), (31, 0), (30, 13)] s.heap H_9 L_9) → (Ex (Cs D H_9 a0) (fI D s.heap 11 a0 16).toInt.toNat (fI D H_9 11 a0 16).toInt.toNat) → ((fI D H_9 11 a0 16).toInt - (fI D s.heap 11 a0 16).toInt ≤ (fI D H_9 11 a0 10).toInt - (fI D s.heap 11 a0 10).toInt ∧ (fI D H_9 11 a0 13).toInt = (fI D s.heap 11 a0 13).toInt ∧ (fI D s.heap 11 a0 10).toInt ≤ (fI D H_9 11 a0 10).toInt) → (RB D H_9 a0 T b_9) → (conF T (atm T 2) b = conT T (atm T 2) b_9) → (Lq D s.heap H_9 a0) → 401 - (fI D H_9 11 a0 10).toInt ≤ (n : Int) → lv_has ls 1 [(0, .ref a0)] → W p l e (rmU 15 0 0) s m args below meth c H_9 L_9 0 0 Q (F0 m 9 ls []) := by
        intro n
        induction n with
        | zero =>
          intro b_9 H_9 L_9 ls S_9 u9_0 u9_1 u9_2 u9_3 u9_4 hn hl
          have rz : 0 ≤ (fI D H_9 11 a0 10).toInt ∧ (fI D H_9 11 a0 10).toInt ≤ 400 := S_9.1.rng ga0 rfl (by decide) rfl
          exact absurd hn (by omega)
        | succ n ih9 =>
          intro b_9 H_9 L_9 ls S_9 u9_0 u9_1 u9_2 u9_3 u9_4 hn hl
          have rs9 : 0 ≤ (fI D H_9 11 a0 16).toInt ∧ (fI D H_9 11 a0 16).toInt ≤ 400 := S_9.1.rng ga0 rfl (by decide) rfl
          have rp9 : 0 ≤ (fI D H_9 11 a0 10).toInt ∧ (fI D H_9 11 a0 10).toInt ≤ 400 := S_9.1.rng ga0 rfl (by decide) rfl
          refine lv_aload_n hx hb dX12_readCond_9 rfl (lv_at hl 0 rfl) ?_
          refine q_lds C ks_X12_219 dX12_readCond_10 (fun a3 ha3 wa3 => ?_)
          refine callV_Ei C S_9 (c_X12_passes_f l D G a0 a3 2 w_or T b_9 ga0 ha3 (Wc.of wa3 kw_or) (by decide)) kV_X12_120 ga0 (⟨trivial, u9_2⟩) (by decide +kernel) dX12_readCond_12 hl.1 rfl rfl (by decide) cd_X12_passes ⟨Nat.le_of_ble_eq_true rfl, Nat.le_of_ble_eq_true rfl, Nat.le_of_ble_eq_true rfl, Nat.le_of_ble_eq_true rfl, Nat.le_of_ble_eq_true rfl⟩ (fun v4 H4 L4 S4 K4 q4 => ?_)
          obtain ⟨q4, fq4⟩ := q4
          have y4_13 : (fI D H4 11 a0 13).toInt = (fI D H_9 11 a0 13).toInt := congrArg Int32.toInt (K4.fI ga0 rfl (by decide) (by decide +kernel))
          have y4_16 : (fI D H4 11 a0 16).toInt = (fI D H_9 11 a0 16).toInt := congrArg Int32.toInt (K4.fI ga0 rfl (by decide) (by decide +kernel))
          have lq4 : Lq D H_9 H4 a0 := Lq.keep S_9.1 ga0 K4 (by decide +kernel) (by decide +kernel) (by decide +kernel)
          have tk4 : Lq D s.heap H4 a0 := u9_4.trans lq4
          rcases fq4 with ⟨z4, y4, ts4, wr4⟩ | ⟨z4, y4, ts4, wr4⟩
          · skip
            refine lv_if_eq (tgt := 37) hx hb dX12_readCond_15 (by decide) (fun c5 => ?_) (fun c5 => ?_)
            · have b5 : v4.toInt = (0 : Int32).toInt := i_eq.mp c5
              exact absurd b5 (by omega)
            · have b5 : ¬ v4.toInt = (0 : Int32).toInt := fun z9 => c5 (i_eq.mpr z9)
              refine lv_aload_n hx hb dX12_readCond_18 rfl (lv_at hl 0 rfl) ?_
              have rs9 : 0 ≤ (fI D H4 11 a0 16).toInt ∧ (fI D H4 11 a0 16).toInt ≤ 400 := S4.1.rng ga0 rfl (by decide) rfl
              have rp9 : 0 ≤ (fI D H4 11 a0 10).toInt ∧ (fI D H4 11 a0 10).toInt ≤ 400 := S4.1.rng ga0 rfl (by decide) rfl
              refine callV_Ei C S4 (c_X12_readAllOf_d4 l D G a0 T (nx T b_9) ga0) kV_X12_216 ga0 (⟨⟨by omega, by omega⟩, ts4⟩) (by decide +kernel) dX12_readCond_19 hl.1 rfl rfl (by decide) cd_X12_readAllOf ⟨Nat.le_of_ble_eq_true rfl, Nat.le_of_ble_eq_true rfl, Nat.le_of_ble_eq_true rfl, Nat.le_of_ble_eq_true rfl, Nat.le_of_ble_eq_true rfl⟩ (fun v6 H6 L6 S6 K6 q6 => ?_)
              obtain ⟨q6, fq6⟩ := q6
              obtain ⟨q6, sa6, sx6, tq6⟩ := q6
              have lq6 : Lq D H4 H6 a0 := tq6
              have tk6 : Lq D s.heap H6 a0 := tk4.trans lq6
              rcases fq6 with ⟨c6, y6, z6, ts6⟩ | ⟨e6, y6, z6, wr6⟩
              · skip
                refine lv_if_ne (tgt := 27) hx hb dX12_readCond_22 (by decide) (fun c7 => ?_) (fun c7 => ?_)
                · have b7 : ¬ v6.toInt = (0 : Int32).toInt := fun z9 => c7 (i_eq.mpr z9)
                  refine lv_aload_n hx hb dX12_readCond_27 rfl (lv_at hl 0 rfl) ?_
                  refine lv_bipush (v := 17) hx hb dX12_readCond_28 (by decide) ?_
                  refine lv_iconst (v := 0) hx hb dX12_readCond_30 (by decide) ?_
                  have rs9 : 0 ≤ (fI D H6 11 a0 16).toInt ∧ (fI D H6 11 a0 16).toInt ≤ 400 := S6.1.rng ga0 rfl (by decide) rfl
                  have rp9 : 0 ≤ (fI D H6 11 a0 10).toInt ∧ (fI D H6 11 a0 10).toInt ≤ 400 := S6.1.rng ga0 rfl (by decide) rfl
                  have k_17 : (17 : Int32).toInt = 17 := by decide
                  refine callV_Ev C S6 (c_X12_emits l D G a0 (17 : Int32) (0 : Int32) ga0) kV_X12_185 ga0 (by omega) (by decide +kernel) dX12_readCond_31 hl.1 rfl rfl (by decide) cd_X12_emits ⟨Nat.le_of_ble_eq_true rfl, Nat.le_of_ble_eq_true rfl, Nat.le_of_ble_eq_true rfl, Nat.le_of_ble_eq_true rfl, Nat.le_of_ble_eq_true rfl⟩ (fun H8 L8 S8 K8 q8 => ?_)
                  obtain ⟨qa8, qb8, tq8⟩ := q8
                  have y8_10 : (fI D H8 11 a0 10).toInt = (fI D H6 11 a0 10).toInt := congrArg Int32.toInt (K8.fI ga0 rfl (by decide) (by decide +kernel))
                  have y8_12 : (fI D H8 11 a0 12).toInt = (fI D H6 11 a0 12).toInt := congrArg Int32.toInt (K8.fI ga0 rfl (by decide) (by decide +kernel))
                  have y8_13 : (fI D H8 11 a0 13).toInt = (fI D H6 11 a0 13).toInt := congrArg Int32.toInt (K8.fI ga0 rfl (by decide) (by decide +kernel))
                  have lq8 : Lq D H6 H8 a0 := tq8
                  have tk8 : Lq D s.heap H8 a0 := tk6.trans lq8
                  have rb8 := ts6.keep S6.1 ga0 K8 (by decide +kernel)
                  refine lv_goto (tgt := 9) hx hb dX12_readCond_34 (by decide) ?_
                  have e9 : Ex (Cs D H8 a0) (fI D s.heap 11 a0 16).toInt.toNat (fI D H8 11 a0 16).toInt.toNat := (Ex.bin (((lq4.trans lq6).trans lq8).ex u9_0 (by omega)) ((lq8.ex (sx6 (by omega)) (by omega)).at (i' := (fI D H_9 11 a0 16).toInt.toNat) (by omega) rfl) (by rw [qb8]; decide) rfl).at (by omega) (by omega)
                  exact ih9 c6 H8 L8 ls S8 e9 (by omega) rb8 (u9_3.trans ((conT_t y4).trans (con_in (atm_on 2) hT y6))) tk8 (by omega) (lv_sub hl [0] rfl)
                · have b7 : v6.toInt = (0 : Int32).toInt := i_eq.mp c7
                  exact absurd b7 (by omega)
              · skip
                refine lv_if_ne (tgt := 27) hx hb dX12_readCond_22 (by decide) (fun c9 => ?_) (fun c9 => ?_)
                · have b9 : ¬ v6.toInt = (0 : Int32).toInt := fun z9 => c9 (i_eq.mpr z9)
                  exact absurd b9 (by omega)
                · have b9 : v6.toInt = (0 : Int32).toInt := i_eq.mp c9
                  refine lv_iconst (v := 0) hx hb dX12_readCond_25 (by decide) ?_
                  exact retE_z hQ C S6 hr dX12_readCond_26 (z01 (by omega) (by omega)) (⟨⟨by omega, fun h9 => absurd h9 (by decide), fun h9 => absurd h9 (by decide), tk6⟩, RR.no (u9_3.trans ((conT_t y4).trans (con_no (atm_on 2) hT y6))) (by omega) wr6⟩)
          · skip
            refine lv_if_eq (tgt := 37) hx hb dX12_readCond_15 (by decide) (fun c10 => ?_) (fun c10 => ?_)
            · have b10 : v4.toInt = (0 : Int32).toInt := i_eq.mp c10
              refine lv_iconst (v := 1) hx hb dX12_readCond_37 (by decide) ?_
              have k_1 : (1 : Int32).toInt = 1 := by decide
              exact retE_z hQ C S4 hr dX12_readCond_38 (z01 (by omega) (by omega)) (⟨⟨by omega, fun _ => by omega, fun _ => (lq4.ex u9_0 (by omega)).at (by omega) (by omega), tk4⟩, RR.ok (u9_3.trans (conT_f y4)) (by omega) ts4⟩)
            · have b10 : ¬ v4.toInt = (0 : Int32).toInt := fun z9 => c10 (i_eq.mpr z9)
              exact absurd b10 (by omega)
      have ex0 := sx1 (by omega)
      have rn : 0 ≤ (fI D H1 11 a0 10).toInt ∧ (fI D H1 11 a0 10).toInt ≤ 400 := S1.1.rng ga0 rfl (by decide) rfl
      exact Lp9 402 c1 H1 L1 ls S1 (ex0.at (by omega) rfl) (by omega) ts1 (con_in (atm_on 2) hT y1) tk1  (by omega) (lv_sub hl [0] rfl)
    · have b2 : v1.toInt = (0 : Int32).toInt := i_eq.mp c2
      exact absurd b2 (by omega)
  · skip
    have k_0 : (0 : Int32).toInt = 0 := by decide
    refine lv_if_ne (tgt := 9) hx hb dX12_readCond_4 (by decide) (fun c11 => ?_) (fun c11 => ?_)
    · have b11 : ¬ v1.toInt = (0 : Int32).toInt := fun z9 => c11 (i_eq.mpr z9)
      exact absurd b11 (by omega)
    · have b11 : v1.toInt = (0 : Int32).toInt := i_eq.mp c11
      refine lv_iconst (v := 0) hx hb dX12_readCond_7 (by decide) ?_
      exact retE_z hQ C S1 hr dX12_readCond_8 (z01 (by omega) (by omega)) (⟨⟨by omega, fun h9 => absurd h9 (by decide), fun h9 => absurd h9 (by decide), tk1⟩, RR.no (con_no (atm_on 2) hT y1) (by omega) wr1⟩)

set_option maxRecDepth 100000 in
set_option maxHeartbeats 4000000 in
theorem c_X12_readAtom_d3 (l : Launch) (D : DD) (G : Nat → Nat) (a0 : Nat) (T : Tx) (b : Nat) (ga0 : G a0 = 30) : CE l D G yX12_readAtom cX12_readAtom 2 (some .boolean) 16 [.ref a0] (fun H => ((fI D H 11 a0 13).toInt = 3 ∧ (fI D H 11 a0 16).toInt + 3 ≤ (fI D H 11 a0 10).toInt) ∧ (RB D H a0 T b)) [(30, 10), (30, 12), (30, 16), (31, 0), (30, 13)] (xI (fun H r H1 => ((0 ≤ r.toInt ∧ r.toInt ≤ 1) ∧ (r.toInt = 1 → (fI D H1 11 a0 16).toInt - (fI D H 11 a0 16).toInt ≤ (fI D H1 11 a0 10).toInt - (fI D H 11 a0 10).toInt ∧ (fI D H1 11 a0 13).toInt = (fI D H 11 a0 13).toInt ∧ (fI D H 11 a0 10).toInt ≤ (fI D H1 11 a0 10).toInt) ∧ (r.toInt = 1 → Ex (Cs D H1 a0) (fI D H 11 a0 16).toInt.toNat (fI D H1 11 a0 16).toInt.toNat) ∧ Lq D H H1 a0) ∧ (RR D H1 a0 T (atm T 3 b) r))) := by
  refine enter (by decide) (Nat.le_of_ble_eq_true rfl) ?_
  intro p e s m args below meth c ls Q hA hQ C hr hO hpre hl
  have hx := C.1
  have hb := C.2.1
  have S : Sd D G [(30, 10), (30, 12), (30, 16), (31, 0), (30, 13)] s.heap s.heap [] := Sd.start hO
  have hl : lv_has ls 2 [(0, .ref a0)] := hl
  have rs0 : 0 ≤ (fI D s.heap 11 a0 16).toInt ∧ (fI D s.heap 11 a0 16).toInt ≤ 400 := hO.rng ga0 rfl (by decide) rfl
  have rp0 : 0 ≤ (fI D s.heap 11 a0 10).toInt ∧ (fI D s.heap 11 a0 10).toInt ≤ 400 := hO.rng ga0 rfl (by decide) rfl
  obtain ⟨hpre, hf⟩ := hpre
  have ts0 := hf
  have hT : T.2 ≤ 400 := ts0.le hO ga0
  have tk0 : Lq D s.heap s.heap a0 := Lq.refl
  refine lv_aload_n hx hb dX12_readAtom_0 rfl (lv_at hl 0 rfl) ?_
  refine lv_bipush (v := 40) hx hb dX12_readAtom_1 (by decide) ?_
  have k_40 : (40 : Int32).toInt = 40 := by decide
  refine callV_Ei C S (c_X12_sign_f l D G a0 (40 : Int32) 40 T b ga0 (by omega) (by decide)) kV_X12_193 ga0 (⟨trivial, ts0⟩) (by decide +kernel) dX12_readAtom_3 hl.1 rfl rfl (by decide) cd_X12_sign ⟨Nat.le_of_ble_eq_true rfl, Nat.le_of_ble_eq_true rfl, Nat.le_of_ble_eq_true rfl, Nat.le_of_ble_eq_true rfl, Nat.le_of_ble_eq_true rfl⟩ (fun v1 H1 L1 S1 K1 q1 => ?_)
  obtain ⟨q1, fq1⟩ := q1
  have y1_13 : (fI D H1 11 a0 13).toInt = (fI D s.heap 11 a0 13).toInt := congrArg Int32.toInt (K1.fI ga0 rfl (by decide) (by decide +kernel))
  have y1_16 : (fI D H1 11 a0 16).toInt = (fI D s.heap 11 a0 16).toInt := congrArg Int32.toInt (K1.fI ga0 rfl (by decide) (by decide +kernel))
  have lq1 : Lq D s.heap H1 a0 := Lq.keep S.1 ga0 K1 (by decide +kernel) (by decide +kernel) (by decide +kernel)
  have tk1 : Lq D s.heap H1 a0 := tk0.trans lq1
  rcases fq1 with ⟨z1, y1, ts1, wr1⟩ | ⟨z1, y1, ts1, wr1⟩
  · skip
    have k_0 : (0 : Int32).toInt = 0 := by decide
    refine lv_if_eq (tgt := 56) hx hb dX12_readAtom_6 (by decide) (fun c2 => ?_) (fun c2 => ?_)
    · have b2 : v1.toInt = (0 : Int32).toInt := i_eq.mp c2
      exact absurd b2 (by omega)
    · have b2 : ¬ v1.toInt = (0 : Int32).toInt := fun z9 => c2 (i_eq.mpr z9)
      have yn3 : isW T b w_not = false := isS_nW y1
      refine lv_aload_n hx hb dX12_readAtom_9 rfl (lv_at hl 0 rfl) ?_
      have dd : (fI D H1 11 a0 13).toInt = 3 := by omega
      refine q_gi (T := TX12) C S1.1 ga0 13 kF_X12_197 dX12_readAtom_10 rfl rfl (by decide) rfl (by decide) rfl ?_
      have r4 : 0 ≤ (fI D H1 11 a0 13).toInt ∧ (fI D H1 11 a0 13).toInt ≤ 6 := S1.1.rng ga0 rfl (by decide) rfl
      refine lv_bipush (v := 6) hx hb dX12_readAtom_13 (by decide) ?_
      have k_6 : (6 : Int32).toInt = 6 := by decide
      refine lv_icmp_ne (tgt := 20) hx hb dX12_readAtom_15 (by decide) (fun c5 => ?_) (fun c5 => ?_)
      · have b5 : ¬ (fI D H1 11 a0 13).toInt = (6 : Int32).toInt := fun z9 => c5 (i_eq.mpr z9)
        refine lv_aload_n hx hb dX12_readAtom_20 rfl (lv_at hl 0 rfl) ?_
        refine lv_dup hx hb dX12_readAtom_21 rfl ?_
        refine q_gi (T := TX12) C S1.1 ga0 13 kF_X12_197 dX12_readAtom_22 rfl rfl (by decide) rfl (by decide) rfl ?_
        refine lv_iconst (v := 1) hx hb dX12_readAtom_25 (by decide) ?_
        have k_1 : (1 : Int32).toInt = 1 := by decide
        refine lv_iadd hx hb dX12_readAtom_26 ?_
        refine lv_topi (fun v6 ev6 => ?_)
        have f7 : v6.toInt = (fI D H1 11 a0 13).toInt + (1 : Int32).toInt := by rw [ev6]; exact i_add (by omega) (by omega)
        refine q_put (T := TX12) C S1 ga0 13 kF_X12_197 dX12_readAtom_27 rfl rfl (by decide) (by decide) rfl rfl rfl rfl rfl (vok_i rfl (by omega) (by omega)) (by decide +kernel) (fun H8 L8 S8 P8 => ?_)
        have y8_10 : (fI D H8 11 a0 10).toInt = (fI D H1 11 a0 10).toInt := congrArg Int32.toInt (Pt.o P8 (by decide) (by decide))
        have y8_12 : (fI D H8 11 a0 12).toInt = (fI D H1 11 a0 12).toInt := congrArg Int32.toInt (Pt.o P8 (by decide) (by decide))
        have y8_13 : (fI D H8 11 a0 13).toInt = v6.toInt := congrArg Int32.toInt (Pt.i P8)
        have y8_16 : (fI D H8 11 a0 16).toInt = (fI D H1 11 a0 16).toInt := congrArg Int32.toInt (Pt.o P8 (by decide) (by decide))
        have lq8 : Lq D H1 H8 a0 := Lq.put S1.1 ga0 P8 (by decide) (by decide)
        have tk8 : Lq D s.heap H8 a0 := tk1.trans lq8
        have rb8 := ts1.put S1.1 ga0 P8 (by decide) (by decide) (by decide)
        have bg8 : (fI D H8 11 a0 12).toInt = ((b : Nat) : Int) := by rw [Pt.o P8 (by decide) (by decide)]; exact wr1
        refine lv_aload_n hx hb dX12_readAtom_30 rfl (lv_at hl 0 rfl) ?_
        have rs9 : 0 ≤ (fI D H8 11 a0 16).toInt ∧ (fI D H8 11 a0 16).toInt ≤ 400 := S8.1.rng ga0 rfl (by decide) rfl
        have rp9 : 0 ≤ (fI D H8 11 a0 10).toInt ∧ (fI D H8 11 a0 10).toInt ≤ 400 := S8.1.rng ga0 rfl (by decide) rfl
        refine callV_Ei C S8 (c_X12_readCond_d4 l D G a0 T (nx T b) ga0) kV_X12_200 ga0 (⟨⟨by omega, by omega⟩, rb8⟩) (by decide +kernel) dX12_readAtom_31 hl.1 rfl rfl (by decide) cd_X12_readCond ⟨Nat.le_of_ble_eq_true rfl, Nat.le_of_ble_eq_true rfl, Nat.le_of_ble_eq_true rfl, Nat.le_of_ble_eq_true rfl, Nat.le_of_ble_eq_true rfl⟩ (fun v9 H9 L9 S9 K9 q9 => ?_)
        obtain ⟨q9, fq9⟩ := q9
        obtain ⟨q9, sa9, sx9, tq9⟩ := q9
        have lq9 : Lq D H8 H9 a0 := tq9
        have tk9 : Lq D s.heap H9 a0 := tk8.trans lq9
        rcases fq9 with ⟨c9, y9, z9, ts9⟩ | ⟨e9, y9, z9, wr9⟩
        · skip
          refine lv_if_ne (tgt := 39) hx hb dX12_readAtom_34 (by decide) (fun c10 => ?_) (fun c10 => ?_)
          · have b10 : ¬ v9.toInt = (0 : Int32).toInt := fun z9 => c10 (i_eq.mpr z9)
            refine lv_aload_n hx hb dX12_readAtom_39 rfl (lv_at hl 0 rfl) ?_
            refine lv_dup hx hb dX12_readAtom_40 rfl ?_
            refine q_gi (T := TX12) C S9.1 ga0 13 kF_X12_197 dX12_readAtom_41 rfl rfl (by decide) rfl (by decide) rfl ?_
            have r11 : 0 ≤ (fI D H9 11 a0 13).toInt ∧ (fI D H9 11 a0 13).toInt ≤ 6 := S9.1.rng ga0 rfl (by decide) rfl
            refine lv_iconst (v := 1) hx hb dX12_readAtom_44 (by decide) ?_
            refine lv_isub hx hb dX12_readAtom_45 ?_
            refine lv_topi (fun v12 ev12 => ?_)
            have f13 : v12.toInt = (fI D H9 11 a0 13).toInt - (1 : Int32).toInt := by rw [ev12]; exact i_sub (by omega) (by omega)
            refine q_put (T := TX12) C S9 ga0 13 kF_X12_197 dX12_readAtom_46 rfl rfl (by decide) (by decide) rfl rfl rfl rfl rfl (vok_i rfl (by omega) (by omega)) (by decide +kernel) (fun H14 L14 S14 P14 => ?_)
            have y14_10 : (fI D H14 11 a0 10).toInt = (fI D H9 11 a0 10).toInt := congrArg Int32.toInt (Pt.o P14 (by decide) (by decide))
            have y14_12 : (fI D H14 11 a0 12).toInt = (fI D H9 11 a0 12).toInt := congrArg Int32.toInt (Pt.o P14 (by decide) (by decide))
            have y14_13 : (fI D H14 11 a0 13).toInt = v12.toInt := congrArg Int32.toInt (Pt.i P14)
            have y14_16 : (fI D H14 11 a0 16).toInt = (fI D H9 11 a0 16).toInt := congrArg Int32.toInt (Pt.o P14 (by decide) (by decide))
            have lq14 : Lq D H9 H14 a0 := Lq.put S9.1 ga0 P14 (by decide) (by decide)
            have tk14 : Lq D s.heap H14 a0 := tk9.trans lq14
            have rb14 := ts9.put S9.1 ga0 P14 (by decide) (by decide) (by decide)
            have rs9 : 0 ≤ (fI D H14 11 a0 16).toInt ∧ (fI D H14 11 a0 16).toInt ≤ 400 := S14.1.rng ga0 rfl (by decide) rfl
            have rp9 : 0 ≤ (fI D H14 11 a0 10).toInt ∧ (fI D H14 11 a0 10).toInt ≤ 400 := S14.1.rng ga0 rfl (by decide) rfl
            refine lv_aload_n hx hb dX12_readAtom_49 rfl (lv_at hl 0 rfl) ?_
            refine lv_bipush (v := 41) hx hb dX12_readAtom_50 (by decide) ?_
            have k_41 : (41 : Int32).toInt = 41 := by decide
            refine callV_Ei C S14 (c_X12_sign_f l D G a0 (41 : Int32) 41 T c9 ga0 (by omega) (by decide)) kV_X12_193 ga0 (⟨trivial, rb14⟩) (by decide +kernel) dX12_readAtom_52 hl.1 rfl rfl (by decide) cd_X12_sign ⟨Nat.le_of_ble_eq_true rfl, Nat.le_of_ble_eq_true rfl, Nat.le_of_ble_eq_true rfl, Nat.le_of_ble_eq_true rfl, Nat.le_of_ble_eq_true rfl⟩ (fun v15 H15 L15 S15 K15 q15 => ?_)
            obtain ⟨q15, fq15⟩ := q15
            have y15_13 : (fI D H15 11 a0 13).toInt = (fI D H14 11 a0 13).toInt := congrArg Int32.toInt (K15.fI ga0 rfl (by decide) (by decide +kernel))
            have y15_16 : (fI D H15 11 a0 16).toInt = (fI D H14 11 a0 16).toInt := congrArg Int32.toInt (K15.fI ga0 rfl (by decide) (by decide +kernel))
            have lq15 : Lq D H14 H15 a0 := Lq.keep S14.1 ga0 K15 (by decide +kernel) (by decide +kernel) (by decide +kernel)
            have tk15 : Lq D s.heap H15 a0 := tk14.trans lq15
            rcases fq15 with ⟨z15, y15, ts15, wr15⟩ | ⟨z15, y15, ts15, wr15⟩
            · skip
              exact retE_z hQ C S15 hr dX12_readAtom_55 (z01 (by omega) (by omega)) (⟨⟨by omega, fun _ => by omega, fun _ => ((lq14.trans lq15).ex (sx9 (by omega)) (by omega)).at (by omega) (by omega), tk15⟩, RR.ok (by rw [atm_s]; simp [clo, tkS, tlF, cmpF, y1, yn3, y9, y15]) (by omega) ts15⟩)
            · skip
              exact retE_z hQ C S15 hr dX12_readAtom_55 (z01 (by omega) (by omega)) (⟨⟨by omega, fun _ => by omega, fun _ => ((lq14.trans lq15).ex (sx9 (by omega)) (by omega)).at (by omega) (by omega), tk15⟩, RR.no (by rw [atm_s]; simp [clo, tkS, tlF, cmpF, y1, yn3, y9, y15]) (by omega) wr15⟩)
          · have b10 : v9.toInt = (0 : Int32).toInt := i_eq.mp c10
            exact absurd b10 (by omega)
        · skip
          refine lv_if_ne (tgt := 39) hx hb dX12_readAtom_34 (by decide) (fun c16 => ?_) (fun c16 => ?_)
          · have b16 : ¬ v9.toInt = (0 : Int32).toInt := fun z9 => c16 (i_eq.mpr z9)
            exact absurd b16 (by omega)
          · have b16 : v9.toInt = (0 : Int32).toInt := i_eq.mp c16
            refine lv_iconst (v := 0) hx hb dX12_readAtom_37 (by decide) ?_
            exact retE_z hQ C S9 hr dX12_readAtom_38 (z01 (by omega) (by omega)) (⟨⟨by omega, fun h9 => absurd h9 (by decide), fun h9 => absurd h9 (by decide), tk9⟩, RR.no (by rw [atm_s]; simp [clo, tkS, tlF, cmpF, y1, yn3, y9]) (by omega) wr9⟩)
      · have b5 : (fI D H1 11 a0 13).toInt = (6 : Int32).toInt := i_eq.mp c5
        exact absurd b5 (by omega)
  · skip
    have k_0 : (0 : Int32).toInt = 0 := by decide
    refine lv_if_eq (tgt := 56) hx hb dX12_readAtom_6 (by decide) (fun c17 => ?_) (fun c17 => ?_)
    · have b17 : v1.toInt = (0 : Int32).toInt := i_eq.mp c17
      refine lv_aload_n hx hb dX12_readAtom_56 rfl (lv_at hl 0 rfl) ?_
      refine q_lds C ks_X12_203 dX12_readAtom_57 (fun a18 ha18 wa18 => ?_)
      refine callV_Ei C S1 (c_X12_passes_f l D G a0 a18 3 w_not T b ga0 ha18 (Wc.of wa18 kw_not) (by decide)) kV_X12_120 ga0 (⟨trivial, ts1⟩) (by decide +kernel) dX12_readAtom_59 hl.1 rfl rfl (by decide) cd_X12_passes ⟨Nat.le_of_ble_eq_true rfl, Nat.le_of_ble_eq_true rfl, Nat.le_of_ble_eq_true rfl, Nat.le_of_ble_eq_true rfl, Nat.le_of_ble_eq_true rfl⟩ (fun v19 H19 L19 S19 K19 q19 => ?_)
      obtain ⟨q19, fq19⟩ := q19
      have y19_13 : (fI D H19 11 a0 13).toInt = (fI D H1 11 a0 13).toInt := congrArg Int32.toInt (K19.fI ga0 rfl (by decide) (by decide +kernel))
      have y19_16 : (fI D H19 11 a0 16).toInt = (fI D H1 11 a0 16).toInt := congrArg Int32.toInt (K19.fI ga0 rfl (by decide) (by decide +kernel))
      have lq19 : Lq D H1 H19 a0 := Lq.keep S1.1 ga0 K19 (by decide +kernel) (by decide +kernel) (by decide +kernel)
      have tk19 : Lq D s.heap H19 a0 := tk1.trans lq19
      rcases fq19 with ⟨z19, y19, ts19, wr19⟩ | ⟨z19, y19, ts19, wr19⟩
      · skip
        refine lv_if_eq (tgt := 114) hx hb dX12_readAtom_62 (by decide) (fun c20 => ?_) (fun c20 => ?_)
        · have b20 : v19.toInt = (0 : Int32).toInt := i_eq.mp c20
          exact absurd b20 (by omega)
        · have b20 : ¬ v19.toInt = (0 : Int32).toInt := fun z9 => c20 (i_eq.mpr z9)
          refine lv_aload_n hx hb dX12_readAtom_65 rfl (lv_at hl 0 rfl) ?_
          have dd : (fI D H19 11 a0 13).toInt = 3 := by omega
          refine q_gi (T := TX12) C S19.1 ga0 13 kF_X12_197 dX12_readAtom_66 rfl rfl (by decide) rfl (by decide) rfl ?_
          have r21 : 0 ≤ (fI D H19 11 a0 13).toInt ∧ (fI D H19 11 a0 13).toInt ≤ 6 := S19.1.rng ga0 rfl (by decide) rfl
          refine lv_bipush (v := 6) hx hb dX12_readAtom_69 (by decide) ?_
          have k_6 : (6 : Int32).toInt = 6 := by decide
          refine lv_icmp_ne (tgt := 76) hx hb dX12_readAtom_71 (by decide) (fun c22 => ?_) (fun c22 => ?_)
          · have b22 : ¬ (fI D H19 11 a0 13).toInt = (6 : Int32).toInt := fun z9 => c22 (i_eq.mpr z9)
            refine lv_aload_n hx hb dX12_readAtom_76 rfl (lv_at hl 0 rfl) ?_
            refine lv_dup hx hb dX12_readAtom_77 rfl ?_
            refine q_gi (T := TX12) C S19.1 ga0 13 kF_X12_197 dX12_readAtom_78 rfl rfl (by decide) rfl (by decide) rfl ?_
            refine lv_iconst (v := 1) hx hb dX12_readAtom_81 (by decide) ?_
            have k_1 : (1 : Int32).toInt = 1 := by decide
            refine lv_iadd hx hb dX12_readAtom_82 ?_
            refine lv_topi (fun v23 ev23 => ?_)
            have f24 : v23.toInt = (fI D H19 11 a0 13).toInt + (1 : Int32).toInt := by rw [ev23]; exact i_add (by omega) (by omega)
            refine q_put (T := TX12) C S19 ga0 13 kF_X12_197 dX12_readAtom_83 rfl rfl (by decide) (by decide) rfl rfl rfl rfl rfl (vok_i rfl (by omega) (by omega)) (by decide +kernel) (fun H25 L25 S25 P25 => ?_)
            have y25_10 : (fI D H25 11 a0 10).toInt = (fI D H19 11 a0 10).toInt := congrArg Int32.toInt (Pt.o P25 (by decide) (by decide))
            have y25_12 : (fI D H25 11 a0 12).toInt = (fI D H19 11 a0 12).toInt := congrArg Int32.toInt (Pt.o P25 (by decide) (by decide))
            have y25_13 : (fI D H25 11 a0 13).toInt = v23.toInt := congrArg Int32.toInt (Pt.i P25)
            have y25_16 : (fI D H25 11 a0 16).toInt = (fI D H19 11 a0 16).toInt := congrArg Int32.toInt (Pt.o P25 (by decide) (by decide))
            have lq25 : Lq D H19 H25 a0 := Lq.put S19.1 ga0 P25 (by decide) (by decide)
            have tk25 : Lq D s.heap H25 a0 := tk19.trans lq25
            have rb25 := ts19.put S19.1 ga0 P25 (by decide) (by decide) (by decide)
            have bg25 : (fI D H25 11 a0 12).toInt = ((b : Nat) : Int) := by rw [Pt.o P25 (by decide) (by decide)]; exact wr19
            refine lv_aload_n hx hb dX12_readAtom_86 rfl (lv_at hl 0 rfl) ?_
            have rs9 : 0 ≤ (fI D H25 11 a0 16).toInt ∧ (fI D H25 11 a0 16).toInt ≤ 400 := S25.1.rng ga0 rfl (by decide) rfl
            have rp9 : 0 ≤ (fI D H25 11 a0 10).toInt ∧ (fI D H25 11 a0 10).toInt ≤ 400 := S25.1.rng ga0 rfl (by decide) rfl
            refine callV_Ei C S25 (c_X12_readAtom_d4 l D G a0 T (nx T b) ga0) kV_X12_205 ga0 (⟨⟨by omega, by omega⟩, rb25⟩) (by decide +kernel) dX12_readAtom_87 hl.1 rfl rfl (by decide) cd_X12_readAtom ⟨Nat.le_of_ble_eq_true rfl, Nat.le_of_ble_eq_true rfl, Nat.le_of_ble_eq_true rfl, Nat.le_of_ble_eq_true rfl, Nat.le_of_ble_eq_true rfl⟩ (fun v26 H26 L26 S26 K26 q26 => ?_)
            obtain ⟨q26, fq26⟩ := q26
            obtain ⟨q26, sa26, sx26, tq26⟩ := q26
            have lq26 : Lq D H25 H26 a0 := tq26
            have tk26 : Lq D s.heap H26 a0 := tk25.trans lq26
            rcases fq26 with ⟨c26, y26, z26, ts26⟩ | ⟨e26, y26, z26, wr26⟩
            · skip
              refine lv_if_ne (tgt := 95) hx hb dX12_readAtom_90 (by decide) (fun c27 => ?_) (fun c27 => ?_)
              · have b27 : ¬ v26.toInt = (0 : Int32).toInt := fun z9 => c27 (i_eq.mpr z9)
                refine lv_aload_n hx hb dX12_readAtom_95 rfl (lv_at hl 0 rfl) ?_
                refine lv_dup hx hb dX12_readAtom_96 rfl ?_
                refine q_gi (T := TX12) C S26.1 ga0 13 kF_X12_197 dX12_readAtom_97 rfl rfl (by decide) rfl (by decide) rfl ?_
                have r28 : 0 ≤ (fI D H26 11 a0 13).toInt ∧ (fI D H26 11 a0 13).toInt ≤ 6 := S26.1.rng ga0 rfl (by decide) rfl
                refine lv_iconst (v := 1) hx hb dX12_readAtom_100 (by decide) ?_
                refine lv_isub hx hb dX12_readAtom_101 ?_
                refine lv_topi (fun v29 ev29 => ?_)
                have f30 : v29.toInt = (fI D H26 11 a0 13).toInt - (1 : Int32).toInt := by rw [ev29]; exact i_sub (by omega) (by omega)
                refine q_put (T := TX12) C S26 ga0 13 kF_X12_197 dX12_readAtom_102 rfl rfl (by decide) (by decide) rfl rfl rfl rfl rfl (vok_i rfl (by omega) (by omega)) (by decide +kernel) (fun H31 L31 S31 P31 => ?_)
                have y31_10 : (fI D H31 11 a0 10).toInt = (fI D H26 11 a0 10).toInt := congrArg Int32.toInt (Pt.o P31 (by decide) (by decide))
                have y31_12 : (fI D H31 11 a0 12).toInt = (fI D H26 11 a0 12).toInt := congrArg Int32.toInt (Pt.o P31 (by decide) (by decide))
                have y31_13 : (fI D H31 11 a0 13).toInt = v29.toInt := congrArg Int32.toInt (Pt.i P31)
                have y31_16 : (fI D H31 11 a0 16).toInt = (fI D H26 11 a0 16).toInt := congrArg Int32.toInt (Pt.o P31 (by decide) (by decide))
                have lq31 : Lq D H26 H31 a0 := Lq.put S26.1 ga0 P31 (by decide) (by decide)
                have tk31 : Lq D s.heap H31 a0 := tk26.trans lq31
                have rb31 := ts26.put S26.1 ga0 P31 (by decide) (by decide) (by decide)
                refine lv_aload_n hx hb dX12_readAtom_105 rfl (lv_at hl 0 rfl) ?_
                refine lv_bipush (v := 15) hx hb dX12_readAtom_106 (by decide) ?_
                refine lv_iconst (v := 0) hx hb dX12_readAtom_108 (by decide) ?_
                have rs9 : 0 ≤ (fI D H31 11 a0 16).toInt ∧ (fI D H31 11 a0 16).toInt ≤ 400 := S31.1.rng ga0 rfl (by decide) rfl
                have rp9 : 0 ≤ (fI D H31 11 a0 10).toInt ∧ (fI D H31 11 a0 10).toInt ≤ 400 := S31.1.rng ga0 rfl (by decide) rfl
                have k_15 : (15 : Int32).toInt = 15 := by decide
                refine callV_Ev C S31 (c_X12_emits l D G a0 (15 : Int32) (0 : Int32) ga0) kV_X12_185 ga0 (by omega) (by decide +kernel) dX12_readAtom_109 hl.1 rfl rfl (by decide) cd_X12_emits ⟨Nat.le_of_ble_eq_true rfl, Nat.le_of_ble_eq_true rfl, Nat.le_of_ble_eq_true rfl, Nat.le_of_ble_eq_true rfl, Nat.le_of_ble_eq_true rfl⟩ (fun H32 L32 S32 K32 q32 => ?_)
                obtain ⟨qa32, qb32, tq32⟩ := q32
                have y32_10 : (fI D H32 11 a0 10).toInt = (fI D H31 11 a0 10).toInt := congrArg Int32.toInt (K32.fI ga0 rfl (by decide) (by decide +kernel))
                have y32_12 : (fI D H32 11 a0 12).toInt = (fI D H31 11 a0 12).toInt := congrArg Int32.toInt (K32.fI ga0 rfl (by decide) (by decide +kernel))
                have y32_13 : (fI D H32 11 a0 13).toInt = (fI D H31 11 a0 13).toInt := congrArg Int32.toInt (K32.fI ga0 rfl (by decide) (by decide +kernel))
                have lq32 : Lq D H31 H32 a0 := tq32
                have tk32 : Lq D s.heap H32 a0 := tk31.trans lq32
                have rb32 := rb31.keep S31.1 ga0 K32 (by decide +kernel)
                refine lv_iconst (v := 1) hx hb dX12_readAtom_112 (by decide) ?_
                exact retE_z hQ C S32 hr dX12_readAtom_113 (z01 (by omega) (by omega)) (⟨⟨by omega, fun _ => by omega, fun _ => (Ex.un (((lq31.trans lq32).ex (sx26 (by omega)) (by omega)).at (j' := (fI D H31 11 a0 16).toInt.toNat) rfl (by omega)) (by rw [qb32]; decide) rfl).at (by omega) (by omega), tk32⟩, RR.ok (by rw [atm_s]; simp [clo, tkS, tlF, cmpF, y1, y19, y26]) (by omega) rb32⟩)
              · have b27 : v26.toInt = (0 : Int32).toInt := i_eq.mp c27
                exact absurd b27 (by omega)
            · skip
              refine lv_if_ne (tgt := 95) hx hb dX12_readAtom_90 (by decide) (fun c33 => ?_) (fun c33 => ?_)
              · have b33 : ¬ v26.toInt = (0 : Int32).toInt := fun z9 => c33 (i_eq.mpr z9)
                exact absurd b33 (by omega)
              · have b33 : v26.toInt = (0 : Int32).toInt := i_eq.mp c33
                refine lv_iconst (v := 0) hx hb dX12_readAtom_93 (by decide) ?_
                exact retE_z hQ C S26 hr dX12_readAtom_94 (z01 (by omega) (by omega)) (⟨⟨by omega, fun h9 => absurd h9 (by decide), fun h9 => absurd h9 (by decide), tk26⟩, RR.no (by rw [atm_s]; simp [clo, tkS, tlF, cmpF, y1, y19, y26]) (by omega) wr26⟩)
          · have b22 : (fI D H19 11 a0 13).toInt = (6 : Int32).toInt := i_eq.mp c22
            exact absurd b22 (by omega)
      · skip
        refine lv_if_eq (tgt := 114) hx hb dX12_readAtom_62 (by decide) (fun c34 => ?_) (fun c34 => ?_)
        · have b34 : v19.toInt = (0 : Int32).toInt := i_eq.mp c34
          refine lv_aload_n hx hb dX12_readAtom_114 rfl (lv_at hl 0 rfl) ?_
          have rs9 : 0 ≤ (fI D H19 11 a0 16).toInt ∧ (fI D H19 11 a0 16).toInt ≤ 400 := S19.1.rng ga0 rfl (by decide) rfl
          have rp9 : 0 ≤ (fI D H19 11 a0 10).toInt ∧ (fI D H19 11 a0 10).toInt ≤ 400 := S19.1.rng ga0 rfl (by decide) rfl
          refine callV_Ei C S19 (c_X12_readTag l D G a0 T b ga0) kV_X12_208 ga0 (⟨by omega, ts19⟩) (by decide +kernel) dX12_readAtom_115 hl.1 rfl rfl (by decide) cd_X12_readTag ⟨Nat.le_of_ble_eq_true rfl, Nat.le_of_ble_eq_true rfl, Nat.le_of_ble_eq_true rfl, Nat.le_of_ble_eq_true rfl, Nat.le_of_ble_eq_true rfl⟩ (fun v35 H35 L35 S35 K35 q35 => ?_)
          obtain ⟨q35, fq35⟩ := q35
          obtain ⟨q35, sa35, sx35, tq35, sf35⟩ := q35
          have y35_13 : (fI D H35 11 a0 13).toInt = (fI D H19 11 a0 13).toInt := congrArg Int32.toInt (K35.fI ga0 rfl (by decide) (by decide +kernel))
          have lq35 : Lq D H19 H35 a0 := tq35
          have tk35 : Lq D s.heap H35 a0 := tk19.trans lq35
          rcases fq35 with ⟨z35, y35, ts35, wr35⟩ | ⟨z35, y35, ts35, wr35⟩
          · skip
            refine lv_if_eq (tgt := 123) hx hb dX12_readAtom_118 (by decide) (fun c36 => ?_) (fun c36 => ?_)
            · have b36 : v35.toInt = (0 : Int32).toInt := i_eq.mp c36
              exact absurd b36 (by omega)
            · have b36 : ¬ v35.toInt = (0 : Int32).toInt := fun z9 => c36 (i_eq.mpr z9)
              have yt37 : ¬ tru T b = -1 := tag_t y35
              refine lv_iconst (v := 1) hx hb dX12_readAtom_121 (by decide) ?_
              have k_1 : (1 : Int32).toInt = 1 := by decide
              exact retE_z hQ C S35 hr dX12_readAtom_122 (z01 (by omega) (by omega)) (⟨⟨by omega, fun _ => by omega, fun _ => (sx35 (by omega)).at (by omega) rfl, tk35⟩, RR.ok (by rw [atm_s]; simp [clo, tkS, tlF, cmpF, y1, y19, y35, yt37]) (by omega) ts35⟩)
          · skip
            refine lv_if_eq (tgt := 123) hx hb dX12_readAtom_118 (by decide) (fun c38 => ?_) (fun c38 => ?_)
            · have b38 : v35.toInt = (0 : Int32).toInt := i_eq.mp c38
              have yt39 : tru T b = -1 := tag_f y35
              refine lv_aload_n hx hb dX12_readAtom_123 rfl (lv_at hl 0 rfl) ?_
              have rs9 : 0 ≤ (fI D H35 11 a0 16).toInt ∧ (fI D H35 11 a0 16).toInt ≤ 400 := S35.1.rng ga0 rfl (by decide) rfl
              have rp9 : 0 ≤ (fI D H35 11 a0 10).toInt ∧ (fI D H35 11 a0 10).toInt ≤ 400 := S35.1.rng ga0 rfl (by decide) rfl
              refine callV_Ei C S35 (c_X12_readSum l D G a0 T b ga0) kV_X12_211 ga0 (⟨by omega, ts35⟩) (by decide +kernel) dX12_readAtom_124 hl.1 rfl rfl (by decide) cd_X12_readSum ⟨Nat.le_of_ble_eq_true rfl, Nat.le_of_ble_eq_true rfl, Nat.le_of_ble_eq_true rfl, Nat.le_of_ble_eq_true rfl, Nat.le_of_ble_eq_true rfl⟩ (fun v40 H40 L40 S40 K40 q40 => ?_)
              obtain ⟨q40, fq40⟩ := q40
              obtain ⟨q40, sa40, sx40, tq40⟩ := q40
              have y40_13 : (fI D H40 11 a0 13).toInt = (fI D H35 11 a0 13).toInt := congrArg Int32.toInt (K40.fI ga0 rfl (by decide) (by decide +kernel))
              have lq40 : Lq D H35 H40 a0 := tq40
              have tk40 : Lq D s.heap H40 a0 := tk35.trans lq40
              rcases fq40 with ⟨c40, y40, z40, ts40⟩ | ⟨e40, y40, z40, wr40⟩
              · skip
                refine lv_if_ne (tgt := 132) hx hb dX12_readAtom_127 (by decide) (fun c41 => ?_) (fun c41 => ?_)
                · have b41 : ¬ v40.toInt = (0 : Int32).toInt := fun z9 => c41 (i_eq.mpr z9)
                  refine lv_aload_n hx hb dX12_readAtom_132 rfl (lv_at hl 0 rfl) ?_
                  refine lv_bipush (v := 60) hx hb dX12_readAtom_133 (by decide) ?_
                  have k_60 : (60 : Int32).toInt = 60 := by decide
                  refine callV_Ei C S40 (c_X12_sign_f l D G a0 (60 : Int32) 60 T c40 ga0 (by omega) (by decide)) kV_X12_193 ga0 (⟨trivial, ts40⟩) (by decide +kernel) dX12_readAtom_135 hl.1 rfl rfl (by decide) cd_X12_sign ⟨Nat.le_of_ble_eq_true rfl, Nat.le_of_ble_eq_true rfl, Nat.le_of_ble_eq_true rfl, Nat.le_of_ble_eq_true rfl, Nat.le_of_ble_eq_true rfl⟩ (fun v42 H42 L42 S42 K42 q42 => ?_)
                  obtain ⟨q42, fq42⟩ := q42
                  have y42_13 : (fI D H42 11 a0 13).toInt = (fI D H40 11 a0 13).toInt := congrArg Int32.toInt (K42.fI ga0 rfl (by decide) (by decide +kernel))
                  have y42_16 : (fI D H42 11 a0 16).toInt = (fI D H40 11 a0 16).toInt := congrArg Int32.toInt (K42.fI ga0 rfl (by decide) (by decide +kernel))
                  have lq42 : Lq D H40 H42 a0 := Lq.keep S40.1 ga0 K42 (by decide +kernel) (by decide +kernel) (by decide +kernel)
                  have tk42 : Lq D s.heap H42 a0 := tk40.trans lq42
                  rcases fq42 with ⟨z42, y42, ts42, wr42⟩ | ⟨z42, y42, ts42, wr42⟩
                  · skip
                    refine lv_istore_n (lv' := [(1, .int v42), (0, .ref a0)]) hx hb dX12_readAtom_138 rfl hl (by decide) rfl (fun ls hl => ?_)
                    refine lv_iload_n hx hb dX12_readAtom_139 rfl (lv_at hl 0 rfl) ?_
                    refine lv_if_ne (tgt := 152) hx hb dX12_readAtom_140 (by decide) (fun c43 => ?_) (fun c43 => ?_)
                    · have b43 : ¬ v42.toInt = (0 : Int32).toInt := fun z9 => c43 (i_eq.mpr z9)
                      refine lv_aload_n hx hb dX12_readAtom_152 rfl (lv_at hl 1 rfl) ?_
                      have rs9 : 0 ≤ (fI D H42 11 a0 16).toInt ∧ (fI D H42 11 a0 16).toInt ≤ 400 := S42.1.rng ga0 rfl (by decide) rfl
                      have rp9 : 0 ≤ (fI D H42 11 a0 10).toInt ∧ (fI D H42 11 a0 10).toInt ≤ 400 := S42.1.rng ga0 rfl (by decide) rfl
                      refine callV_Ei C S42 (c_X12_readSum l D G a0 T (nx T c40) ga0) kV_X12_211 ga0 (⟨by omega, ts42⟩) (by decide +kernel) dX12_readAtom_153 hl.1 rfl rfl (by decide) cd_X12_readSum ⟨Nat.le_of_ble_eq_true rfl, Nat.le_of_ble_eq_true rfl, Nat.le_of_ble_eq_true rfl, Nat.le_of_ble_eq_true rfl, Nat.le_of_ble_eq_true rfl⟩ (fun v44 H44 L44 S44 K44 q44 => ?_)
                      obtain ⟨q44, fq44⟩ := q44
                      obtain ⟨q44, sa44, sx44, tq44⟩ := q44
                      have y44_13 : (fI D H44 11 a0 13).toInt = (fI D H42 11 a0 13).toInt := congrArg Int32.toInt (K44.fI ga0 rfl (by decide) (by decide +kernel))
                      have lq44 : Lq D H42 H44 a0 := tq44
                      have tk44 : Lq D s.heap H44 a0 := tk42.trans lq44
                      rcases fq44 with ⟨c44, y44, z44, ts44⟩ | ⟨e44, y44, z44, wr44⟩
                      · skip
                        refine lv_if_ne (tgt := 161) hx hb dX12_readAtom_156 (by decide) (fun c45 => ?_) (fun c45 => ?_)
                        · have b45 : ¬ v44.toInt = (0 : Int32).toInt := fun z9 => c45 (i_eq.mpr z9)
                          refine lv_aload_n hx hb dX12_readAtom_161 rfl (lv_at hl 1 rfl) ?_
                          refine lv_iload_n hx hb dX12_readAtom_162 rfl (lv_at hl 0 rfl) ?_
                          refine lv_if_eq (tgt := 171) hx hb dX12_readAtom_163 (by decide) (fun c46 => ?_) (fun c46 => ?_)
                          · have b46 : v42.toInt = (0 : Int32).toInt := i_eq.mp c46
                            exact absurd b46 (by omega)
                          · have b46 : ¬ v42.toInt = (0 : Int32).toInt := fun z9 => c46 (i_eq.mpr z9)
                            refine lv_bipush (v := 13) hx hb dX12_readAtom_166 (by decide) ?_
                            refine lv_goto (tgt := 173) hx hb dX12_readAtom_168 (by decide) ?_
                            refine lv_iconst (v := 0) hx hb dX12_readAtom_173 (by decide) ?_
                            have rs9 : 0 ≤ (fI D H44 11 a0 16).toInt ∧ (fI D H44 11 a0 16).toInt ≤ 400 := S44.1.rng ga0 rfl (by decide) rfl
                            have rp9 : 0 ≤ (fI D H44 11 a0 10).toInt ∧ (fI D H44 11 a0 10).toInt ≤ 400 := S44.1.rng ga0 rfl (by decide) rfl
                            have k_13 : (13 : Int32).toInt = 13 := by decide
                            refine callV_Ev C S44 (c_X12_emits l D G a0 (13 : Int32) (0 : Int32) ga0) kV_X12_185 ga0 (by omega) (by decide +kernel) dX12_readAtom_174 hl.1 rfl rfl (by decide) cd_X12_emits ⟨Nat.le_of_ble_eq_true rfl, Nat.le_of_ble_eq_true rfl, Nat.le_of_ble_eq_true rfl, Nat.le_of_ble_eq_true rfl, Nat.le_of_ble_eq_true rfl⟩ (fun H47 L47 S47 K47 q47 => ?_)
                            obtain ⟨qa47, qb47, tq47⟩ := q47
                            have y47_10 : (fI D H47 11 a0 10).toInt = (fI D H44 11 a0 10).toInt := congrArg Int32.toInt (K47.fI ga0 rfl (by decide) (by decide +kernel))
                            have y47_12 : (fI D H47 11 a0 12).toInt = (fI D H44 11 a0 12).toInt := congrArg Int32.toInt (K47.fI ga0 rfl (by decide) (by decide +kernel))
                            have y47_13 : (fI D H47 11 a0 13).toInt = (fI D H44 11 a0 13).toInt := congrArg Int32.toInt (K47.fI ga0 rfl (by decide) (by decide +kernel))
                            have lq47 : Lq D H44 H47 a0 := tq47
                            have tk47 : Lq D s.heap H47 a0 := tk44.trans lq47
                            have rb47 := ts44.keep S44.1 ga0 K47 (by decide +kernel)
                            refine lv_iconst (v := 1) hx hb dX12_readAtom_177 (by decide) ?_
                            have k_1 : (1 : Int32).toInt = 1 := by decide
                            exact retE_z hQ C S47 hr dX12_readAtom_178 (z01 (by omega) (by omega)) (⟨⟨by omega, fun _ => by omega, fun _ => (Ex.bin (((lq42.trans lq44).trans lq47).ex (sx40 (by omega)) (by omega)) ((lq47.ex (sx44 (by omega)) (by omega)).at (i' := (fI D H40 11 a0 16).toInt.toNat) (by omega) rfl) (by rw [qb47]; decide) rfl).at (by omega) (by omega), tk47⟩, RR.ok (by rw [atm_s]; simp [clo, tkS, tlF, cmpF, y1, y19, y35, yt39, y40, y42, y44]) (by omega) rb47⟩)
                        · have b45 : v44.toInt = (0 : Int32).toInt := i_eq.mp c45
                          exact absurd b45 (by omega)
                      · skip
                        refine lv_if_ne (tgt := 161) hx hb dX12_readAtom_156 (by decide) (fun c48 => ?_) (fun c48 => ?_)
                        · have b48 : ¬ v44.toInt = (0 : Int32).toInt := fun z9 => c48 (i_eq.mpr z9)
                          exact absurd b48 (by omega)
                        · have b48 : v44.toInt = (0 : Int32).toInt := i_eq.mp c48
                          refine lv_iconst (v := 0) hx hb dX12_readAtom_159 (by decide) ?_
                          exact retE_z hQ C S44 hr dX12_readAtom_160 (z01 (by omega) (by omega)) (⟨⟨by omega, fun h9 => absurd h9 (by decide), fun h9 => absurd h9 (by decide), tk44⟩, RR.no (by rw [atm_s]; simp [clo, tkS, tlF, cmpF, y1, y19, y35, yt39, y40, y42, y44]) (by omega) wr44⟩)
                    · have b43 : v42.toInt = (0 : Int32).toInt := i_eq.mp c43
                      exact absurd b43 (by omega)
                  · skip
                    refine lv_istore_n (lv' := [(1, .int v42), (0, .ref a0)]) hx hb dX12_readAtom_138 rfl hl (by decide) rfl (fun ls hl => ?_)
                    refine lv_iload_n hx hb dX12_readAtom_139 rfl (lv_at hl 0 rfl) ?_
                    refine lv_if_ne (tgt := 152) hx hb dX12_readAtom_140 (by decide) (fun c49 => ?_) (fun c49 => ?_)
                    · have b49 : ¬ v42.toInt = (0 : Int32).toInt := fun z9 => c49 (i_eq.mpr z9)
                      exact absurd b49 (by omega)
                    · have b49 : v42.toInt = (0 : Int32).toInt := i_eq.mp c49
                      refine lv_aload_n hx hb dX12_readAtom_143 rfl (lv_at hl 1 rfl) ?_
                      refine lv_bipush (v := 62) hx hb dX12_readAtom_144 (by decide) ?_
                      have k_62 : (62 : Int32).toInt = 62 := by decide
                      refine callV_Ei C S42 (c_X12_sign_f l D G a0 (62 : Int32) 62 T c40 ga0 (by omega) (by decide)) kV_X12_193 ga0 (⟨trivial, ts42⟩) (by decide +kernel) dX12_readAtom_146 hl.1 rfl rfl (by decide) cd_X12_sign ⟨Nat.le_of_ble_eq_true rfl, Nat.le_of_ble_eq_true rfl, Nat.le_of_ble_eq_true rfl, Nat.le_of_ble_eq_true rfl, Nat.le_of_ble_eq_true rfl⟩ (fun v50 H50 L50 S50 K50 q50 => ?_)
                      obtain ⟨q50, fq50⟩ := q50
                      have y50_13 : (fI D H50 11 a0 13).toInt = (fI D H42 11 a0 13).toInt := congrArg Int32.toInt (K50.fI ga0 rfl (by decide) (by decide +kernel))
                      have y50_16 : (fI D H50 11 a0 16).toInt = (fI D H42 11 a0 16).toInt := congrArg Int32.toInt (K50.fI ga0 rfl (by decide) (by decide +kernel))
                      have lq50 : Lq D H42 H50 a0 := Lq.keep S42.1 ga0 K50 (by decide +kernel) (by decide +kernel) (by decide +kernel)
                      have tk50 : Lq D s.heap H50 a0 := tk42.trans lq50
                      rcases fq50 with ⟨z50, y50, ts50, wr50⟩ | ⟨z50, y50, ts50, wr50⟩
                      · skip
                        refine lv_if_eq (tgt := 159) hx hb dX12_readAtom_149 (by decide) (fun c51 => ?_) (fun c51 => ?_)
                        · have b51 : v50.toInt = (0 : Int32).toInt := i_eq.mp c51
                          exact absurd b51 (by omega)
                        · have b51 : ¬ v50.toInt = (0 : Int32).toInt := fun z9 => c51 (i_eq.mpr z9)
                          refine lv_aload_n hx hb dX12_readAtom_152 rfl (lv_at hl 1 rfl) ?_
                          have rs9 : 0 ≤ (fI D H50 11 a0 16).toInt ∧ (fI D H50 11 a0 16).toInt ≤ 400 := S50.1.rng ga0 rfl (by decide) rfl
                          have rp9 : 0 ≤ (fI D H50 11 a0 10).toInt ∧ (fI D H50 11 a0 10).toInt ≤ 400 := S50.1.rng ga0 rfl (by decide) rfl
                          refine callV_Ei C S50 (c_X12_readSum l D G a0 T (nx T c40) ga0) kV_X12_211 ga0 (⟨by omega, ts50⟩) (by decide +kernel) dX12_readAtom_153 hl.1 rfl rfl (by decide) cd_X12_readSum ⟨Nat.le_of_ble_eq_true rfl, Nat.le_of_ble_eq_true rfl, Nat.le_of_ble_eq_true rfl, Nat.le_of_ble_eq_true rfl, Nat.le_of_ble_eq_true rfl⟩ (fun v52 H52 L52 S52 K52 q52 => ?_)
                          obtain ⟨q52, fq52⟩ := q52
                          obtain ⟨q52, sa52, sx52, tq52⟩ := q52
                          have y52_13 : (fI D H52 11 a0 13).toInt = (fI D H50 11 a0 13).toInt := congrArg Int32.toInt (K52.fI ga0 rfl (by decide) (by decide +kernel))
                          have lq52 : Lq D H50 H52 a0 := tq52
                          have tk52 : Lq D s.heap H52 a0 := tk50.trans lq52
                          rcases fq52 with ⟨c52, y52, z52, ts52⟩ | ⟨e52, y52, z52, wr52⟩
                          · skip
                            refine lv_if_ne (tgt := 161) hx hb dX12_readAtom_156 (by decide) (fun c53 => ?_) (fun c53 => ?_)
                            · have b53 : ¬ v52.toInt = (0 : Int32).toInt := fun z9 => c53 (i_eq.mpr z9)
                              refine lv_aload_n hx hb dX12_readAtom_161 rfl (lv_at hl 1 rfl) ?_
                              refine lv_iload_n hx hb dX12_readAtom_162 rfl (lv_at hl 0 rfl) ?_
                              refine lv_if_eq (tgt := 171) hx hb dX12_readAtom_163 (by decide) (fun c54 => ?_) (fun c54 => ?_)
                              · have b54 : v42.toInt = (0 : Int32).toInt := i_eq.mp c54
                                refine lv_bipush (v := 14) hx hb dX12_readAtom_171 (by decide) ?_
                                refine lv_iconst (v := 0) hx hb dX12_readAtom_173 (by decide) ?_
                                have rs9 : 0 ≤ (fI D H52 11 a0 16).toInt ∧ (fI D H52 11 a0 16).toInt ≤ 400 := S52.1.rng ga0 rfl (by decide) rfl
                                have rp9 : 0 ≤ (fI D H52 11 a0 10).toInt ∧ (fI D H52 11 a0 10).toInt ≤ 400 := S52.1.rng ga0 rfl (by decide) rfl
                                have k_14 : (14 : Int32).toInt = 14 := by decide
                                refine callV_Ev C S52 (c_X12_emits l D G a0 (14 : Int32) (0 : Int32) ga0) kV_X12_185 ga0 (by omega) (by decide +kernel) dX12_readAtom_174 hl.1 rfl rfl (by decide) cd_X12_emits ⟨Nat.le_of_ble_eq_true rfl, Nat.le_of_ble_eq_true rfl, Nat.le_of_ble_eq_true rfl, Nat.le_of_ble_eq_true rfl, Nat.le_of_ble_eq_true rfl⟩ (fun H55 L55 S55 K55 q55 => ?_)
                                obtain ⟨qa55, qb55, tq55⟩ := q55
                                have y55_10 : (fI D H55 11 a0 10).toInt = (fI D H52 11 a0 10).toInt := congrArg Int32.toInt (K55.fI ga0 rfl (by decide) (by decide +kernel))
                                have y55_12 : (fI D H55 11 a0 12).toInt = (fI D H52 11 a0 12).toInt := congrArg Int32.toInt (K55.fI ga0 rfl (by decide) (by decide +kernel))
                                have y55_13 : (fI D H55 11 a0 13).toInt = (fI D H52 11 a0 13).toInt := congrArg Int32.toInt (K55.fI ga0 rfl (by decide) (by decide +kernel))
                                have lq55 : Lq D H52 H55 a0 := tq55
                                have tk55 : Lq D s.heap H55 a0 := tk52.trans lq55
                                have rb55 := ts52.keep S52.1 ga0 K55 (by decide +kernel)
                                refine lv_iconst (v := 1) hx hb dX12_readAtom_177 (by decide) ?_
                                have k_1 : (1 : Int32).toInt = 1 := by decide
                                exact retE_z hQ C S55 hr dX12_readAtom_178 (z01 (by omega) (by omega)) (⟨⟨by omega, fun _ => by omega, fun _ => (Ex.bin ((((lq42.trans lq50).trans lq52).trans lq55).ex (sx40 (by omega)) (by omega)) ((lq55.ex (sx52 (by omega)) (by omega)).at (i' := (fI D H40 11 a0 16).toInt.toNat) (by omega) rfl) (by rw [qb55]; decide) rfl).at (by omega) (by omega), tk55⟩, RR.ok (by rw [atm_s]; simp [clo, tkS, tlF, cmpF, y1, y19, y35, yt39, y40, y42, y50, y52]) (by omega) rb55⟩)
                              · have b54 : ¬ v42.toInt = (0 : Int32).toInt := fun z9 => c54 (i_eq.mpr z9)
                                exact absurd b54 (by omega)
                            · have b53 : v52.toInt = (0 : Int32).toInt := i_eq.mp c53
                              exact absurd b53 (by omega)
                          · skip
                            refine lv_if_ne (tgt := 161) hx hb dX12_readAtom_156 (by decide) (fun c56 => ?_) (fun c56 => ?_)
                            · have b56 : ¬ v52.toInt = (0 : Int32).toInt := fun z9 => c56 (i_eq.mpr z9)
                              exact absurd b56 (by omega)
                            · have b56 : v52.toInt = (0 : Int32).toInt := i_eq.mp c56
                              refine lv_iconst (v := 0) hx hb dX12_readAtom_159 (by decide) ?_
                              exact retE_z hQ C S52 hr dX12_readAtom_160 (z01 (by omega) (by omega)) (⟨⟨by omega, fun h9 => absurd h9 (by decide), fun h9 => absurd h9 (by decide), tk52⟩, RR.no (by rw [atm_s]; simp [clo, tkS, tlF, cmpF, y1, y19, y35, yt39, y40, y42, y50, y52]) (by omega) wr52⟩)
                      · skip
                        refine lv_if_eq (tgt := 159) hx hb dX12_readAtom_149 (by decide) (fun c57 => ?_) (fun c57 => ?_)
                        · have b57 : v50.toInt = (0 : Int32).toInt := i_eq.mp c57
                          refine lv_iconst (v := 0) hx hb dX12_readAtom_159 (by decide) ?_
                          exact retE_z hQ C S50 hr dX12_readAtom_160 (z01 (by omega) (by omega)) (⟨⟨by omega, fun h9 => absurd h9 (by decide), fun h9 => absurd h9 (by decide), tk50⟩, RR.no (by rw [atm_s]; simp [clo, tkS, tlF, cmpF, y1, y19, y35, yt39, y40, y42, y50]) (by omega) wr50⟩)
                        · have b57 : ¬ v50.toInt = (0 : Int32).toInt := fun z9 => c57 (i_eq.mpr z9)
                          exact absurd b57 (by omega)
                · have b41 : v40.toInt = (0 : Int32).toInt := i_eq.mp c41
                  exact absurd b41 (by omega)
              · skip
                refine lv_if_ne (tgt := 132) hx hb dX12_readAtom_127 (by decide) (fun c58 => ?_) (fun c58 => ?_)
                · have b58 : ¬ v40.toInt = (0 : Int32).toInt := fun z9 => c58 (i_eq.mpr z9)
                  exact absurd b58 (by omega)
                · have b58 : v40.toInt = (0 : Int32).toInt := i_eq.mp c58
                  refine lv_iconst (v := 0) hx hb dX12_readAtom_130 (by decide) ?_
                  exact retE_z hQ C S40 hr dX12_readAtom_131 (z01 (by omega) (by omega)) (⟨⟨by omega, fun h9 => absurd h9 (by decide), fun h9 => absurd h9 (by decide), tk40⟩, RR.no (by rw [atm_s]; simp [clo, tkS, tlF, cmpF, y1, y19, y35, yt39, y40]) (by omega) wr40⟩)
            · have b38 : ¬ v35.toInt = (0 : Int32).toInt := fun z9 => c38 (i_eq.mpr z9)
              exact absurd b38 (by omega)
        · have b34 : ¬ v19.toInt = (0 : Int32).toInt := fun z9 => c34 (i_eq.mpr z9)
          exact absurd b34 (by omega)
    · have b17 : ¬ v1.toInt = (0 : Int32).toInt := fun z9 => c17 (i_eq.mpr z9)
      exact absurd b17 (by omega)

set_option maxRecDepth 100000 in
set_option maxHeartbeats 4000000 in
theorem c_X12_readAllOf_d3 (l : Launch) (D : DD) (G : Nat → Nat) (a0 : Nat) (T : Tx) (b : Nat) (ga0 : G a0 = 30) : CE l D G yX12_readAllOf cX12_readAllOf 1 (some .boolean) 17 [.ref a0] (fun H => ((fI D H 11 a0 13).toInt = 3 ∧ (fI D H 11 a0 16).toInt + 3 ≤ (fI D H 11 a0 10).toInt) ∧ (RB D H a0 T b)) [(30, 10), (30, 12), (30, 16), (31, 0), (30, 13)] (xI (fun H r H1 => ((0 ≤ r.toInt ∧ r.toInt ≤ 1) ∧ (r.toInt = 1 → (fI D H1 11 a0 16).toInt - (fI D H 11 a0 16).toInt ≤ (fI D H1 11 a0 10).toInt - (fI D H 11 a0 10).toInt ∧ (fI D H1 11 a0 13).toInt = (fI D H 11 a0 13).toInt ∧ (fI D H 11 a0 10).toInt ≤ (fI D H1 11 a0 10).toInt) ∧ (r.toInt = 1 → Ex (Cs D H1 a0) (fI D H 11 a0 16).toInt.toNat (fI D H1 11 a0 16).toInt.toNat) ∧ Lq D H H1 a0) ∧ (RR D H1 a0 T (allF T (atm T 3) b) r))) := by
  refine enter (by decide) (Nat.le_of_ble_eq_true rfl) ?_
  intro p e s m args below meth c ls Q hA hQ C hr hO hpre hl
  have hx := C.1
  have hb := C.2.1
  have S : Sd D G [(30, 10), (30, 12), (30, 16), (31, 0), (30, 13)] s.heap s.heap [] := Sd.start hO
  have hl : lv_has ls 1 [(0, .ref a0)] := hl
  have rs0 : 0 ≤ (fI D s.heap 11 a0 16).toInt ∧ (fI D s.heap 11 a0 16).toInt ≤ 400 := hO.rng ga0 rfl (by decide) rfl
  have rp0 : 0 ≤ (fI D s.heap 11 a0 10).toInt ∧ (fI D s.heap 11 a0 10).toInt ≤ 400 := hO.rng ga0 rfl (by decide) rfl
  obtain ⟨hpre, hf⟩ := hpre
  have ts0 := hf
  have hT : T.2 ≤ 400 := ts0.le hO ga0
  have tk0 : Lq D s.heap s.heap a0 := Lq.refl
  refine lv_aload_n hx hb dX12_readAllOf_0 rfl (lv_at hl 0 rfl) ?_
  refine callV_Ei C S (c_X12_readAtom_d3 l D G a0 T b ga0) kV_X12_205 ga0 (⟨hpre, ts0⟩) (by decide +kernel) dX12_readAllOf_1 hl.1 rfl rfl (by decide) cd_X12_readAtom ⟨Nat.le_of_ble_eq_true rfl, Nat.le_of_ble_eq_true rfl, Nat.le_of_ble_eq_true rfl, Nat.le_of_ble_eq_true rfl, Nat.le_of_ble_eq_true rfl⟩ (fun v1 H1 L1 S1 K1 q1 => ?_)
  obtain ⟨q1, fq1⟩ := q1
  obtain ⟨q1, sa1, sx1, tq1⟩ := q1
  have lq1 : Lq D s.heap H1 a0 := tq1
  have tk1 : Lq D s.heap H1 a0 := tk0.trans lq1
  rcases fq1 with ⟨c1, y1, z1, ts1⟩ | ⟨e1, y1, z1, wr1⟩
  · skip
    have k_0 : (0 : Int32).toInt = 0 := by decide
    refine lv_if_ne (tgt := 9) hx hb dX12_readAllOf_4 (by decide) (fun c2 => ?_) (fun c2 => ?_)
    · have b2 : ¬ v1.toInt = (0 : Int32).toInt := fun z9 => c2 (i_eq.mpr z9)
      have Lp9 : ∀ (n : Nat) (b_9 : Nat) (H_9 : Heap) (L_9 : List Loc) (ls : Array Slot), (Sd D G [(30, 10), (30, 12), (30, 16), (31, 0), (30, 13)] s.heap H_9 L_9) → (Ex (Cs D H_9 a0) (fI D s.heap 11 a0 16).toInt.toNat (fI D H_9 11 a0 16).toInt.toNat) → ((fI D H_9 11 a0 16).toInt - (fI D s.heap 11 a0 16).toInt ≤ (fI D H_9 11 a0 10).toInt - (fI D s.heap 11 a0 10).toInt ∧ (fI D H_9 11 a0 13).toInt = (fI D s.heap 11 a0 13).toInt ∧ (fI D s.heap 11 a0 10).toInt ≤ (fI D H_9 11 a0 10).toInt) → (RB D H_9 a0 T b_9) → (allF T (atm T 3) b = allT T (atm T 3) b_9) → (Lq D s.heap H_9 a0) → 401 - (fI D H_9 11 a0 10).toInt ≤ (n : Int) → lv_has ls 1 [(0, .ref a0)] → W p l e (rmU 17 0 0) s m args below meth c H_9 L_9 0 0 Q (F0 m 9 ls []) := by
        intro n
        induction n with
        | zero =>
          intro b_9 H_9 L_9 ls S_9 u9_0 u9_1 u9_2 u9_3 u9_4 hn hl
          have rz : 0 ≤ (fI D H_9 11 a0 10).toInt ∧ (fI D H_9 11 a0 10).toInt ≤ 400 := S_9.1.rng ga0 rfl (by decide) rfl
          exact absurd hn (by omega)
        | succ n ih9 =>
          intro b_9 H_9 L_9 ls S_9 u9_0 u9_1 u9_2 u9_3 u9_4 hn hl
          have rs9 : 0 ≤ (fI D H_9 11 a0 16).toInt ∧ (fI D H_9 11 a0 16).toInt ≤ 400 := S_9.1.rng ga0 rfl (by decide) rfl
          have rp9 : 0 ≤ (fI D H_9 11 a0 10).toInt ∧ (fI D H_9 11 a0 10).toInt ≤ 400 := S_9.1.rng ga0 rfl (by decide) rfl
          refine lv_aload_n hx hb dX12_readAllOf_9 rfl (lv_at hl 0 rfl) ?_
          refine q_lds C ks_X12_214 dX12_readAllOf_10 (fun a3 ha3 wa3 => ?_)
          refine callV_Ei C S_9 (c_X12_passes_f l D G a0 a3 3 w_and T b_9 ga0 ha3 (Wc.of wa3 kw_and) (by decide)) kV_X12_120 ga0 (⟨trivial, u9_2⟩) (by decide +kernel) dX12_readAllOf_12 hl.1 rfl rfl (by decide) cd_X12_passes ⟨Nat.le_of_ble_eq_true rfl, Nat.le_of_ble_eq_true rfl, Nat.le_of_ble_eq_true rfl, Nat.le_of_ble_eq_true rfl, Nat.le_of_ble_eq_true rfl⟩ (fun v4 H4 L4 S4 K4 q4 => ?_)
          obtain ⟨q4, fq4⟩ := q4
          have y4_13 : (fI D H4 11 a0 13).toInt = (fI D H_9 11 a0 13).toInt := congrArg Int32.toInt (K4.fI ga0 rfl (by decide) (by decide +kernel))
          have y4_16 : (fI D H4 11 a0 16).toInt = (fI D H_9 11 a0 16).toInt := congrArg Int32.toInt (K4.fI ga0 rfl (by decide) (by decide +kernel))
          have lq4 : Lq D H_9 H4 a0 := Lq.keep S_9.1 ga0 K4 (by decide +kernel) (by decide +kernel) (by decide +kernel)
          have tk4 : Lq D s.heap H4 a0 := u9_4.trans lq4
          rcases fq4 with ⟨z4, y4, ts4, wr4⟩ | ⟨z4, y4, ts4, wr4⟩
          · skip
            refine lv_if_eq (tgt := 37) hx hb dX12_readAllOf_15 (by decide) (fun c5 => ?_) (fun c5 => ?_)
            · have b5 : v4.toInt = (0 : Int32).toInt := i_eq.mp c5
              exact absurd b5 (by omega)
            · have b5 : ¬ v4.toInt = (0 : Int32).toInt := fun z9 => c5 (i_eq.mpr z9)
              refine lv_aload_n hx hb dX12_readAllOf_18 rfl (lv_at hl 0 rfl) ?_
              have rs9 : 0 ≤ (fI D H4 11 a0 16).toInt ∧ (fI D H4 11 a0 16).toInt ≤ 400 := S4.1.rng ga0 rfl (by decide) rfl
              have rp9 : 0 ≤ (fI D H4 11 a0 10).toInt ∧ (fI D H4 11 a0 10).toInt ≤ 400 := S4.1.rng ga0 rfl (by decide) rfl
              refine callV_Ei C S4 (c_X12_readAtom_d3 l D G a0 T (nx T b_9) ga0) kV_X12_205 ga0 (⟨⟨by omega, by omega⟩, ts4⟩) (by decide +kernel) dX12_readAllOf_19 hl.1 rfl rfl (by decide) cd_X12_readAtom ⟨Nat.le_of_ble_eq_true rfl, Nat.le_of_ble_eq_true rfl, Nat.le_of_ble_eq_true rfl, Nat.le_of_ble_eq_true rfl, Nat.le_of_ble_eq_true rfl⟩ (fun v6 H6 L6 S6 K6 q6 => ?_)
              obtain ⟨q6, fq6⟩ := q6
              obtain ⟨q6, sa6, sx6, tq6⟩ := q6
              have lq6 : Lq D H4 H6 a0 := tq6
              have tk6 : Lq D s.heap H6 a0 := tk4.trans lq6
              rcases fq6 with ⟨c6, y6, z6, ts6⟩ | ⟨e6, y6, z6, wr6⟩
              · skip
                refine lv_if_ne (tgt := 27) hx hb dX12_readAllOf_22 (by decide) (fun c7 => ?_) (fun c7 => ?_)
                · have b7 : ¬ v6.toInt = (0 : Int32).toInt := fun z9 => c7 (i_eq.mpr z9)
                  refine lv_aload_n hx hb dX12_readAllOf_27 rfl (lv_at hl 0 rfl) ?_
                  refine lv_bipush (v := 16) hx hb dX12_readAllOf_28 (by decide) ?_
                  refine lv_iconst (v := 0) hx hb dX12_readAllOf_30 (by decide) ?_
                  have rs9 : 0 ≤ (fI D H6 11 a0 16).toInt ∧ (fI D H6 11 a0 16).toInt ≤ 400 := S6.1.rng ga0 rfl (by decide) rfl
                  have rp9 : 0 ≤ (fI D H6 11 a0 10).toInt ∧ (fI D H6 11 a0 10).toInt ≤ 400 := S6.1.rng ga0 rfl (by decide) rfl
                  have k_16 : (16 : Int32).toInt = 16 := by decide
                  refine callV_Ev C S6 (c_X12_emits l D G a0 (16 : Int32) (0 : Int32) ga0) kV_X12_185 ga0 (by omega) (by decide +kernel) dX12_readAllOf_31 hl.1 rfl rfl (by decide) cd_X12_emits ⟨Nat.le_of_ble_eq_true rfl, Nat.le_of_ble_eq_true rfl, Nat.le_of_ble_eq_true rfl, Nat.le_of_ble_eq_true rfl, Nat.le_of_ble_eq_true rfl⟩ (fun H8 L8 S8 K8 q8 => ?_)
                  obtain ⟨qa8, qb8, tq8⟩ := q8
                  have y8_10 : (fI D H8 11 a0 10).toInt = (fI D H6 11 a0 10).toInt := congrArg Int32.toInt (K8.fI ga0 rfl (by decide) (by decide +kernel))
                  have y8_12 : (fI D H8 11 a0 12).toInt = (fI D H6 11 a0 12).toInt := congrArg Int32.toInt (K8.fI ga0 rfl (by decide) (by decide +kernel))
                  have y8_13 : (fI D H8 11 a0 13).toInt = (fI D H6 11 a0 13).toInt := congrArg Int32.toInt (K8.fI ga0 rfl (by decide) (by decide +kernel))
                  have lq8 : Lq D H6 H8 a0 := tq8
                  have tk8 : Lq D s.heap H8 a0 := tk6.trans lq8
                  have rb8 := ts6.keep S6.1 ga0 K8 (by decide +kernel)
                  refine lv_goto (tgt := 9) hx hb dX12_readAllOf_34 (by decide) ?_
                  have e9 : Ex (Cs D H8 a0) (fI D s.heap 11 a0 16).toInt.toNat (fI D H8 11 a0 16).toInt.toNat := (Ex.bin (((lq4.trans lq6).trans lq8).ex u9_0 (by omega)) ((lq8.ex (sx6 (by omega)) (by omega)).at (i' := (fI D H_9 11 a0 16).toInt.toNat) (by omega) rfl) (by rw [qb8]; decide) rfl).at (by omega) (by omega)
                  exact ih9 c6 H8 L8 ls S8 e9 (by omega) rb8 (u9_3.trans ((allT_t y4).trans (all_in (atm_on 3) hT y6))) tk8 (by omega) (lv_sub hl [0] rfl)
                · have b7 : v6.toInt = (0 : Int32).toInt := i_eq.mp c7
                  exact absurd b7 (by omega)
              · skip
                refine lv_if_ne (tgt := 27) hx hb dX12_readAllOf_22 (by decide) (fun c9 => ?_) (fun c9 => ?_)
                · have b9 : ¬ v6.toInt = (0 : Int32).toInt := fun z9 => c9 (i_eq.mpr z9)
                  exact absurd b9 (by omega)
                · have b9 : v6.toInt = (0 : Int32).toInt := i_eq.mp c9
                  refine lv_iconst (v := 0) hx hb dX12_readAllOf_25 (by decide) ?_
                  exact retE_z hQ C S6 hr dX12_readAllOf_26 (z01 (by omega) (by omega)) (⟨⟨by omega, fun h9 => absurd h9 (by decide), fun h9 => absurd h9 (by decide), tk6⟩, RR.no (u9_3.trans ((allT_t y4).trans (all_no (atm_on 3) hT y6))) (by omega) wr6⟩)
          · skip
            refine lv_if_eq (tgt := 37) hx hb dX12_readAllOf_15 (by decide) (fun c10 => ?_) (fun c10 => ?_)
            · have b10 : v4.toInt = (0 : Int32).toInt := i_eq.mp c10
              refine lv_iconst (v := 1) hx hb dX12_readAllOf_37 (by decide) ?_
              have k_1 : (1 : Int32).toInt = 1 := by decide
              exact retE_z hQ C S4 hr dX12_readAllOf_38 (z01 (by omega) (by omega)) (⟨⟨by omega, fun _ => by omega, fun _ => (lq4.ex u9_0 (by omega)).at (by omega) (by omega), tk4⟩, RR.ok (u9_3.trans (allT_f y4)) (by omega) ts4⟩)
            · have b10 : ¬ v4.toInt = (0 : Int32).toInt := fun z9 => c10 (i_eq.mpr z9)
              exact absurd b10 (by omega)
      have ex0 := sx1 (by omega)
      have rn : 0 ≤ (fI D H1 11 a0 10).toInt ∧ (fI D H1 11 a0 10).toInt ≤ 400 := S1.1.rng ga0 rfl (by decide) rfl
      exact Lp9 402 c1 H1 L1 ls S1 (ex0.at (by omega) rfl) (by omega) ts1 (all_in (atm_on 3) hT y1) tk1  (by omega) (lv_sub hl [0] rfl)
    · have b2 : v1.toInt = (0 : Int32).toInt := i_eq.mp c2
      exact absurd b2 (by omega)
  · skip
    have k_0 : (0 : Int32).toInt = 0 := by decide
    refine lv_if_ne (tgt := 9) hx hb dX12_readAllOf_4 (by decide) (fun c11 => ?_) (fun c11 => ?_)
    · have b11 : ¬ v1.toInt = (0 : Int32).toInt := fun z9 => c11 (i_eq.mpr z9)
      exact absurd b11 (by omega)
    · have b11 : v1.toInt = (0 : Int32).toInt := i_eq.mp c11
      refine lv_iconst (v := 0) hx hb dX12_readAllOf_7 (by decide) ?_
      exact retE_z hQ C S1 hr dX12_readAllOf_8 (z01 (by omega) (by omega)) (⟨⟨by omega, fun h9 => absurd h9 (by decide), fun h9 => absurd h9 (by decide), tk1⟩, RR.no (all_no (atm_on 3) hT y1) (by omega) wr1⟩)

set_option maxRecDepth 100000 in
set_option maxHeartbeats 4000000 in
theorem c_X12_readCond_d3 (l : Launch) (D : DD) (G : Nat → Nat) (a0 : Nat) (T : Tx) (b : Nat) (ga0 : G a0 = 30) : CE l D G yX12_readCond cX12_readCond 1 (some .boolean) 18 [.ref a0] (fun H => ((fI D H 11 a0 13).toInt = 3 ∧ (fI D H 11 a0 16).toInt + 3 ≤ (fI D H 11 a0 10).toInt) ∧ (RB D H a0 T b)) [(30, 10), (30, 12), (30, 16), (31, 0), (30, 13)] (xI (fun H r H1 => ((0 ≤ r.toInt ∧ r.toInt ≤ 1) ∧ (r.toInt = 1 → (fI D H1 11 a0 16).toInt - (fI D H 11 a0 16).toInt ≤ (fI D H1 11 a0 10).toInt - (fI D H 11 a0 10).toInt ∧ (fI D H1 11 a0 13).toInt = (fI D H 11 a0 13).toInt ∧ (fI D H 11 a0 10).toInt ≤ (fI D H1 11 a0 10).toInt) ∧ (r.toInt = 1 → Ex (Cs D H1 a0) (fI D H 11 a0 16).toInt.toNat (fI D H1 11 a0 16).toInt.toNat) ∧ Lq D H H1 a0) ∧ (RR D H1 a0 T (conF T (atm T 3) b) r))) := by
  refine enter (by decide) (Nat.le_of_ble_eq_true rfl) ?_
  intro p e s m args below meth c ls Q hA hQ C hr hO hpre hl
  have hx := C.1
  have hb := C.2.1
  have S : Sd D G [(30, 10), (30, 12), (30, 16), (31, 0), (30, 13)] s.heap s.heap [] := Sd.start hO
  have hl : lv_has ls 1 [(0, .ref a0)] := hl
  have rs0 : 0 ≤ (fI D s.heap 11 a0 16).toInt ∧ (fI D s.heap 11 a0 16).toInt ≤ 400 := hO.rng ga0 rfl (by decide) rfl
  have rp0 : 0 ≤ (fI D s.heap 11 a0 10).toInt ∧ (fI D s.heap 11 a0 10).toInt ≤ 400 := hO.rng ga0 rfl (by decide) rfl
  obtain ⟨hpre, hf⟩ := hpre
  have ts0 := hf
  have hT : T.2 ≤ 400 := ts0.le hO ga0
  have tk0 : Lq D s.heap s.heap a0 := Lq.refl
  refine lv_aload_n hx hb dX12_readCond_0 rfl (lv_at hl 0 rfl) ?_
  refine callV_Ei C S (c_X12_readAllOf_d3 l D G a0 T b ga0) kV_X12_216 ga0 (⟨hpre, ts0⟩) (by decide +kernel) dX12_readCond_1 hl.1 rfl rfl (by decide) cd_X12_readAllOf ⟨Nat.le_of_ble_eq_true rfl, Nat.le_of_ble_eq_true rfl, Nat.le_of_ble_eq_true rfl, Nat.le_of_ble_eq_true rfl, Nat.le_of_ble_eq_true rfl⟩ (fun v1 H1 L1 S1 K1 q1 => ?_)
  obtain ⟨q1, fq1⟩ := q1
  obtain ⟨q1, sa1, sx1, tq1⟩ := q1
  have lq1 : Lq D s.heap H1 a0 := tq1
  have tk1 : Lq D s.heap H1 a0 := tk0.trans lq1
  rcases fq1 with ⟨c1, y1, z1, ts1⟩ | ⟨e1, y1, z1, wr1⟩
  · skip
    have k_0 : (0 : Int32).toInt = 0 := by decide
    refine lv_if_ne (tgt := 9) hx hb dX12_readCond_4 (by decide) (fun c2 => ?_) (fun c2 => ?_)
    · have b2 : ¬ v1.toInt = (0 : Int32).toInt := fun z9 => c2 (i_eq.mpr z9)
      have Lp9 : ∀ (n : Nat) (b_9 : Nat) (H_9 : Heap) (L_9 : List Loc) (ls : Array Slot), (Sd D G [(30, 10), (30, 12), (30, 16), (31, 0), (30, 13)] s.heap H_9 L_9) → (Ex (Cs D H_9 a0) (fI D s.heap 11 a0 16).toInt.toNat (fI D H_9 11 a0 16).toInt.toNat) → ((fI D H_9 11 a0 16).toInt - (fI D s.heap 11 a0 16).toInt ≤ (fI D H_9 11 a0 10).toInt - (fI D s.heap 11 a0 10).toInt ∧ (fI D H_9 11 a0 13).toInt = (fI D s.heap 11 a0 13).toInt ∧ (fI D s.heap 11 a0 10).toInt ≤ (fI D H_9 11 a0 10).toInt) → (RB D H_9 a0 T b_9) → (conF T (atm T 3) b = conT T (atm T 3) b_9) → (Lq D s.heap H_9 a0) → 401 - (fI D H_9 11 a0 10).toInt ≤ (n : Int) → lv_has ls 1 [(0, .ref a0)] → W p l e (rmU 18 0 0) s m args below meth c H_9 L_9 0 0 Q (F0 m 9 ls []) := by
        intro n
        induction n with
        | zero =>
          intro b_9 H_9 L_9 ls S_9 u9_0 u9_1 u9_2 u9_3 u9_4 hn hl
          have rz : 0 ≤ (fI D H_9 11 a0 10).toInt ∧ (fI D H_9 11 a0 10).toInt ≤ 400 := S_9.1.rng ga0 rfl (by decide) rfl
          exact absurd hn (by omega)
        | succ n ih9 =>
          intro b_9 H_9 L_9 ls S_9 u9_0 u9_1 u9_2 u9_3 u9_4 hn hl
          have rs9 : 0 ≤ (fI D H_9 11 a0 16).toInt ∧ (fI D H_9 11 a0 16).toInt ≤ 400 := S_9.1.rng ga0 rfl (by decide) rfl
          have rp9 : 0 ≤ (fI D H_9 11 a0 10).toInt ∧ (fI D H_9 11 a0 10).toInt ≤ 400 := S_9.1.rng ga0 rfl (by decide) rfl
          refine lv_aload_n hx hb dX12_readCond_9 rfl (lv_at hl 0 rfl) ?_
          refine q_lds C ks_X12_219 dX12_readCond_10 (fun a3 ha3 wa3 => ?_)
          refine callV_Ei C S_9 (c_X12_passes_f l D G a0 a3 2 w_or T b_9 ga0 ha3 (Wc.of wa3 kw_or) (by decide)) kV_X12_120 ga0 (⟨trivial, u9_2⟩) (by decide +kernel) dX12_readCond_12 hl.1 rfl rfl (by decide) cd_X12_passes ⟨Nat.le_of_ble_eq_true rfl, Nat.le_of_ble_eq_true rfl, Nat.le_of_ble_eq_true rfl, Nat.le_of_ble_eq_true rfl, Nat.le_of_ble_eq_true rfl⟩ (fun v4 H4 L4 S4 K4 q4 => ?_)
          obtain ⟨q4, fq4⟩ := q4
          have y4_13 : (fI D H4 11 a0 13).toInt = (fI D H_9 11 a0 13).toInt := congrArg Int32.toInt (K4.fI ga0 rfl (by decide) (by decide +kernel))
          have y4_16 : (fI D H4 11 a0 16).toInt = (fI D H_9 11 a0 16).toInt := congrArg Int32.toInt (K4.fI ga0 rfl (by decide) (by decide +kernel))
          have lq4 : Lq D H_9 H4 a0 := Lq.keep S_9.1 ga0 K4 (by decide +kernel) (by decide +kernel) (by decide +kernel)
          have tk4 : Lq D s.heap H4 a0 := u9_4.trans lq4
          rcases fq4 with ⟨z4, y4, ts4, wr4⟩ | ⟨z4, y4, ts4, wr4⟩
          · skip
            refine lv_if_eq (tgt := 37) hx hb dX12_readCond_15 (by decide) (fun c5 => ?_) (fun c5 => ?_)
            · have b5 : v4.toInt = (0 : Int32).toInt := i_eq.mp c5
              exact absurd b5 (by omega)
            · have b5 : ¬ v4.toInt = (0 : Int32).toInt := fun z9 => c5 (i_eq.mpr z9)
              refine lv_aload_n hx hb dX12_readCond_18 rfl (lv_at hl 0 rfl) ?_
              have rs9 : 0 ≤ (fI D H4 11 a0 16).toInt ∧ (fI D H4 11 a0 16).toInt ≤ 400 := S4.1.rng ga0 rfl (by decide) rfl
              have rp9 : 0 ≤ (fI D H4 11 a0 10).toInt ∧ (fI D H4 11 a0 10).toInt ≤ 400 := S4.1.rng ga0 rfl (by decide) rfl
              refine callV_Ei C S4 (c_X12_readAllOf_d3 l D G a0 T (nx T b_9) ga0) kV_X12_216 ga0 (⟨⟨by omega, by omega⟩, ts4⟩) (by decide +kernel) dX12_readCond_19 hl.1 rfl rfl (by decide) cd_X12_readAllOf ⟨Nat.le_of_ble_eq_true rfl, Nat.le_of_ble_eq_true rfl, Nat.le_of_ble_eq_true rfl, Nat.le_of_ble_eq_true rfl, Nat.le_of_ble_eq_true rfl⟩ (fun v6 H6 L6 S6 K6 q6 => ?_)
              obtain ⟨q6, fq6⟩ := q6
              obtain ⟨q6, sa6, sx6, tq6⟩ := q6
              have lq6 : Lq D H4 H6 a0 := tq6
              have tk6 : Lq D s.heap H6 a0 := tk4.trans lq6
              rcases fq6 with ⟨c6, y6, z6, ts6⟩ | ⟨e6, y6, z6, wr6⟩
              · skip
                refine lv_if_ne (tgt := 27) hx hb dX12_readCond_22 (by decide) (fun c7 => ?_) (fun c7 => ?_)
                · have b7 : ¬ v6.toInt = (0 : Int32).toInt := fun z9 => c7 (i_eq.mpr z9)
                  refine lv_aload_n hx hb dX12_readCond_27 rfl (lv_at hl 0 rfl) ?_
                  refine lv_bipush (v := 17) hx hb dX12_readCond_28 (by decide) ?_
                  refine lv_iconst (v := 0) hx hb dX12_readCond_30 (by decide) ?_
                  have rs9 : 0 ≤ (fI D H6 11 a0 16).toInt ∧ (fI D H6 11 a0 16).toInt ≤ 400 := S6.1.rng ga0 rfl (by decide) rfl
                  have rp9 : 0 ≤ (fI D H6 11 a0 10).toInt ∧ (fI D H6 11 a0 10).toInt ≤ 400 := S6.1.rng ga0 rfl (by decide) rfl
                  have k_17 : (17 : Int32).toInt = 17 := by decide
                  refine callV_Ev C S6 (c_X12_emits l D G a0 (17 : Int32) (0 : Int32) ga0) kV_X12_185 ga0 (by omega) (by decide +kernel) dX12_readCond_31 hl.1 rfl rfl (by decide) cd_X12_emits ⟨Nat.le_of_ble_eq_true rfl, Nat.le_of_ble_eq_true rfl, Nat.le_of_ble_eq_true rfl, Nat.le_of_ble_eq_true rfl, Nat.le_of_ble_eq_true rfl⟩ (fun H8 L8 S8 K8 q8 => ?_)
                  obtain ⟨qa8, qb8, tq8⟩ := q8
                  have y8_10 : (fI D H8 11 a0 10).toInt = (fI D H6 11 a0 10).toInt := congrArg Int32.toInt (K8.fI ga0 rfl (by decide) (by decide +kernel))
                  have y8_12 : (fI D H8 11 a0 12).toInt = (fI D H6 11 a0 12).toInt := congrArg Int32.toInt (K8.fI ga0 rfl (by decide) (by decide +kernel))
                  have y8_13 : (fI D H8 11 a0 13).toInt = (fI D H6 11 a0 13).toInt := congrArg Int32.toInt (K8.fI ga0 rfl (by decide) (by decide +kernel))
                  have lq8 : Lq D H6 H8 a0 := tq8
                  have tk8 : Lq D s.heap H8 a0 := tk6.trans lq8
                  have rb8 := ts6.keep S6.1 ga0 K8 (by decide +kernel)
                  refine lv_goto (tgt := 9) hx hb dX12_readCond_34 (by decide) ?_
                  have e9 : Ex (Cs D H8 a0) (fI D s.heap 11 a0 16).toInt.toNat (fI D H8 11 a0 16).toInt.toNat := (Ex.bin (((lq4.trans lq6).trans lq8).ex u9_0 (by omega)) ((lq8.ex (sx6 (by omega)) (by omega)).at (i' := (fI D H_9 11 a0 16).toInt.toNat) (by omega) rfl) (by rw [qb8]; decide) rfl).at (by omega) (by omega)
                  exact ih9 c6 H8 L8 ls S8 e9 (by omega) rb8 (u9_3.trans ((conT_t y4).trans (con_in (atm_on 3) hT y6))) tk8 (by omega) (lv_sub hl [0] rfl)
                · have b7 : v6.toInt = (0 : Int32).toInt := i_eq.mp c7
                  exact absurd b7 (by omega)
              · skip
                refine lv_if_ne (tgt := 27) hx hb dX12_readCond_22 (by decide) (fun c9 => ?_) (fun c9 => ?_)
                · have b9 : ¬ v6.toInt = (0 : Int32).toInt := fun z9 => c9 (i_eq.mpr z9)
                  exact absurd b9 (by omega)
                · have b9 : v6.toInt = (0 : Int32).toInt := i_eq.mp c9
                  refine lv_iconst (v := 0) hx hb dX12_readCond_25 (by decide) ?_
                  exact retE_z hQ C S6 hr dX12_readCond_26 (z01 (by omega) (by omega)) (⟨⟨by omega, fun h9 => absurd h9 (by decide), fun h9 => absurd h9 (by decide), tk6⟩, RR.no (u9_3.trans ((conT_t y4).trans (con_no (atm_on 3) hT y6))) (by omega) wr6⟩)
          · skip
            refine lv_if_eq (tgt := 37) hx hb dX12_readCond_15 (by decide) (fun c10 => ?_) (fun c10 => ?_)
            · have b10 : v4.toInt = (0 : Int32).toInt := i_eq.mp c10
              refine lv_iconst (v := 1) hx hb dX12_readCond_37 (by decide) ?_
              have k_1 : (1 : Int32).toInt = 1 := by decide
              exact retE_z hQ C S4 hr dX12_readCond_38 (z01 (by omega) (by omega)) (⟨⟨by omega, fun _ => by omega, fun _ => (lq4.ex u9_0 (by omega)).at (by omega) (by omega), tk4⟩, RR.ok (u9_3.trans (conT_f y4)) (by omega) ts4⟩)
            · have b10 : ¬ v4.toInt = (0 : Int32).toInt := fun z9 => c10 (i_eq.mpr z9)
              exact absurd b10 (by omega)
      have ex0 := sx1 (by omega)
      have rn : 0 ≤ (fI D H1 11 a0 10).toInt ∧ (fI D H1 11 a0 10).toInt ≤ 400 := S1.1.rng ga0 rfl (by decide) rfl
      exact Lp9 402 c1 H1 L1 ls S1 (ex0.at (by omega) rfl) (by omega) ts1 (con_in (atm_on 3) hT y1) tk1  (by omega) (lv_sub hl [0] rfl)
    · have b2 : v1.toInt = (0 : Int32).toInt := i_eq.mp c2
      exact absurd b2 (by omega)
  · skip
    have k_0 : (0 : Int32).toInt = 0 := by decide
    refine lv_if_ne (tgt := 9) hx hb dX12_readCond_4 (by decide) (fun c11 => ?_) (fun c11 => ?_)
    · have b11 : ¬ v1.toInt = (0 : Int32).toInt := fun z9 => c11 (i_eq.mpr z9)
      exact absurd b11 (by omega)
    · have b11 : v1.toInt = (0 : Int32).toInt := i_eq.mp c11
      refine lv_iconst (v := 0) hx hb dX12_readCond_7 (by decide) ?_
      exact retE_z hQ C S1 hr dX12_readCond_8 (z01 (by omega) (by omega)) (⟨⟨by omega, fun h9 => absurd h9 (by decide), fun h9 => absurd h9 (by decide), tk1⟩, RR.no (con_no (atm_on 3) hT y1) (by omega) wr1⟩)

set_option maxRecDepth 100000 in
set_option maxHeartbeats 4000000 in
theorem c_X12_readAtom_d2 (l : Launch) (D : DD) (G : Nat → Nat) (a0 : Nat) (T : Tx) (b : Nat) (ga0 : G a0 = 30) : CE l D G yX12_readAtom cX12_readAtom 2 (some .boolean) 19 [.ref a0] (fun H => ((fI D H 11 a0 13).toInt = 2 ∧ (fI D H 11 a0 16).toInt + 3 ≤ (fI D H 11 a0 10).toInt) ∧ (RB D H a0 T b)) [(30, 10), (30, 12), (30, 16), (31, 0), (30, 13)] (xI (fun H r H1 => ((0 ≤ r.toInt ∧ r.toInt ≤ 1) ∧ (r.toInt = 1 → (fI D H1 11 a0 16).toInt - (fI D H 11 a0 16).toInt ≤ (fI D H1 11 a0 10).toInt - (fI D H 11 a0 10).toInt ∧ (fI D H1 11 a0 13).toInt = (fI D H 11 a0 13).toInt ∧ (fI D H 11 a0 10).toInt ≤ (fI D H1 11 a0 10).toInt) ∧ (r.toInt = 1 → Ex (Cs D H1 a0) (fI D H 11 a0 16).toInt.toNat (fI D H1 11 a0 16).toInt.toNat) ∧ Lq D H H1 a0) ∧ (RR D H1 a0 T (atm T 4 b) r))) := by
  refine enter (by decide) (Nat.le_of_ble_eq_true rfl) ?_
  intro p e s m args below meth c ls Q hA hQ C hr hO hpre hl
  have hx := C.1
  have hb := C.2.1
  have S : Sd D G [(30, 10), (30, 12), (30, 16), (31, 0), (30, 13)] s.heap s.heap [] := Sd.start hO
  have hl : lv_has ls 2 [(0, .ref a0)] := hl
  have rs0 : 0 ≤ (fI D s.heap 11 a0 16).toInt ∧ (fI D s.heap 11 a0 16).toInt ≤ 400 := hO.rng ga0 rfl (by decide) rfl
  have rp0 : 0 ≤ (fI D s.heap 11 a0 10).toInt ∧ (fI D s.heap 11 a0 10).toInt ≤ 400 := hO.rng ga0 rfl (by decide) rfl
  obtain ⟨hpre, hf⟩ := hpre
  have ts0 := hf
  have hT : T.2 ≤ 400 := ts0.le hO ga0
  have tk0 : Lq D s.heap s.heap a0 := Lq.refl
  refine lv_aload_n hx hb dX12_readAtom_0 rfl (lv_at hl 0 rfl) ?_
  refine lv_bipush (v := 40) hx hb dX12_readAtom_1 (by decide) ?_
  have k_40 : (40 : Int32).toInt = 40 := by decide
  refine callV_Ei C S (c_X12_sign_f l D G a0 (40 : Int32) 40 T b ga0 (by omega) (by decide)) kV_X12_193 ga0 (⟨trivial, ts0⟩) (by decide +kernel) dX12_readAtom_3 hl.1 rfl rfl (by decide) cd_X12_sign ⟨Nat.le_of_ble_eq_true rfl, Nat.le_of_ble_eq_true rfl, Nat.le_of_ble_eq_true rfl, Nat.le_of_ble_eq_true rfl, Nat.le_of_ble_eq_true rfl⟩ (fun v1 H1 L1 S1 K1 q1 => ?_)
  obtain ⟨q1, fq1⟩ := q1
  have y1_13 : (fI D H1 11 a0 13).toInt = (fI D s.heap 11 a0 13).toInt := congrArg Int32.toInt (K1.fI ga0 rfl (by decide) (by decide +kernel))
  have y1_16 : (fI D H1 11 a0 16).toInt = (fI D s.heap 11 a0 16).toInt := congrArg Int32.toInt (K1.fI ga0 rfl (by decide) (by decide +kernel))
  have lq1 : Lq D s.heap H1 a0 := Lq.keep S.1 ga0 K1 (by decide +kernel) (by decide +kernel) (by decide +kernel)
  have tk1 : Lq D s.heap H1 a0 := tk0.trans lq1
  rcases fq1 with ⟨z1, y1, ts1, wr1⟩ | ⟨z1, y1, ts1, wr1⟩
  · skip
    have k_0 : (0 : Int32).toInt = 0 := by decide
    refine lv_if_eq (tgt := 56) hx hb dX12_readAtom_6 (by decide) (fun c2 => ?_) (fun c2 => ?_)
    · have b2 : v1.toInt = (0 : Int32).toInt := i_eq.mp c2
      exact absurd b2 (by omega)
    · have b2 : ¬ v1.toInt = (0 : Int32).toInt := fun z9 => c2 (i_eq.mpr z9)
      have yn3 : isW T b w_not = false := isS_nW y1
      refine lv_aload_n hx hb dX12_readAtom_9 rfl (lv_at hl 0 rfl) ?_
      have dd : (fI D H1 11 a0 13).toInt = 2 := by omega
      refine q_gi (T := TX12) C S1.1 ga0 13 kF_X12_197 dX12_readAtom_10 rfl rfl (by decide) rfl (by decide) rfl ?_
      have r4 : 0 ≤ (fI D H1 11 a0 13).toInt ∧ (fI D H1 11 a0 13).toInt ≤ 6 := S1.1.rng ga0 rfl (by decide) rfl
      refine lv_bipush (v := 6) hx hb dX12_readAtom_13 (by decide) ?_
      have k_6 : (6 : Int32).toInt = 6 := by decide
      refine lv_icmp_ne (tgt := 20) hx hb dX12_readAtom_15 (by decide) (fun c5 => ?_) (fun c5 => ?_)
      · have b5 : ¬ (fI D H1 11 a0 13).toInt = (6 : Int32).toInt := fun z9 => c5 (i_eq.mpr z9)
        refine lv_aload_n hx hb dX12_readAtom_20 rfl (lv_at hl 0 rfl) ?_
        refine lv_dup hx hb dX12_readAtom_21 rfl ?_
        refine q_gi (T := TX12) C S1.1 ga0 13 kF_X12_197 dX12_readAtom_22 rfl rfl (by decide) rfl (by decide) rfl ?_
        refine lv_iconst (v := 1) hx hb dX12_readAtom_25 (by decide) ?_
        have k_1 : (1 : Int32).toInt = 1 := by decide
        refine lv_iadd hx hb dX12_readAtom_26 ?_
        refine lv_topi (fun v6 ev6 => ?_)
        have f7 : v6.toInt = (fI D H1 11 a0 13).toInt + (1 : Int32).toInt := by rw [ev6]; exact i_add (by omega) (by omega)
        refine q_put (T := TX12) C S1 ga0 13 kF_X12_197 dX12_readAtom_27 rfl rfl (by decide) (by decide) rfl rfl rfl rfl rfl (vok_i rfl (by omega) (by omega)) (by decide +kernel) (fun H8 L8 S8 P8 => ?_)
        have y8_10 : (fI D H8 11 a0 10).toInt = (fI D H1 11 a0 10).toInt := congrArg Int32.toInt (Pt.o P8 (by decide) (by decide))
        have y8_12 : (fI D H8 11 a0 12).toInt = (fI D H1 11 a0 12).toInt := congrArg Int32.toInt (Pt.o P8 (by decide) (by decide))
        have y8_13 : (fI D H8 11 a0 13).toInt = v6.toInt := congrArg Int32.toInt (Pt.i P8)
        have y8_16 : (fI D H8 11 a0 16).toInt = (fI D H1 11 a0 16).toInt := congrArg Int32.toInt (Pt.o P8 (by decide) (by decide))
        have lq8 : Lq D H1 H8 a0 := Lq.put S1.1 ga0 P8 (by decide) (by decide)
        have tk8 : Lq D s.heap H8 a0 := tk1.trans lq8
        have rb8 := ts1.put S1.1 ga0 P8 (by decide) (by decide) (by decide)
        have bg8 : (fI D H8 11 a0 12).toInt = ((b : Nat) : Int) := by rw [Pt.o P8 (by decide) (by decide)]; exact wr1
        refine lv_aload_n hx hb dX12_readAtom_30 rfl (lv_at hl 0 rfl) ?_
        have rs9 : 0 ≤ (fI D H8 11 a0 16).toInt ∧ (fI D H8 11 a0 16).toInt ≤ 400 := S8.1.rng ga0 rfl (by decide) rfl
        have rp9 : 0 ≤ (fI D H8 11 a0 10).toInt ∧ (fI D H8 11 a0 10).toInt ≤ 400 := S8.1.rng ga0 rfl (by decide) rfl
        refine callV_Ei C S8 (c_X12_readCond_d3 l D G a0 T (nx T b) ga0) kV_X12_200 ga0 (⟨⟨by omega, by omega⟩, rb8⟩) (by decide +kernel) dX12_readAtom_31 hl.1 rfl rfl (by decide) cd_X12_readCond ⟨Nat.le_of_ble_eq_true rfl, Nat.le_of_ble_eq_true rfl, Nat.le_of_ble_eq_true rfl, Nat.le_of_ble_eq_true rfl, Nat.le_of_ble_eq_true rfl⟩ (fun v9 H9 L9 S9 K9 q9 => ?_)
        obtain ⟨q9, fq9⟩ := q9
        obtain ⟨q9, sa9, sx9, tq9⟩ := q9
        have lq9 : Lq D H8 H9 a0 := tq9
        have tk9 : Lq D s.heap H9 a0 := tk8.trans lq9
        rcases fq9 with ⟨c9, y9, z9, ts9⟩ | ⟨e9, y9, z9, wr9⟩
        · skip
          refine lv_if_ne (tgt := 39) hx hb dX12_readAtom_34 (by decide) (fun c10 => ?_) (fun c10 => ?_)
          · have b10 : ¬ v9.toInt = (0 : Int32).toInt := fun z9 => c10 (i_eq.mpr z9)
            refine lv_aload_n hx hb dX12_readAtom_39 rfl (lv_at hl 0 rfl) ?_
            refine lv_dup hx hb dX12_readAtom_40 rfl ?_
            refine q_gi (T := TX12) C S9.1 ga0 13 kF_X12_197 dX12_readAtom_41 rfl rfl (by decide) rfl (by decide) rfl ?_
            have r11 : 0 ≤ (fI D H9 11 a0 13).toInt ∧ (fI D H9 11 a0 13).toInt ≤ 6 := S9.1.rng ga0 rfl (by decide) rfl
            refine lv_iconst (v := 1) hx hb dX12_readAtom_44 (by decide) ?_
            refine lv_isub hx hb dX12_readAtom_45 ?_
            refine lv_topi (fun v12 ev12 => ?_)
            have f13 : v12.toInt = (fI D H9 11 a0 13).toInt - (1 : Int32).toInt := by rw [ev12]; exact i_sub (by omega) (by omega)
            refine q_put (T := TX12) C S9 ga0 13 kF_X12_197 dX12_readAtom_46 rfl rfl (by decide) (by decide) rfl rfl rfl rfl rfl (vok_i rfl (by omega) (by omega)) (by decide +kernel) (fun H14 L14 S14 P14 => ?_)
            have y14_10 : (fI D H14 11 a0 10).toInt = (fI D H9 11 a0 10).toInt := congrArg Int32.toInt (Pt.o P14 (by decide) (by decide))
            have y14_12 : (fI D H14 11 a0 12).toInt = (fI D H9 11 a0 12).toInt := congrArg Int32.toInt (Pt.o P14 (by decide) (by decide))
            have y14_13 : (fI D H14 11 a0 13).toInt = v12.toInt := congrArg Int32.toInt (Pt.i P14)
            have y14_16 : (fI D H14 11 a0 16).toInt = (fI D H9 11 a0 16).toInt := congrArg Int32.toInt (Pt.o P14 (by decide) (by decide))
            have lq14 : Lq D H9 H14 a0 := Lq.put S9.1 ga0 P14 (by decide) (by decide)
            have tk14 : Lq D s.heap H14 a0 := tk9.trans lq14
            have rb14 := ts9.put S9.1 ga0 P14 (by decide) (by decide) (by decide)
            have rs9 : 0 ≤ (fI D H14 11 a0 16).toInt ∧ (fI D H14 11 a0 16).toInt ≤ 400 := S14.1.rng ga0 rfl (by decide) rfl
            have rp9 : 0 ≤ (fI D H14 11 a0 10).toInt ∧ (fI D H14 11 a0 10).toInt ≤ 400 := S14.1.rng ga0 rfl (by decide) rfl
            refine lv_aload_n hx hb dX12_readAtom_49 rfl (lv_at hl 0 rfl) ?_
            refine lv_bipush (v := 41) hx hb dX12_readAtom_50 (by decide) ?_
            have k_41 : (41 : Int32).toInt = 41 := by decide
            refine callV_Ei C S14 (c_X12_sign_f l D G a0 (41 : Int32) 41 T c9 ga0 (by omega) (by decide)) kV_X12_193 ga0 (⟨trivial, rb14⟩) (by decide +kernel) dX12_readAtom_52 hl.1 rfl rfl (by decide) cd_X12_sign ⟨Nat.le_of_ble_eq_true rfl, Nat.le_of_ble_eq_true rfl, Nat.le_of_ble_eq_true rfl, Nat.le_of_ble_eq_true rfl, Nat.le_of_ble_eq_true rfl⟩ (fun v15 H15 L15 S15 K15 q15 => ?_)
            obtain ⟨q15, fq15⟩ := q15
            have y15_13 : (fI D H15 11 a0 13).toInt = (fI D H14 11 a0 13).toInt := congrArg Int32.toInt (K15.fI ga0 rfl (by decide) (by decide +kernel))
            have y15_16 : (fI D H15 11 a0 16).toInt = (fI D H14 11 a0 16).toInt := congrArg Int32.toInt (K15.fI ga0 rfl (by decide) (by decide +kernel))
            have lq15 : Lq D H14 H15 a0 := Lq.keep S14.1 ga0 K15 (by decide +kernel) (by decide +kernel) (by decide +kernel)
            have tk15 : Lq D s.heap H15 a0 := tk14.trans lq15
            rcases fq15 with ⟨z15, y15, ts15, wr15⟩ | ⟨z15, y15, ts15, wr15⟩
            · skip
              exact retE_z hQ C S15 hr dX12_readAtom_55 (z01 (by omega) (by omega)) (⟨⟨by omega, fun _ => by omega, fun _ => ((lq14.trans lq15).ex (sx9 (by omega)) (by omega)).at (by omega) (by omega), tk15⟩, RR.ok (by rw [atm_s]; simp [clo, tkS, tlF, cmpF, y1, yn3, y9, y15]) (by omega) ts15⟩)
            · skip
              exact retE_z hQ C S15 hr dX12_readAtom_55 (z01 (by omega) (by omega)) (⟨⟨by omega, fun _ => by omega, fun _ => ((lq14.trans lq15).ex (sx9 (by omega)) (by omega)).at (by omega) (by omega), tk15⟩, RR.no (by rw [atm_s]; simp [clo, tkS, tlF, cmpF, y1, yn3, y9, y15]) (by omega) wr15⟩)
          · have b10 : v9.toInt = (0 : Int32).toInt := i_eq.mp c10
            exact absurd b10 (by omega)
        · skip
          refine lv_if_ne (tgt := 39) hx hb dX12_readAtom_34 (by decide) (fun c16 => ?_) (fun c16 => ?_)
          · have b16 : ¬ v9.toInt = (0 : Int32).toInt := fun z9 => c16 (i_eq.mpr z9)
            exact absurd b16 (by omega)
          · have b16 : v9.toInt = (0 : Int32).toInt := i_eq.mp c16
            refine lv_iconst (v := 0) hx hb dX12_readAtom_37 (by decide) ?_
            exact retE_z hQ C S9 hr dX12_readAtom_38 (z01 (by omega) (by omega)) (⟨⟨by omega, fun h9 => absurd h9 (by decide), fun h9 => absurd h9 (by decide), tk9⟩, RR.no (by rw [atm_s]; simp [clo, tkS, tlF, cmpF, y1, yn3, y9]) (by omega) wr9⟩)
      · have b5 : (fI D H1 11 a0 13).toInt = (6 : Int32).toInt := i_eq.mp c5
        exact absurd b5 (by omega)
  · skip
    have k_0 : (0 : Int32).toInt = 0 := by decide
    refine lv_if_eq (tgt := 56) hx hb dX12_readAtom_6 (by decide) (fun c17 => ?_) (fun c17 => ?_)
    · have b17 : v1.toInt = (0 : Int32).toInt := i_eq.mp c17
      refine lv_aload_n hx hb dX12_readAtom_56 rfl (lv_at hl 0 rfl) ?_
      refine q_lds C ks_X12_203 dX12_readAtom_57 (fun a18 ha18 wa18 => ?_)
      refine callV_Ei C S1 (c_X12_passes_f l D G a0 a18 3 w_not T b ga0 ha18 (Wc.of wa18 kw_not) (by decide)) kV_X12_120 ga0 (⟨trivial, ts1⟩) (by decide +kernel) dX12_readAtom_59 hl.1 rfl rfl (by decide) cd_X12_passes ⟨Nat.le_of_ble_eq_true rfl, Nat.le_of_ble_eq_true rfl, Nat.le_of_ble_eq_true rfl, Nat.le_of_ble_eq_true rfl, Nat.le_of_ble_eq_true rfl⟩ (fun v19 H19 L19 S19 K19 q19 => ?_)
      obtain ⟨q19, fq19⟩ := q19
      have y19_13 : (fI D H19 11 a0 13).toInt = (fI D H1 11 a0 13).toInt := congrArg Int32.toInt (K19.fI ga0 rfl (by decide) (by decide +kernel))
      have y19_16 : (fI D H19 11 a0 16).toInt = (fI D H1 11 a0 16).toInt := congrArg Int32.toInt (K19.fI ga0 rfl (by decide) (by decide +kernel))
      have lq19 : Lq D H1 H19 a0 := Lq.keep S1.1 ga0 K19 (by decide +kernel) (by decide +kernel) (by decide +kernel)
      have tk19 : Lq D s.heap H19 a0 := tk1.trans lq19
      rcases fq19 with ⟨z19, y19, ts19, wr19⟩ | ⟨z19, y19, ts19, wr19⟩
      · skip
        refine lv_if_eq (tgt := 114) hx hb dX12_readAtom_62 (by decide) (fun c20 => ?_) (fun c20 => ?_)
        · have b20 : v19.toInt = (0 : Int32).toInt := i_eq.mp c20
          exact absurd b20 (by omega)
        · have b20 : ¬ v19.toInt = (0 : Int32).toInt := fun z9 => c20 (i_eq.mpr z9)
          refine lv_aload_n hx hb dX12_readAtom_65 rfl (lv_at hl 0 rfl) ?_
          have dd : (fI D H19 11 a0 13).toInt = 2 := by omega
          refine q_gi (T := TX12) C S19.1 ga0 13 kF_X12_197 dX12_readAtom_66 rfl rfl (by decide) rfl (by decide) rfl ?_
          have r21 : 0 ≤ (fI D H19 11 a0 13).toInt ∧ (fI D H19 11 a0 13).toInt ≤ 6 := S19.1.rng ga0 rfl (by decide) rfl
          refine lv_bipush (v := 6) hx hb dX12_readAtom_69 (by decide) ?_
          have k_6 : (6 : Int32).toInt = 6 := by decide
          refine lv_icmp_ne (tgt := 76) hx hb dX12_readAtom_71 (by decide) (fun c22 => ?_) (fun c22 => ?_)
          · have b22 : ¬ (fI D H19 11 a0 13).toInt = (6 : Int32).toInt := fun z9 => c22 (i_eq.mpr z9)
            refine lv_aload_n hx hb dX12_readAtom_76 rfl (lv_at hl 0 rfl) ?_
            refine lv_dup hx hb dX12_readAtom_77 rfl ?_
            refine q_gi (T := TX12) C S19.1 ga0 13 kF_X12_197 dX12_readAtom_78 rfl rfl (by decide) rfl (by decide) rfl ?_
            refine lv_iconst (v := 1) hx hb dX12_readAtom_81 (by decide) ?_
            have k_1 : (1 : Int32).toInt = 1 := by decide
            refine lv_iadd hx hb dX12_readAtom_82 ?_
            refine lv_topi (fun v23 ev23 => ?_)
            have f24 : v23.toInt = (fI D H19 11 a0 13).toInt + (1 : Int32).toInt := by rw [ev23]; exact i_add (by omega) (by omega)
            refine q_put (T := TX12) C S19 ga0 13 kF_X12_197 dX12_readAtom_83 rfl rfl (by decide) (by decide) rfl rfl rfl rfl rfl (vok_i rfl (by omega) (by omega)) (by decide +kernel) (fun H25 L25 S25 P25 => ?_)
            have y25_10 : (fI D H25 11 a0 10).toInt = (fI D H19 11 a0 10).toInt := congrArg Int32.toInt (Pt.o P25 (by decide) (by decide))
            have y25_12 : (fI D H25 11 a0 12).toInt = (fI D H19 11 a0 12).toInt := congrArg Int32.toInt (Pt.o P25 (by decide) (by decide))
            have y25_13 : (fI D H25 11 a0 13).toInt = v23.toInt := congrArg Int32.toInt (Pt.i P25)
            have y25_16 : (fI D H25 11 a0 16).toInt = (fI D H19 11 a0 16).toInt := congrArg Int32.toInt (Pt.o P25 (by decide) (by decide))
            have lq25 : Lq D H19 H25 a0 := Lq.put S19.1 ga0 P25 (by decide) (by decide)
            have tk25 : Lq D s.heap H25 a0 := tk19.trans lq25
            have rb25 := ts19.put S19.1 ga0 P25 (by decide) (by decide) (by decide)
            have bg25 : (fI D H25 11 a0 12).toInt = ((b : Nat) : Int) := by rw [Pt.o P25 (by decide) (by decide)]; exact wr19
            refine lv_aload_n hx hb dX12_readAtom_86 rfl (lv_at hl 0 rfl) ?_
            have rs9 : 0 ≤ (fI D H25 11 a0 16).toInt ∧ (fI D H25 11 a0 16).toInt ≤ 400 := S25.1.rng ga0 rfl (by decide) rfl
            have rp9 : 0 ≤ (fI D H25 11 a0 10).toInt ∧ (fI D H25 11 a0 10).toInt ≤ 400 := S25.1.rng ga0 rfl (by decide) rfl
            refine callV_Ei C S25 (c_X12_readAtom_d3 l D G a0 T (nx T b) ga0) kV_X12_205 ga0 (⟨⟨by omega, by omega⟩, rb25⟩) (by decide +kernel) dX12_readAtom_87 hl.1 rfl rfl (by decide) cd_X12_readAtom ⟨Nat.le_of_ble_eq_true rfl, Nat.le_of_ble_eq_true rfl, Nat.le_of_ble_eq_true rfl, Nat.le_of_ble_eq_true rfl, Nat.le_of_ble_eq_true rfl⟩ (fun v26 H26 L26 S26 K26 q26 => ?_)
            obtain ⟨q26, fq26⟩ := q26
            obtain ⟨q26, sa26, sx26, tq26⟩ := q26
            have lq26 : Lq D H25 H26 a0 := tq26
            have tk26 : Lq D s.heap H26 a0 := tk25.trans lq26
            rcases fq26 with ⟨c26, y26, z26, ts26⟩ | ⟨e26, y26, z26, wr26⟩
            · skip
              refine lv_if_ne (tgt := 95) hx hb dX12_readAtom_90 (by decide) (fun c27 => ?_) (fun c27 => ?_)
              · have b27 : ¬ v26.toInt = (0 : Int32).toInt := fun z9 => c27 (i_eq.mpr z9)
                refine lv_aload_n hx hb dX12_readAtom_95 rfl (lv_at hl 0 rfl) ?_
                refine lv_dup hx hb dX12_readAtom_96 rfl ?_
                refine q_gi (T := TX12) C S26.1 ga0 13 kF_X12_197 dX12_readAtom_97 rfl rfl (by decide) rfl (by decide) rfl ?_
                have r28 : 0 ≤ (fI D H26 11 a0 13).toInt ∧ (fI D H26 11 a0 13).toInt ≤ 6 := S26.1.rng ga0 rfl (by decide) rfl
                refine lv_iconst (v := 1) hx hb dX12_readAtom_100 (by decide) ?_
                refine lv_isub hx hb dX12_readAtom_101 ?_
                refine lv_topi (fun v29 ev29 => ?_)
                have f30 : v29.toInt = (fI D H26 11 a0 13).toInt - (1 : Int32).toInt := by rw [ev29]; exact i_sub (by omega) (by omega)
                refine q_put (T := TX12) C S26 ga0 13 kF_X12_197 dX12_readAtom_102 rfl rfl (by decide) (by decide) rfl rfl rfl rfl rfl (vok_i rfl (by omega) (by omega)) (by decide +kernel) (fun H31 L31 S31 P31 => ?_)
                have y31_10 : (fI D H31 11 a0 10).toInt = (fI D H26 11 a0 10).toInt := congrArg Int32.toInt (Pt.o P31 (by decide) (by decide))
                have y31_12 : (fI D H31 11 a0 12).toInt = (fI D H26 11 a0 12).toInt := congrArg Int32.toInt (Pt.o P31 (by decide) (by decide))
                have y31_13 : (fI D H31 11 a0 13).toInt = v29.toInt := congrArg Int32.toInt (Pt.i P31)
                have y31_16 : (fI D H31 11 a0 16).toInt = (fI D H26 11 a0 16).toInt := congrArg Int32.toInt (Pt.o P31 (by decide) (by decide))
                have lq31 : Lq D H26 H31 a0 := Lq.put S26.1 ga0 P31 (by decide) (by decide)
                have tk31 : Lq D s.heap H31 a0 := tk26.trans lq31
                have rb31 := ts26.put S26.1 ga0 P31 (by decide) (by decide) (by decide)
                refine lv_aload_n hx hb dX12_readAtom_105 rfl (lv_at hl 0 rfl) ?_
                refine lv_bipush (v := 15) hx hb dX12_readAtom_106 (by decide) ?_
                refine lv_iconst (v := 0) hx hb dX12_readAtom_108 (by decide) ?_
                have rs9 : 0 ≤ (fI D H31 11 a0 16).toInt ∧ (fI D H31 11 a0 16).toInt ≤ 400 := S31.1.rng ga0 rfl (by decide) rfl
                have rp9 : 0 ≤ (fI D H31 11 a0 10).toInt ∧ (fI D H31 11 a0 10).toInt ≤ 400 := S31.1.rng ga0 rfl (by decide) rfl
                have k_15 : (15 : Int32).toInt = 15 := by decide
                refine callV_Ev C S31 (c_X12_emits l D G a0 (15 : Int32) (0 : Int32) ga0) kV_X12_185 ga0 (by omega) (by decide +kernel) dX12_readAtom_109 hl.1 rfl rfl (by decide) cd_X12_emits ⟨Nat.le_of_ble_eq_true rfl, Nat.le_of_ble_eq_true rfl, Nat.le_of_ble_eq_true rfl, Nat.le_of_ble_eq_true rfl, Nat.le_of_ble_eq_true rfl⟩ (fun H32 L32 S32 K32 q32 => ?_)
                obtain ⟨qa32, qb32, tq32⟩ := q32
                have y32_10 : (fI D H32 11 a0 10).toInt = (fI D H31 11 a0 10).toInt := congrArg Int32.toInt (K32.fI ga0 rfl (by decide) (by decide +kernel))
                have y32_12 : (fI D H32 11 a0 12).toInt = (fI D H31 11 a0 12).toInt := congrArg Int32.toInt (K32.fI ga0 rfl (by decide) (by decide +kernel))
                have y32_13 : (fI D H32 11 a0 13).toInt = (fI D H31 11 a0 13).toInt := congrArg Int32.toInt (K32.fI ga0 rfl (by decide) (by decide +kernel))
                have lq32 : Lq D H31 H32 a0 := tq32
                have tk32 : Lq D s.heap H32 a0 := tk31.trans lq32
                have rb32 := rb31.keep S31.1 ga0 K32 (by decide +kernel)
                refine lv_iconst (v := 1) hx hb dX12_readAtom_112 (by decide) ?_
                exact retE_z hQ C S32 hr dX12_readAtom_113 (z01 (by omega) (by omega)) (⟨⟨by omega, fun _ => by omega, fun _ => (Ex.un (((lq31.trans lq32).ex (sx26 (by omega)) (by omega)).at (j' := (fI D H31 11 a0 16).toInt.toNat) rfl (by omega)) (by rw [qb32]; decide) rfl).at (by omega) (by omega), tk32⟩, RR.ok (by rw [atm_s]; simp [clo, tkS, tlF, cmpF, y1, y19, y26]) (by omega) rb32⟩)
              · have b27 : v26.toInt = (0 : Int32).toInt := i_eq.mp c27
                exact absurd b27 (by omega)
            · skip
              refine lv_if_ne (tgt := 95) hx hb dX12_readAtom_90 (by decide) (fun c33 => ?_) (fun c33 => ?_)
              · have b33 : ¬ v26.toInt = (0 : Int32).toInt := fun z9 => c33 (i_eq.mpr z9)
                exact absurd b33 (by omega)
              · have b33 : v26.toInt = (0 : Int32).toInt := i_eq.mp c33
                refine lv_iconst (v := 0) hx hb dX12_readAtom_93 (by decide) ?_
                exact retE_z hQ C S26 hr dX12_readAtom_94 (z01 (by omega) (by omega)) (⟨⟨by omega, fun h9 => absurd h9 (by decide), fun h9 => absurd h9 (by decide), tk26⟩, RR.no (by rw [atm_s]; simp [clo, tkS, tlF, cmpF, y1, y19, y26]) (by omega) wr26⟩)
          · have b22 : (fI D H19 11 a0 13).toInt = (6 : Int32).toInt := i_eq.mp c22
            exact absurd b22 (by omega)
      · skip
        refine lv_if_eq (tgt := 114) hx hb dX12_readAtom_62 (by decide) (fun c34 => ?_) (fun c34 => ?_)
        · have b34 : v19.toInt = (0 : Int32).toInt := i_eq.mp c34
          refine lv_aload_n hx hb dX12_readAtom_114 rfl (lv_at hl 0 rfl) ?_
          have rs9 : 0 ≤ (fI D H19 11 a0 16).toInt ∧ (fI D H19 11 a0 16).toInt ≤ 400 := S19.1.rng ga0 rfl (by decide) rfl
          have rp9 : 0 ≤ (fI D H19 11 a0 10).toInt ∧ (fI D H19 11 a0 10).toInt ≤ 400 := S19.1.rng ga0 rfl (by decide) rfl
          refine callV_Ei C S19 (c_X12_readTag l D G a0 T b ga0) kV_X12_208 ga0 (⟨by omega, ts19⟩) (by decide +kernel) dX12_readAtom_115 hl.1 rfl rfl (by decide) cd_X12_readTag ⟨Nat.le_of_ble_eq_true rfl, Nat.le_of_ble_eq_true rfl, Nat.le_of_ble_eq_true rfl, Nat.le_of_ble_eq_true rfl, Nat.le_of_ble_eq_true rfl⟩ (fun v35 H35 L35 S35 K35 q35 => ?_)
          obtain ⟨q35, fq35⟩ := q35
          obtain ⟨q35, sa35, sx35, tq35, sf35⟩ := q35
          have y35_13 : (fI D H35 11 a0 13).toInt = (fI D H19 11 a0 13).toInt := congrArg Int32.toInt (K35.fI ga0 rfl (by decide) (by decide +kernel))
          have lq35 : Lq D H19 H35 a0 := tq35
          have tk35 : Lq D s.heap H35 a0 := tk19.trans lq35
          rcases fq35 with ⟨z35, y35, ts35, wr35⟩ | ⟨z35, y35, ts35, wr35⟩
          · skip
            refine lv_if_eq (tgt := 123) hx hb dX12_readAtom_118 (by decide) (fun c36 => ?_) (fun c36 => ?_)
            · have b36 : v35.toInt = (0 : Int32).toInt := i_eq.mp c36
              exact absurd b36 (by omega)
            · have b36 : ¬ v35.toInt = (0 : Int32).toInt := fun z9 => c36 (i_eq.mpr z9)
              have yt37 : ¬ tru T b = -1 := tag_t y35
              refine lv_iconst (v := 1) hx hb dX12_readAtom_121 (by decide) ?_
              have k_1 : (1 : Int32).toInt = 1 := by decide
              exact retE_z hQ C S35 hr dX12_readAtom_122 (z01 (by omega) (by omega)) (⟨⟨by omega, fun _ => by omega, fun _ => (sx35 (by omega)).at (by omega) rfl, tk35⟩, RR.ok (by rw [atm_s]; simp [clo, tkS, tlF, cmpF, y1, y19, y35, yt37]) (by omega) ts35⟩)
          · skip
            refine lv_if_eq (tgt := 123) hx hb dX12_readAtom_118 (by decide) (fun c38 => ?_) (fun c38 => ?_)
            · have b38 : v35.toInt = (0 : Int32).toInt := i_eq.mp c38
              have yt39 : tru T b = -1 := tag_f y35
              refine lv_aload_n hx hb dX12_readAtom_123 rfl (lv_at hl 0 rfl) ?_
              have rs9 : 0 ≤ (fI D H35 11 a0 16).toInt ∧ (fI D H35 11 a0 16).toInt ≤ 400 := S35.1.rng ga0 rfl (by decide) rfl
              have rp9 : 0 ≤ (fI D H35 11 a0 10).toInt ∧ (fI D H35 11 a0 10).toInt ≤ 400 := S35.1.rng ga0 rfl (by decide) rfl
              refine callV_Ei C S35 (c_X12_readSum l D G a0 T b ga0) kV_X12_211 ga0 (⟨by omega, ts35⟩) (by decide +kernel) dX12_readAtom_124 hl.1 rfl rfl (by decide) cd_X12_readSum ⟨Nat.le_of_ble_eq_true rfl, Nat.le_of_ble_eq_true rfl, Nat.le_of_ble_eq_true rfl, Nat.le_of_ble_eq_true rfl, Nat.le_of_ble_eq_true rfl⟩ (fun v40 H40 L40 S40 K40 q40 => ?_)
              obtain ⟨q40, fq40⟩ := q40
              obtain ⟨q40, sa40, sx40, tq40⟩ := q40
              have y40_13 : (fI D H40 11 a0 13).toInt = (fI D H35 11 a0 13).toInt := congrArg Int32.toInt (K40.fI ga0 rfl (by decide) (by decide +kernel))
              have lq40 : Lq D H35 H40 a0 := tq40
              have tk40 : Lq D s.heap H40 a0 := tk35.trans lq40
              rcases fq40 with ⟨c40, y40, z40, ts40⟩ | ⟨e40, y40, z40, wr40⟩
              · skip
                refine lv_if_ne (tgt := 132) hx hb dX12_readAtom_127 (by decide) (fun c41 => ?_) (fun c41 => ?_)
                · have b41 : ¬ v40.toInt = (0 : Int32).toInt := fun z9 => c41 (i_eq.mpr z9)
                  refine lv_aload_n hx hb dX12_readAtom_132 rfl (lv_at hl 0 rfl) ?_
                  refine lv_bipush (v := 60) hx hb dX12_readAtom_133 (by decide) ?_
                  have k_60 : (60 : Int32).toInt = 60 := by decide
                  refine callV_Ei C S40 (c_X12_sign_f l D G a0 (60 : Int32) 60 T c40 ga0 (by omega) (by decide)) kV_X12_193 ga0 (⟨trivial, ts40⟩) (by decide +kernel) dX12_readAtom_135 hl.1 rfl rfl (by decide) cd_X12_sign ⟨Nat.le_of_ble_eq_true rfl, Nat.le_of_ble_eq_true rfl, Nat.le_of_ble_eq_true rfl, Nat.le_of_ble_eq_true rfl, Nat.le_of_ble_eq_true rfl⟩ (fun v42 H42 L42 S42 K42 q42 => ?_)
                  obtain ⟨q42, fq42⟩ := q42
                  have y42_13 : (fI D H42 11 a0 13).toInt = (fI D H40 11 a0 13).toInt := congrArg Int32.toInt (K42.fI ga0 rfl (by decide) (by decide +kernel))
                  have y42_16 : (fI D H42 11 a0 16).toInt = (fI D H40 11 a0 16).toInt := congrArg Int32.toInt (K42.fI ga0 rfl (by decide) (by decide +kernel))
                  have lq42 : Lq D H40 H42 a0 := Lq.keep S40.1 ga0 K42 (by decide +kernel) (by decide +kernel) (by decide +kernel)
                  have tk42 : Lq D s.heap H42 a0 := tk40.trans lq42
                  rcases fq42 with ⟨z42, y42, ts42, wr42⟩ | ⟨z42, y42, ts42, wr42⟩
                  · skip
                    refine lv_istore_n (lv' := [(1, .int v42), (0, .ref a0)]) hx hb dX12_readAtom_138 rfl hl (by decide) rfl (fun ls hl => ?_)
                    refine lv_iload_n hx hb dX12_readAtom_139 rfl (lv_at hl 0 rfl) ?_
                    refine lv_if_ne (tgt := 152) hx hb dX12_readAtom_140 (by decide) (fun c43 => ?_) (fun c43 => ?_)
                    · have b43 : ¬ v42.toInt = (0 : Int32).toInt := fun z9 => c43 (i_eq.mpr z9)
                      refine lv_aload_n hx hb dX12_readAtom_152 rfl (lv_at hl 1 rfl) ?_
                      have rs9 : 0 ≤ (fI D H42 11 a0 16).toInt ∧ (fI D H42 11 a0 16).toInt ≤ 400 := S42.1.rng ga0 rfl (by decide) rfl
                      have rp9 : 0 ≤ (fI D H42 11 a0 10).toInt ∧ (fI D H42 11 a0 10).toInt ≤ 400 := S42.1.rng ga0 rfl (by decide) rfl
                      refine callV_Ei C S42 (c_X12_readSum l D G a0 T (nx T c40) ga0) kV_X12_211 ga0 (⟨by omega, ts42⟩) (by decide +kernel) dX12_readAtom_153 hl.1 rfl rfl (by decide) cd_X12_readSum ⟨Nat.le_of_ble_eq_true rfl, Nat.le_of_ble_eq_true rfl, Nat.le_of_ble_eq_true rfl, Nat.le_of_ble_eq_true rfl, Nat.le_of_ble_eq_true rfl⟩ (fun v44 H44 L44 S44 K44 q44 => ?_)
                      obtain ⟨q44, fq44⟩ := q44
                      obtain ⟨q44, sa44, sx44, tq44⟩ := q44
                      have y44_13 : (fI D H44 11 a0 13).toInt = (fI D H42 11 a0 13).toInt := congrArg Int32.toInt (K44.fI ga0 rfl (by decide) (by decide +kernel))
                      have lq44 : Lq D H42 H44 a0 := tq44
                      have tk44 : Lq D s.heap H44 a0 := tk42.trans lq44
                      rcases fq44 with ⟨c44, y44, z44, ts44⟩ | ⟨e44, y44, z44, wr44⟩
                      · skip
                        refine lv_if_ne (tgt := 161) hx hb dX12_readAtom_156 (by decide) (fun c45 => ?_) (fun c45 => ?_)
                        · have b45 : ¬ v44.toInt = (0 : Int32).toInt := fun z9 => c45 (i_eq.mpr z9)
                          refine lv_aload_n hx hb dX12_readAtom_161 rfl (lv_at hl 1 rfl) ?_
                          refine lv_iload_n hx hb dX12_readAtom_162 rfl (lv_at hl 0 rfl) ?_
                          refine lv_if_eq (tgt := 171) hx hb dX12_readAtom_163 (by decide) (fun c46 => ?_) (fun c46 => ?_)
                          · have b46 : v42.toInt = (0 : Int32).toInt := i_eq.mp c46
                            exact absurd b46 (by omega)
                          · have b46 : ¬ v42.toInt = (0 : Int32).toInt := fun z9 => c46 (i_eq.mpr z9)
                            refine lv_bipush (v := 13) hx hb dX12_readAtom_166 (by decide) ?_
                            refine lv_goto (tgt := 173) hx hb dX12_readAtom_168 (by decide) ?_
                            refine lv_iconst (v := 0) hx hb dX12_readAtom_173 (by decide) ?_
                            have rs9 : 0 ≤ (fI D H44 11 a0 16).toInt ∧ (fI D H44 11 a0 16).toInt ≤ 400 := S44.1.rng ga0 rfl (by decide) rfl
                            have rp9 : 0 ≤ (fI D H44 11 a0 10).toInt ∧ (fI D H44 11 a0 10).toInt ≤ 400 := S44.1.rng ga0 rfl (by decide) rfl
                            have k_13 : (13 : Int32).toInt = 13 := by decide
                            refine callV_Ev C S44 (c_X12_emits l D G a0 (13 : Int32) (0 : Int32) ga0) kV_X12_185 ga0 (by omega) (by decide +kernel) dX12_readAtom_174 hl.1 rfl rfl (by decide) cd_X12_emits ⟨Nat.le_of_ble_eq_true rfl, Nat.le_of_ble_eq_true rfl, Nat.le_of_ble_eq_true rfl, Nat.le_of_ble_eq_true rfl, Nat.le_of_ble_eq_true rfl⟩ (fun H47 L47 S47 K47 q47 => ?_)
                            obtain ⟨qa47, qb47, tq47⟩ := q47
                            have y47_10 : (fI D H47 11 a0 10).toInt = (fI D H44 11 a0 10).toInt := congrArg Int32.toInt (K47.fI ga0 rfl (by decide) (by decide +kernel))
                            have y47_12 : (fI D H47 11 a0 12).toInt = (fI D H44 11 a0 12).toInt := congrArg Int32.toInt (K47.fI ga0 rfl (by decide) (by decide +kernel))
                            have y47_13 : (fI D H47 11 a0 13).toInt = (fI D H44 11 a0 13).toInt := congrArg Int32.toInt (K47.fI ga0 rfl (by decide) (by decide +kernel))
                            have lq47 : Lq D H44 H47 a0 := tq47
                            have tk47 : Lq D s.heap H47 a0 := tk44.trans lq47
                            have rb47 := ts44.keep S44.1 ga0 K47 (by decide +kernel)
                            refine lv_iconst (v := 1) hx hb dX12_readAtom_177 (by decide) ?_
                            have k_1 : (1 : Int32).toInt = 1 := by decide
                            exact retE_z hQ C S47 hr dX12_readAtom_178 (z01 (by omega) (by omega)) (⟨⟨by omega, fun _ => by omega, fun _ => (Ex.bin (((lq42.trans lq44).trans lq47).ex (sx40 (by omega)) (by omega)) ((lq47.ex (sx44 (by omega)) (by omega)).at (i' := (fI D H40 11 a0 16).toInt.toNat) (by omega) rfl) (by rw [qb47]; decide) rfl).at (by omega) (by omega), tk47⟩, RR.ok (by rw [atm_s]; simp [clo, tkS, tlF, cmpF, y1, y19, y35, yt39, y40, y42, y44]) (by omega) rb47⟩)
                        · have b45 : v44.toInt = (0 : Int32).toInt := i_eq.mp c45
                          exact absurd b45 (by omega)
                      · skip
                        refine lv_if_ne (tgt := 161) hx hb dX12_readAtom_156 (by decide) (fun c48 => ?_) (fun c48 => ?_)
                        · have b48 : ¬ v44.toInt = (0 : Int32).toInt := fun z9 => c48 (i_eq.mpr z9)
                          exact absurd b48 (by omega)
                        · have b48 : v44.toInt = (0 : Int32).toInt := i_eq.mp c48
                          refine lv_iconst (v := 0) hx hb dX12_readAtom_159 (by decide) ?_
                          exact retE_z hQ C S44 hr dX12_readAtom_160 (z01 (by omega) (by omega)) (⟨⟨by omega, fun h9 => absurd h9 (by decide), fun h9 => absurd h9 (by decide), tk44⟩, RR.no (by rw [atm_s]; simp [clo, tkS, tlF, cmpF, y1, y19, y35, yt39, y40, y42, y44]) (by omega) wr44⟩)
                    · have b43 : v42.toInt = (0 : Int32).toInt := i_eq.mp c43
                      exact absurd b43 (by omega)
                  · skip
                    refine lv_istore_n (lv' := [(1, .int v42), (0, .ref a0)]) hx hb dX12_readAtom_138 rfl hl (by decide) rfl (fun ls hl => ?_)
                    refine lv_iload_n hx hb dX12_readAtom_139 rfl (lv_at hl 0 rfl) ?_
                    refine lv_if_ne (tgt := 152) hx hb dX12_readAtom_140 (by decide) (fun c49 => ?_) (fun c49 => ?_)
                    · have b49 : ¬ v42.toInt = (0 : Int32).toInt := fun z9 => c49 (i_eq.mpr z9)
                      exact absurd b49 (by omega)
                    · have b49 : v42.toInt = (0 : Int32).toInt := i_eq.mp c49
                      refine lv_aload_n hx hb dX12_readAtom_143 rfl (lv_at hl 1 rfl) ?_
                      refine lv_bipush (v := 62) hx hb dX12_readAtom_144 (by decide) ?_
                      have k_62 : (62 : Int32).toInt = 62 := by decide
                      refine callV_Ei C S42 (c_X12_sign_f l D G a0 (62 : Int32) 62 T c40 ga0 (by omega) (by decide)) kV_X12_193 ga0 (⟨trivial, ts42⟩) (by decide +kernel) dX12_readAtom_146 hl.1 rfl rfl (by decide) cd_X12_sign ⟨Nat.le_of_ble_eq_true rfl, Nat.le_of_ble_eq_true rfl, Nat.le_of_ble_eq_true rfl, Nat.le_of_ble_eq_true rfl, Nat.le_of_ble_eq_true rfl⟩ (fun v50 H50 L50 S50 K50 q50 => ?_)
                      obtain ⟨q50, fq50⟩ := q50
                      have y50_13 : (fI D H50 11 a0 13).toInt = (fI D H42 11 a0 13).toInt := congrArg Int32.toInt (K50.fI ga0 rfl (by decide) (by decide +kernel))
                      have y50_16 : (fI D H50 11 a0 16).toInt = (fI D H42 11 a0 16).toInt := congrArg Int32.toInt (K50.fI ga0 rfl (by decide) (by decide +kernel))
                      have lq50 : Lq D H42 H50 a0 := Lq.keep S42.1 ga0 K50 (by decide +kernel) (by decide +kernel) (by decide +kernel)
                      have tk50 : Lq D s.heap H50 a0 := tk42.trans lq50
                      rcases fq50 with ⟨z50, y50, ts50, wr50⟩ | ⟨z50, y50, ts50, wr50⟩
                      · skip
                        refine lv_if_eq (tgt := 159) hx hb dX12_readAtom_149 (by decide) (fun c51 => ?_) (fun c51 => ?_)
                        · have b51 : v50.toInt = (0 : Int32).toInt := i_eq.mp c51
                          exact absurd b51 (by omega)
                        · have b51 : ¬ v50.toInt = (0 : Int32).toInt := fun z9 => c51 (i_eq.mpr z9)
                          refine lv_aload_n hx hb dX12_readAtom_152 rfl (lv_at hl 1 rfl) ?_
                          have rs9 : 0 ≤ (fI D H50 11 a0 16).toInt ∧ (fI D H50 11 a0 16).toInt ≤ 400 := S50.1.rng ga0 rfl (by decide) rfl
                          have rp9 : 0 ≤ (fI D H50 11 a0 10).toInt ∧ (fI D H50 11 a0 10).toInt ≤ 400 := S50.1.rng ga0 rfl (by decide) rfl
                          refine callV_Ei C S50 (c_X12_readSum l D G a0 T (nx T c40) ga0) kV_X12_211 ga0 (⟨by omega, ts50⟩) (by decide +kernel) dX12_readAtom_153 hl.1 rfl rfl (by decide) cd_X12_readSum ⟨Nat.le_of_ble_eq_true rfl, Nat.le_of_ble_eq_true rfl, Nat.le_of_ble_eq_true rfl, Nat.le_of_ble_eq_true rfl, Nat.le_of_ble_eq_true rfl⟩ (fun v52 H52 L52 S52 K52 q52 => ?_)
                          obtain ⟨q52, fq52⟩ := q52
                          obtain ⟨q52, sa52, sx52, tq52⟩ := q52
                          have y52_13 : (fI D H52 11 a0 13).toInt = (fI D H50 11 a0 13).toInt := congrArg Int32.toInt (K52.fI ga0 rfl (by decide) (by decide +kernel))
                          have lq52 : Lq D H50 H52 a0 := tq52
                          have tk52 : Lq D s.heap H52 a0 := tk50.trans lq52
                          rcases fq52 with ⟨c52, y52, z52, ts52⟩ | ⟨e52, y52, z52, wr52⟩
                          · skip
                            refine lv_if_ne (tgt := 161) hx hb dX12_readAtom_156 (by decide) (fun c53 => ?_) (fun c53 => ?_)
                            · have b53 : ¬ v52.toInt = (0 : Int32).toInt := fun z9 => c53 (i_eq.mpr z9)
                              refine lv_aload_n hx hb dX12_readAtom_161 rfl (lv_at hl 1 rfl) ?_
                              refine lv_iload_n hx hb dX12_readAtom_162 rfl (lv_at hl 0 rfl) ?_
                              refine lv_if_eq (tgt := 171) hx hb dX12_readAtom_163 (by decide) (fun c54 => ?_) (fun c54 => ?_)
                              · have b54 : v42.toInt = (0 : Int32).toInt := i_eq.mp c54
                                refine lv_bipush (v := 14) hx hb dX12_readAtom_171 (by decide) ?_
                                refine lv_iconst (v := 0) hx hb dX12_readAtom_173 (by decide) ?_
                                have rs9 : 0 ≤ (fI D H52 11 a0 16).toInt ∧ (fI D H52 11 a0 16).toInt ≤ 400 := S52.1.rng ga0 rfl (by decide) rfl
                                have rp9 : 0 ≤ (fI D H52 11 a0 10).toInt ∧ (fI D H52 11 a0 10).toInt ≤ 400 := S52.1.rng ga0 rfl (by decide) rfl
                                have k_14 : (14 : Int32).toInt = 14 := by decide
                                refine callV_Ev C S52 (c_X12_emits l D G a0 (14 : Int32) (0 : Int32) ga0) kV_X12_185 ga0 (by omega) (by decide +kernel) dX12_readAtom_174 hl.1 rfl rfl (by decide) cd_X12_emits ⟨Nat.le_of_ble_eq_true rfl, Nat.le_of_ble_eq_true rfl, Nat.le_of_ble_eq_true rfl, Nat.le_of_ble_eq_true rfl, Nat.le_of_ble_eq_true rfl⟩ (fun H55 L55 S55 K55 q55 => ?_)
                                obtain ⟨qa55, qb55, tq55⟩ := q55
                                have y55_10 : (fI D H55 11 a0 10).toInt = (fI D H52 11 a0 10).toInt := congrArg Int32.toInt (K55.fI ga0 rfl (by decide) (by decide +kernel))
                                have y55_12 : (fI D H55 11 a0 12).toInt = (fI D H52 11 a0 12).toInt := congrArg Int32.toInt (K55.fI ga0 rfl (by decide) (by decide +kernel))
                                have y55_13 : (fI D H55 11 a0 13).toInt = (fI D H52 11 a0 13).toInt := congrArg Int32.toInt (K55.fI ga0 rfl (by decide) (by decide +kernel))
                                have lq55 : Lq D H52 H55 a0 := tq55
                                have tk55 : Lq D s.heap H55 a0 := tk52.trans lq55
                                have rb55 := ts52.keep S52.1 ga0 K55 (by decide +kernel)
                                refine lv_iconst (v := 1) hx hb dX12_readAtom_177 (by decide) ?_
                                have k_1 : (1 : Int32).toInt = 1 := by decide
                                exact retE_z hQ C S55 hr dX12_readAtom_178 (z01 (by omega) (by omega)) (⟨⟨by omega, fun _ => by omega, fun _ => (Ex.bin ((((lq42.trans lq50).trans lq52).trans lq55).ex (sx40 (by omega)) (by omega)) ((lq55.ex (sx52 (by omega)) (by omega)).at (i' := (fI D H40 11 a0 16).toInt.toNat) (by omega) rfl) (by rw [qb55]; decide) rfl).at (by omega) (by omega), tk55⟩, RR.ok (by rw [atm_s]; simp [clo, tkS, tlF, cmpF, y1, y19, y35, yt39, y40, y42, y50, y52]) (by omega) rb55⟩)
                              · have b54 : ¬ v42.toInt = (0 : Int32).toInt := fun z9 => c54 (i_eq.mpr z9)
                                exact absurd b54 (by omega)
                            · have b53 : v52.toInt = (0 : Int32).toInt := i_eq.mp c53
                              exact absurd b53 (by omega)
                          · skip
                            refine lv_if_ne (tgt := 161) hx hb dX12_readAtom_156 (by decide) (fun c56 => ?_) (fun c56 => ?_)
                            · have b56 : ¬ v52.toInt = (0 : Int32).toInt := fun z9 => c56 (i_eq.mpr z9)
                              exact absurd b56 (by omega)
                            · have b56 : v52.toInt = (0 : Int32).toInt := i_eq.mp c56
                              refine lv_iconst (v := 0) hx hb dX12_readAtom_159 (by decide) ?_
                              exact retE_z hQ C S52 hr dX12_readAtom_160 (z01 (by omega) (by omega)) (⟨⟨by omega, fun h9 => absurd h9 (by decide), fun h9 => absurd h9 (by decide), tk52⟩, RR.no (by rw [atm_s]; simp [clo, tkS, tlF, cmpF, y1, y19, y35, yt39, y40, y42, y50, y52]) (by omega) wr52⟩)
                      · skip
                        refine lv_if_eq (tgt := 159) hx hb dX12_readAtom_149 (by decide) (fun c57 => ?_) (fun c57 => ?_)
                        · have b57 : v50.toInt = (0 : Int32).toInt := i_eq.mp c57
                          refine lv_iconst (v := 0) hx hb dX12_readAtom_159 (by decide) ?_
                          exact retE_z hQ C S50 hr dX12_readAtom_160 (z01 (by omega) (by omega)) (⟨⟨by omega, fun h9 => absurd h9 (by decide), fun h9 => absurd h9 (by decide), tk50⟩, RR.no (by rw [atm_s]; simp [clo, tkS, tlF, cmpF, y1, y19, y35, yt39, y40, y42, y50]) (by omega) wr50⟩)
                        · have b57 : ¬ v50.toInt = (0 : Int32).toInt := fun z9 => c57 (i_eq.mpr z9)
                          exact absurd b57 (by omega)
                · have b41 : v40.toInt = (0 : Int32).toInt := i_eq.mp c41
                  exact absurd b41 (by omega)
              · skip
                refine lv_if_ne (tgt := 132) hx hb dX12_readAtom_127 (by decide) (fun c58 => ?_) (fun c58 => ?_)
                · have b58 : ¬ v40.toInt = (0 : Int32).toInt := fun z9 => c58 (i_eq.mpr z9)
                  exact absurd b58 (by omega)
                · have b58 : v40.toInt = (0 : Int32).toInt := i_eq.mp c58
                  refine lv_iconst (v := 0) hx hb dX12_readAtom_130 (by decide) ?_
                  exact retE_z hQ C S40 hr dX12_readAtom_131 (z01 (by omega) (by omega)) (⟨⟨by omega, fun h9 => absurd h9 (by decide), fun h9 => absurd h9 (by decide), tk40⟩, RR.no (by rw [atm_s]; simp [clo, tkS, tlF, cmpF, y1, y19, y35, yt39, y40]) (by omega) wr40⟩)
            · have b38 : ¬ v35.toInt = (0 : Int32).toInt := fun z9 => c38 (i_eq.mpr z9)
              exact absurd b38 (by omega)
        · have b34 : ¬ v19.toInt = (0 : Int32).toInt := fun z9 => c34 (i_eq.mpr z9)
          exact absurd b34 (by omega)
    · have b17 : ¬ v1.toInt = (0 : Int32).toInt := fun z9 => c17 (i_eq.mpr z9)
      exact absurd b17 (by omega)

set_option maxRecDepth 100000 in
set_option maxHeartbeats 4000000 in
theorem c_X12_readAllOf_d2 (l : Launch) (D : DD) (G : Nat → Nat) (a0 : Nat) (T : Tx) (b : Nat) (ga0 : G a0 = 30) : CE l D G yX12_readAllOf cX12_readAllOf 1 (some .boolean) 20 [.ref a0] (fun H => ((fI D H 11 a0 13).toInt = 2 ∧ (fI D H 11 a0 16).toInt + 3 ≤ (fI D H 11 a0 10).toInt) ∧ (RB D H a0 T b)) [(30, 10), (30, 12), (30, 16), (31, 0), (30, 13)] (xI (fun H r H1 => ((0 ≤ r.toInt ∧ r.toInt ≤ 1) ∧ (r.toInt = 1 → (fI D H1 11 a0 16).toInt - (fI D H 11 a0 16).toInt ≤ (fI D H1 11 a0 10).toInt - (fI D H 11 a0 10).toInt ∧ (fI D H1 11 a0 13).toInt = (fI D H 11 a0 13).toInt ∧ (fI D H 11 a0 10).toInt ≤ (fI D H1 11 a0 10).toInt) ∧ (r.toInt = 1 → Ex (Cs D H1 a0) (fI D H 11 a0 16).toInt.toNat (fI D H1 11 a0 16).toInt.toNat) ∧ Lq D H H1 a0) ∧ (RR D H1 a0 T (allF T (atm T 4) b) r))) := by
  refine enter (by decide) (Nat.le_of_ble_eq_true rfl) ?_
  intro p e s m args below meth c ls Q hA hQ C hr hO hpre hl
  have hx := C.1
  have hb := C.2.1
  have S : Sd D G [(30, 10), (30, 12), (30, 16), (31, 0), (30, 13)] s.heap s.heap [] := Sd.start hO
  have hl : lv_has ls 1 [(0, .ref a0)] := hl
  have rs0 : 0 ≤ (fI D s.heap 11 a0 16).toInt ∧ (fI D s.heap 11 a0 16).toInt ≤ 400 := hO.rng ga0 rfl (by decide) rfl
  have rp0 : 0 ≤ (fI D s.heap 11 a0 10).toInt ∧ (fI D s.heap 11 a0 10).toInt ≤ 400 := hO.rng ga0 rfl (by decide) rfl
  obtain ⟨hpre, hf⟩ := hpre
  have ts0 := hf
  have hT : T.2 ≤ 400 := ts0.le hO ga0
  have tk0 : Lq D s.heap s.heap a0 := Lq.refl
  refine lv_aload_n hx hb dX12_readAllOf_0 rfl (lv_at hl 0 rfl) ?_
  refine callV_Ei C S (c_X12_readAtom_d2 l D G a0 T b ga0) kV_X12_205 ga0 (⟨hpre, ts0⟩) (by decide +kernel) dX12_readAllOf_1 hl.1 rfl rfl (by decide) cd_X12_readAtom ⟨Nat.le_of_ble_eq_true rfl, Nat.le_of_ble_eq_true rfl, Nat.le_of_ble_eq_true rfl, Nat.le_of_ble_eq_true rfl, Nat.le_of_ble_eq_true rfl⟩ (fun v1 H1 L1 S1 K1 q1 => ?_)
  obtain ⟨q1, fq1⟩ := q1
  obtain ⟨q1, sa1, sx1, tq1⟩ := q1
  have lq1 : Lq D s.heap H1 a0 := tq1
  have tk1 : Lq D s.heap H1 a0 := tk0.trans lq1
  rcases fq1 with ⟨c1, y1, z1, ts1⟩ | ⟨e1, y1, z1, wr1⟩
  · skip
    have k_0 : (0 : Int32).toInt = 0 := by decide
    refine lv_if_ne (tgt := 9) hx hb dX12_readAllOf_4 (by decide) (fun c2 => ?_) (fun c2 => ?_)
    · have b2 : ¬ v1.toInt = (0 : Int32).toInt := fun z9 => c2 (i_eq.mpr z9)
      have Lp9 : ∀ (n : Nat) (b_9 : Nat) (H_9 : Heap) (L_9 : List Loc) (ls : Array Slot), (Sd D G [(30, 10), (30, 12), (30, 16), (31, 0), (30, 13)] s.heap H_9 L_9) → (Ex (Cs D H_9 a0) (fI D s.heap 11 a0 16).toInt.toNat (fI D H_9 11 a0 16).toInt.toNat) → ((fI D H_9 11 a0 16).toInt - (fI D s.heap 11 a0 16).toInt ≤ (fI D H_9 11 a0 10).toInt - (fI D s.heap 11 a0 10).toInt ∧ (fI D H_9 11 a0 13).toInt = (fI D s.heap 11 a0 13).toInt ∧ (fI D s.heap 11 a0 10).toInt ≤ (fI D H_9 11 a0 10).toInt) → (RB D H_9 a0 T b_9) → (allF T (atm T 4) b = allT T (atm T 4) b_9) → (Lq D s.heap H_9 a0) → 401 - (fI D H_9 11 a0 10).toInt ≤ (n : Int) → lv_has ls 1 [(0, .ref a0)] → W p l e (rmU 20 0 0) s m args below meth c H_9 L_9 0 0 Q (F0 m 9 ls []) := by
        intro n
        induction n with
        | zero =>
          intro b_9 H_9 L_9 ls S_9 u9_0 u9_1 u9_2 u9_3 u9_4 hn hl
          have rz : 0 ≤ (fI D H_9 11 a0 10).toInt ∧ (fI D H_9 11 a0 10).toInt ≤ 400 := S_9.1.rng ga0 rfl (by decide) rfl
          exact absurd hn (by omega)
        | succ n ih9 =>
          intro b_9 H_9 L_9 ls S_9 u9_0 u9_1 u9_2 u9_3 u9_4 hn hl
          have rs9 : 0 ≤ (fI D H_9 11 a0 16).toInt ∧ (fI D H_9 11 a0 16).toInt ≤ 400 := S_9.1.rng ga0 rfl (by decide) rfl
          have rp9 : 0 ≤ (fI D H_9 11 a0 10).toInt ∧ (fI D H_9 11 a0 10).toInt ≤ 400 := S_9.1.rng ga0 rfl (by decide) rfl
          refine lv_aload_n hx hb dX12_readAllOf_9 rfl (lv_at hl 0 rfl) ?_
          refine q_lds C ks_X12_214 dX12_readAllOf_10 (fun a3 ha3 wa3 => ?_)
          refine callV_Ei C S_9 (c_X12_passes_f l D G a0 a3 3 w_and T b_9 ga0 ha3 (Wc.of wa3 kw_and) (by decide)) kV_X12_120 ga0 (⟨trivial, u9_2⟩) (by decide +kernel) dX12_readAllOf_12 hl.1 rfl rfl (by decide) cd_X12_passes ⟨Nat.le_of_ble_eq_true rfl, Nat.le_of_ble_eq_true rfl, Nat.le_of_ble_eq_true rfl, Nat.le_of_ble_eq_true rfl, Nat.le_of_ble_eq_true rfl⟩ (fun v4 H4 L4 S4 K4 q4 => ?_)
          obtain ⟨q4, fq4⟩ := q4
          have y4_13 : (fI D H4 11 a0 13).toInt = (fI D H_9 11 a0 13).toInt := congrArg Int32.toInt (K4.fI ga0 rfl (by decide) (by decide +kernel))
          have y4_16 : (fI D H4 11 a0 16).toInt = (fI D H_9 11 a0 16).toInt := congrArg Int32.toInt (K4.fI ga0 rfl (by decide) (by decide +kernel))
          have lq4 : Lq D H_9 H4 a0 := Lq.keep S_9.1 ga0 K4 (by decide +kernel) (by decide +kernel) (by decide +kernel)
          have tk4 : Lq D s.heap H4 a0 := u9_4.trans lq4
          rcases fq4 with ⟨z4, y4, ts4, wr4⟩ | ⟨z4, y4, ts4, wr4⟩
          · skip
            refine lv_if_eq (tgt := 37) hx hb dX12_readAllOf_15 (by decide) (fun c5 => ?_) (fun c5 => ?_)
            · have b5 : v4.toInt = (0 : Int32).toInt := i_eq.mp c5
              exact absurd b5 (by omega)
            · have b5 : ¬ v4.toInt = (0 : Int32).toInt := fun z9 => c5 (i_eq.mpr z9)
              refine lv_aload_n hx hb dX12_readAllOf_18 rfl (lv_at hl 0 rfl) ?_
              have rs9 : 0 ≤ (fI D H4 11 a0 16).toInt ∧ (fI D H4 11 a0 16).toInt ≤ 400 := S4.1.rng ga0 rfl (by decide) rfl
              have rp9 : 0 ≤ (fI D H4 11 a0 10).toInt ∧ (fI D H4 11 a0 10).toInt ≤ 400 := S4.1.rng ga0 rfl (by decide) rfl
              refine callV_Ei C S4 (c_X12_readAtom_d2 l D G a0 T (nx T b_9) ga0) kV_X12_205 ga0 (⟨⟨by omega, by omega⟩, ts4⟩) (by decide +kernel) dX12_readAllOf_19 hl.1 rfl rfl (by decide) cd_X12_readAtom ⟨Nat.le_of_ble_eq_true rfl, Nat.le_of_ble_eq_true rfl, Nat.le_of_ble_eq_true rfl, Nat.le_of_ble_eq_true rfl, Nat.le_of_ble_eq_true rfl⟩ (fun v6 H6 L6 S6 K6 q6 => ?_)
              obtain ⟨q6, fq6⟩ := q6
              obtain ⟨q6, sa6, sx6, tq6⟩ := q6
              have lq6 : Lq D H4 H6 a0 := tq6
              have tk6 : Lq D s.heap H6 a0 := tk4.trans lq6
              rcases fq6 with ⟨c6, y6, z6, ts6⟩ | ⟨e6, y6, z6, wr6⟩
              · skip
                refine lv_if_ne (tgt := 27) hx hb dX12_readAllOf_22 (by decide) (fun c7 => ?_) (fun c7 => ?_)
                · have b7 : ¬ v6.toInt = (0 : Int32).toInt := fun z9 => c7 (i_eq.mpr z9)
                  refine lv_aload_n hx hb dX12_readAllOf_27 rfl (lv_at hl 0 rfl) ?_
                  refine lv_bipush (v := 16) hx hb dX12_readAllOf_28 (by decide) ?_
                  refine lv_iconst (v := 0) hx hb dX12_readAllOf_30 (by decide) ?_
                  have rs9 : 0 ≤ (fI D H6 11 a0 16).toInt ∧ (fI D H6 11 a0 16).toInt ≤ 400 := S6.1.rng ga0 rfl (by decide) rfl
                  have rp9 : 0 ≤ (fI D H6 11 a0 10).toInt ∧ (fI D H6 11 a0 10).toInt ≤ 400 := S6.1.rng ga0 rfl (by decide) rfl
                  have k_16 : (16 : Int32).toInt = 16 := by decide
                  refine callV_Ev C S6 (c_X12_emits l D G a0 (16 : Int32) (0 : Int32) ga0) kV_X12_185 ga0 (by omega) (by decide +kernel) dX12_readAllOf_31 hl.1 rfl rfl (by decide) cd_X12_emits ⟨Nat.le_of_ble_eq_true rfl, Nat.le_of_ble_eq_true rfl, Nat.le_of_ble_eq_true rfl, Nat.le_of_ble_eq_true rfl, Nat.le_of_ble_eq_true rfl⟩ (fun H8 L8 S8 K8 q8 => ?_)
                  obtain ⟨qa8, qb8, tq8⟩ := q8
                  have y8_10 : (fI D H8 11 a0 10).toInt = (fI D H6 11 a0 10).toInt := congrArg Int32.toInt (K8.fI ga0 rfl (by decide) (by decide +kernel))
                  have y8_12 : (fI D H8 11 a0 12).toInt = (fI D H6 11 a0 12).toInt := congrArg Int32.toInt (K8.fI ga0 rfl (by decide) (by decide +kernel))
                  have y8_13 : (fI D H8 11 a0 13).toInt = (fI D H6 11 a0 13).toInt := congrArg Int32.toInt (K8.fI ga0 rfl (by decide) (by decide +kernel))
                  have lq8 : Lq D H6 H8 a0 := tq8
                  have tk8 : Lq D s.heap H8 a0 := tk6.trans lq8
                  have rb8 := ts6.keep S6.1 ga0 K8 (by decide +kernel)
                  refine lv_goto (tgt := 9) hx hb dX12_readAllOf_34 (by decide) ?_
                  have e9 : Ex (Cs D H8 a0) (fI D s.heap 11 a0 16).toInt.toNat (fI D H8 11 a0 16).toInt.toNat := (Ex.bin (((lq4.trans lq6).trans lq8).ex u9_0 (by omega)) ((lq8.ex (sx6 (by omega)) (by omega)).at (i' := (fI D H_9 11 a0 16).toInt.toNat) (by omega) rfl) (by rw [qb8]; decide) rfl).at (by omega) (by omega)
                  exact ih9 c6 H8 L8 ls S8 e9 (by omega) rb8 (u9_3.trans ((allT_t y4).trans (all_in (atm_on 4) hT y6))) tk8 (by omega) (lv_sub hl [0] rfl)
                · have b7 : v6.toInt = (0 : Int32).toInt := i_eq.mp c7
                  exact absurd b7 (by omega)
              · skip
                refine lv_if_ne (tgt := 27) hx hb dX12_readAllOf_22 (by decide) (fun c9 => ?_) (fun c9 => ?_)
                · have b9 : ¬ v6.toInt = (0 : Int32).toInt := fun z9 => c9 (i_eq.mpr z9)
                  exact absurd b9 (by omega)
                · have b9 : v6.toInt = (0 : Int32).toInt := i_eq.mp c9
                  refine lv_iconst (v := 0) hx hb dX12_readAllOf_25 (by decide) ?_
                  exact retE_z hQ C S6 hr dX12_readAllOf_26 (z01 (by omega) (by omega)) (⟨⟨by omega, fun h9 => absurd h9 (by decide), fun h9 => absurd h9 (by decide), tk6⟩, RR.no (u9_3.trans ((allT_t y4).trans (all_no (atm_on 4) hT y6))) (by omega) wr6⟩)
          · skip
            refine lv_if_eq (tgt := 37) hx hb dX12_readAllOf_15 (by decide) (fun c10 => ?_) (fun c10 => ?_)
            · have b10 : v4.toInt = (0 : Int32).toInt := i_eq.mp c10
              refine lv_iconst (v := 1) hx hb dX12_readAllOf_37 (by decide) ?_
              have k_1 : (1 : Int32).toInt = 1 := by decide
              exact retE_z hQ C S4 hr dX12_readAllOf_38 (z01 (by omega) (by omega)) (⟨⟨by omega, fun _ => by omega, fun _ => (lq4.ex u9_0 (by omega)).at (by omega) (by omega), tk4⟩, RR.ok (u9_3.trans (allT_f y4)) (by omega) ts4⟩)
            · have b10 : ¬ v4.toInt = (0 : Int32).toInt := fun z9 => c10 (i_eq.mpr z9)
              exact absurd b10 (by omega)
      have ex0 := sx1 (by omega)
      have rn : 0 ≤ (fI D H1 11 a0 10).toInt ∧ (fI D H1 11 a0 10).toInt ≤ 400 := S1.1.rng ga0 rfl (by decide) rfl
      exact Lp9 402 c1 H1 L1 ls S1 (ex0.at (by omega) rfl) (by omega) ts1 (all_in (atm_on 4) hT y1) tk1  (by omega) (lv_sub hl [0] rfl)
    · have b2 : v1.toInt = (0 : Int32).toInt := i_eq.mp c2
      exact absurd b2 (by omega)
  · skip
    have k_0 : (0 : Int32).toInt = 0 := by decide
    refine lv_if_ne (tgt := 9) hx hb dX12_readAllOf_4 (by decide) (fun c11 => ?_) (fun c11 => ?_)
    · have b11 : ¬ v1.toInt = (0 : Int32).toInt := fun z9 => c11 (i_eq.mpr z9)
      exact absurd b11 (by omega)
    · have b11 : v1.toInt = (0 : Int32).toInt := i_eq.mp c11
      refine lv_iconst (v := 0) hx hb dX12_readAllOf_7 (by decide) ?_
      exact retE_z hQ C S1 hr dX12_readAllOf_8 (z01 (by omega) (by omega)) (⟨⟨by omega, fun h9 => absurd h9 (by decide), fun h9 => absurd h9 (by decide), tk1⟩, RR.no (all_no (atm_on 4) hT y1) (by omega) wr1⟩)

set_option maxRecDepth 100000 in
set_option maxHeartbeats 4000000 in
theorem c_X12_readCond_d2 (l : Launch) (D : DD) (G : Nat → Nat) (a0 : Nat) (T : Tx) (b : Nat) (ga0 : G a0 = 30) : CE l D G yX12_readCond cX12_readCond 1 (some .boolean) 21 [.ref a0] (fun H => ((fI D H 11 a0 13).toInt = 2 ∧ (fI D H 11 a0 16).toInt + 3 ≤ (fI D H 11 a0 10).toInt) ∧ (RB D H a0 T b)) [(30, 10), (30, 12), (30, 16), (31, 0), (30, 13)] (xI (fun H r H1 => ((0 ≤ r.toInt ∧ r.toInt ≤ 1) ∧ (r.toInt = 1 → (fI D H1 11 a0 16).toInt - (fI D H 11 a0 16).toInt ≤ (fI D H1 11 a0 10).toInt - (fI D H 11 a0 10).toInt ∧ (fI D H1 11 a0 13).toInt = (fI D H 11 a0 13).toInt ∧ (fI D H 11 a0 10).toInt ≤ (fI D H1 11 a0 10).toInt) ∧ (r.toInt = 1 → Ex (Cs D H1 a0) (fI D H 11 a0 16).toInt.toNat (fI D H1 11 a0 16).toInt.toNat) ∧ Lq D H H1 a0) ∧ (RR D H1 a0 T (conF T (atm T 4) b) r))) := by
  refine enter (by decide) (Nat.le_of_ble_eq_true rfl) ?_
  intro p e s m args below meth c ls Q hA hQ C hr hO hpre hl
  have hx := C.1
  have hb := C.2.1
  have S : Sd D G [(30, 10), (30, 12), (30, 16), (31, 0), (30, 13)] s.heap s.heap [] := Sd.start hO
  have hl : lv_has ls 1 [(0, .ref a0)] := hl
  have rs0 : 0 ≤ (fI D s.heap 11 a0 16).toInt ∧ (fI D s.heap 11 a0 16).toInt ≤ 400 := hO.rng ga0 rfl (by decide) rfl
  have rp0 : 0 ≤ (fI D s.heap 11 a0 10).toInt ∧ (fI D s.heap 11 a0 10).toInt ≤ 400 := hO.rng ga0 rfl (by decide) rfl
  obtain ⟨hpre, hf⟩ := hpre
  have ts0 := hf
  have hT : T.2 ≤ 400 := ts0.le hO ga0
  have tk0 : Lq D s.heap s.heap a0 := Lq.refl
  refine lv_aload_n hx hb dX12_readCond_0 rfl (lv_at hl 0 rfl) ?_
  refine callV_Ei C S (c_X12_readAllOf_d2 l D G a0 T b ga0) kV_X12_216 ga0 (⟨hpre, ts0⟩) (by decide +kernel) dX12_readCond_1 hl.1 rfl rfl (by decide) cd_X12_readAllOf ⟨Nat.le_of_ble_eq_true rfl, Nat.le_of_ble_eq_true rfl, Nat.le_of_ble_eq_true rfl, Nat.le_of_ble_eq_true rfl, Nat.le_of_ble_eq_true rfl⟩ (fun v1 H1 L1 S1 K1 q1 => ?_)
  obtain ⟨q1, fq1⟩ := q1
  obtain ⟨q1, sa1, sx1, tq1⟩ := q1
  have lq1 : Lq D s.heap H1 a0 := tq1
  have tk1 : Lq D s.heap H1 a0 := tk0.trans lq1
  rcases fq1 with ⟨c1, y1, z1, ts1⟩ | ⟨e1, y1, z1, wr1⟩
  · skip
    have k_0 : (0 : Int32).toInt = 0 := by decide
    refine lv_if_ne (tgt := 9) hx hb dX12_readCond_4 (by decide) (fun c2 => ?_) (fun c2 => ?_)
    · have b2 : ¬ v1.toInt = (0 : Int32).toInt := fun z9 => c2 (i_eq.mpr z9)
      have Lp9 : ∀ (n : Nat) (b_9 : Nat) (H_9 : Heap) (L_9 : List Loc) (ls : Array Slot), (Sd D G [(30, 10), (30, 12), (30, 16), (31, 0), (30, 13)] s.heap H_9 L_9) → (Ex (Cs D H_9 a0) (fI D s.heap 11 a0 16).toInt.toNat (fI D H_9 11 a0 16).toInt.toNat) → ((fI D H_9 11 a0 16).toInt - (fI D s.heap 11 a0 16).toInt ≤ (fI D H_9 11 a0 10).toInt - (fI D s.heap 11 a0 10).toInt ∧ (fI D H_9 11 a0 13).toInt = (fI D s.heap 11 a0 13).toInt ∧ (fI D s.heap 11 a0 10).toInt ≤ (fI D H_9 11 a0 10).toInt) → (RB D H_9 a0 T b_9) → (conF T (atm T 4) b = conT T (atm T 4) b_9) → (Lq D s.heap H_9 a0) → 401 - (fI D H_9 11 a0 10).toInt ≤ (n : Int) → lv_has ls 1 [(0, .ref a0)] → W p l e (rmU 21 0 0) s m args below meth c H_9 L_9 0 0 Q (F0 m 9 ls []) := by
        intro n
        induction n with
        | zero =>
          intro b_9 H_9 L_9 ls S_9 u9_0 u9_1 u9_2 u9_3 u9_4 hn hl
          have rz : 0 ≤ (fI D H_9 11 a0 10).toInt ∧ (fI D H_9 11 a0 10).toInt ≤ 400 := S_9.1.rng ga0 rfl (by decide) rfl
          exact absurd hn (by omega)
        | succ n ih9 =>
          intro b_9 H_9 L_9 ls S_9 u9_0 u9_1 u9_2 u9_3 u9_4 hn hl
          have rs9 : 0 ≤ (fI D H_9 11 a0 16).toInt ∧ (fI D H_9 11 a0 16).toInt ≤ 400 := S_9.1.rng ga0 rfl (by decide) rfl
          have rp9 : 0 ≤ (fI D H_9 11 a0 10).toInt ∧ (fI D H_9 11 a0 10).toInt ≤ 400 := S_9.1.rng ga0 rfl (by decide) rfl
          refine lv_aload_n hx hb dX12_readCond_9 rfl (lv_at hl 0 rfl) ?_
          refine q_lds C ks_X12_219 dX12_readCond_10 (fun a3 ha3 wa3 => ?_)
          refine callV_Ei C S_9 (c_X12_passes_f l D G a0 a3 2 w_or T b_9 ga0 ha3 (Wc.of wa3 kw_or) (by decide)) kV_X12_120 ga0 (⟨trivial, u9_2⟩) (by decide +kernel) dX12_readCond_12 hl.1 rfl rfl (by decide) cd_X12_passes ⟨Nat.le_of_ble_eq_true rfl, Nat.le_of_ble_eq_true rfl, Nat.le_of_ble_eq_true rfl, Nat.le_of_ble_eq_true rfl, Nat.le_of_ble_eq_true rfl⟩ (fun v4 H4 L4 S4 K4 q4 => ?_)
          obtain ⟨q4, fq4⟩ := q4
          have y4_13 : (fI D H4 11 a0 13).toInt = (fI D H_9 11 a0 13).toInt := congrArg Int32.toInt (K4.fI ga0 rfl (by decide) (by decide +kernel))
          have y4_16 : (fI D H4 11 a0 16).toInt = (fI D H_9 11 a0 16).toInt := congrArg Int32.toInt (K4.fI ga0 rfl (by decide) (by decide +kernel))
          have lq4 : Lq D H_9 H4 a0 := Lq.keep S_9.1 ga0 K4 (by decide +kernel) (by decide +kernel) (by decide +kernel)
          have tk4 : Lq D s.heap H4 a0 := u9_4.trans lq4
          rcases fq4 with ⟨z4, y4, ts4, wr4⟩ | ⟨z4, y4, ts4, wr4⟩
          · skip
            refine lv_if_eq (tgt := 37) hx hb dX12_readCond_15 (by decide) (fun c5 => ?_) (fun c5 => ?_)
            · have b5 : v4.toInt = (0 : Int32).toInt := i_eq.mp c5
              exact absurd b5 (by omega)
            · have b5 : ¬ v4.toInt = (0 : Int32).toInt := fun z9 => c5 (i_eq.mpr z9)
              refine lv_aload_n hx hb dX12_readCond_18 rfl (lv_at hl 0 rfl) ?_
              have rs9 : 0 ≤ (fI D H4 11 a0 16).toInt ∧ (fI D H4 11 a0 16).toInt ≤ 400 := S4.1.rng ga0 rfl (by decide) rfl
              have rp9 : 0 ≤ (fI D H4 11 a0 10).toInt ∧ (fI D H4 11 a0 10).toInt ≤ 400 := S4.1.rng ga0 rfl (by decide) rfl
              refine callV_Ei C S4 (c_X12_readAllOf_d2 l D G a0 T (nx T b_9) ga0) kV_X12_216 ga0 (⟨⟨by omega, by omega⟩, ts4⟩) (by decide +kernel) dX12_readCond_19 hl.1 rfl rfl (by decide) cd_X12_readAllOf ⟨Nat.le_of_ble_eq_true rfl, Nat.le_of_ble_eq_true rfl, Nat.le_of_ble_eq_true rfl, Nat.le_of_ble_eq_true rfl, Nat.le_of_ble_eq_true rfl⟩ (fun v6 H6 L6 S6 K6 q6 => ?_)
              obtain ⟨q6, fq6⟩ := q6
              obtain ⟨q6, sa6, sx6, tq6⟩ := q6
              have lq6 : Lq D H4 H6 a0 := tq6
              have tk6 : Lq D s.heap H6 a0 := tk4.trans lq6
              rcases fq6 with ⟨c6, y6, z6, ts6⟩ | ⟨e6, y6, z6, wr6⟩
              · skip
                refine lv_if_ne (tgt := 27) hx hb dX12_readCond_22 (by decide) (fun c7 => ?_) (fun c7 => ?_)
                · have b7 : ¬ v6.toInt = (0 : Int32).toInt := fun z9 => c7 (i_eq.mpr z9)
                  refine lv_aload_n hx hb dX12_readCond_27 rfl (lv_at hl 0 rfl) ?_
                  refine lv_bipush (v := 17) hx hb dX12_readCond_28 (by decide) ?_
                  refine lv_iconst (v := 0) hx hb dX12_readCond_30 (by decide) ?_
                  have rs9 : 0 ≤ (fI D H6 11 a0 16).toInt ∧ (fI D H6 11 a0 16).toInt ≤ 400 := S6.1.rng ga0 rfl (by decide) rfl
                  have rp9 : 0 ≤ (fI D H6 11 a0 10).toInt ∧ (fI D H6 11 a0 10).toInt ≤ 400 := S6.1.rng ga0 rfl (by decide) rfl
                  have k_17 : (17 : Int32).toInt = 17 := by decide
                  refine callV_Ev C S6 (c_X12_emits l D G a0 (17 : Int32) (0 : Int32) ga0) kV_X12_185 ga0 (by omega) (by decide +kernel) dX12_readCond_31 hl.1 rfl rfl (by decide) cd_X12_emits ⟨Nat.le_of_ble_eq_true rfl, Nat.le_of_ble_eq_true rfl, Nat.le_of_ble_eq_true rfl, Nat.le_of_ble_eq_true rfl, Nat.le_of_ble_eq_true rfl⟩ (fun H8 L8 S8 K8 q8 => ?_)
                  obtain ⟨qa8, qb8, tq8⟩ := q8
                  have y8_10 : (fI D H8 11 a0 10).toInt = (fI D H6 11 a0 10).toInt := congrArg Int32.toInt (K8.fI ga0 rfl (by decide) (by decide +kernel))
                  have y8_12 : (fI D H8 11 a0 12).toInt = (fI D H6 11 a0 12).toInt := congrArg Int32.toInt (K8.fI ga0 rfl (by decide) (by decide +kernel))
                  have y8_13 : (fI D H8 11 a0 13).toInt = (fI D H6 11 a0 13).toInt := congrArg Int32.toInt (K8.fI ga0 rfl (by decide) (by decide +kernel))
                  have lq8 : Lq D H6 H8 a0 := tq8
                  have tk8 : Lq D s.heap H8 a0 := tk6.trans lq8
                  have rb8 := ts6.keep S6.1 ga0 K8 (by decide +kernel)
                  refine lv_goto (tgt := 9) hx hb dX12_readCond_34 (by decide) ?_
                  have e9 : Ex (Cs D H8 a0) (fI D s.heap 11 a0 16).toInt.toNat (fI D H8 11 a0 16).toInt.toNat := (Ex.bin (((lq4.trans lq6).trans lq8).ex u9_0 (by omega)) ((lq8.ex (sx6 (by omega)) (by omega)).at (i' := (fI D H_9 11 a0 16).toInt.toNat) (by omega) rfl) (by rw [qb8]; decide) rfl).at (by omega) (by omega)
                  exact ih9 c6 H8 L8 ls S8 e9 (by omega) rb8 (u9_3.trans ((conT_t y4).trans (con_in (atm_on 4) hT y6))) tk8 (by omega) (lv_sub hl [0] rfl)
                · have b7 : v6.toInt = (0 : Int32).toInt := i_eq.mp c7
                  exact absurd b7 (by omega)
              · skip
                refine lv_if_ne (tgt := 27) hx hb dX12_readCond_22 (by decide) (fun c9 => ?_) (fun c9 => ?_)
                · have b9 : ¬ v6.toInt = (0 : Int32).toInt := fun z9 => c9 (i_eq.mpr z9)
                  exact absurd b9 (by omega)
                · have b9 : v6.toInt = (0 : Int32).toInt := i_eq.mp c9
                  refine lv_iconst (v := 0) hx hb dX12_readCond_25 (by decide) ?_
                  exact retE_z hQ C S6 hr dX12_readCond_26 (z01 (by omega) (by omega)) (⟨⟨by omega, fun h9 => absurd h9 (by decide), fun h9 => absurd h9 (by decide), tk6⟩, RR.no (u9_3.trans ((conT_t y4).trans (con_no (atm_on 4) hT y6))) (by omega) wr6⟩)
          · skip
            refine lv_if_eq (tgt := 37) hx hb dX12_readCond_15 (by decide) (fun c10 => ?_) (fun c10 => ?_)
            · have b10 : v4.toInt = (0 : Int32).toInt := i_eq.mp c10
              refine lv_iconst (v := 1) hx hb dX12_readCond_37 (by decide) ?_
              have k_1 : (1 : Int32).toInt = 1 := by decide
              exact retE_z hQ C S4 hr dX12_readCond_38 (z01 (by omega) (by omega)) (⟨⟨by omega, fun _ => by omega, fun _ => (lq4.ex u9_0 (by omega)).at (by omega) (by omega), tk4⟩, RR.ok (u9_3.trans (conT_f y4)) (by omega) ts4⟩)
            · have b10 : ¬ v4.toInt = (0 : Int32).toInt := fun z9 => c10 (i_eq.mpr z9)
              exact absurd b10 (by omega)
      have ex0 := sx1 (by omega)
      have rn : 0 ≤ (fI D H1 11 a0 10).toInt ∧ (fI D H1 11 a0 10).toInt ≤ 400 := S1.1.rng ga0 rfl (by decide) rfl
      exact Lp9 402 c1 H1 L1 ls S1 (ex0.at (by omega) rfl) (by omega) ts1 (con_in (atm_on 4) hT y1) tk1  (by omega) (lv_sub hl [0] rfl)
    · have b2 : v1.toInt = (0 : Int32).toInt := i_eq.mp c2
      exact absurd b2 (by omega)
  · skip
    have k_0 : (0 : Int32).toInt = 0 := by decide
    refine lv_if_ne (tgt := 9) hx hb dX12_readCond_4 (by decide) (fun c11 => ?_) (fun c11 => ?_)
    · have b11 : ¬ v1.toInt = (0 : Int32).toInt := fun z9 => c11 (i_eq.mpr z9)
      exact absurd b11 (by omega)
    · have b11 : v1.toInt = (0 : Int32).toInt := i_eq.mp c11
      refine lv_iconst (v := 0) hx hb dX12_readCond_7 (by decide) ?_
      exact retE_z hQ C S1 hr dX12_readCond_8 (z01 (by omega) (by omega)) (⟨⟨by omega, fun h9 => absurd h9 (by decide), fun h9 => absurd h9 (by decide), tk1⟩, RR.no (con_no (atm_on 4) hT y1) (by omega) wr1⟩)

set_option maxRecDepth 100000 in
set_option maxHeartbeats 4000000 in
theorem c_X12_readAtom_d1 (l : Launch) (D : DD) (G : Nat → Nat) (a0 : Nat) (T : Tx) (b : Nat) (ga0 : G a0 = 30) : CE l D G yX12_readAtom cX12_readAtom 2 (some .boolean) 22 [.ref a0] (fun H => ((fI D H 11 a0 13).toInt = 1 ∧ (fI D H 11 a0 16).toInt + 3 ≤ (fI D H 11 a0 10).toInt) ∧ (RB D H a0 T b)) [(30, 10), (30, 12), (30, 16), (31, 0), (30, 13)] (xI (fun H r H1 => ((0 ≤ r.toInt ∧ r.toInt ≤ 1) ∧ (r.toInt = 1 → (fI D H1 11 a0 16).toInt - (fI D H 11 a0 16).toInt ≤ (fI D H1 11 a0 10).toInt - (fI D H 11 a0 10).toInt ∧ (fI D H1 11 a0 13).toInt = (fI D H 11 a0 13).toInt ∧ (fI D H 11 a0 10).toInt ≤ (fI D H1 11 a0 10).toInt) ∧ (r.toInt = 1 → Ex (Cs D H1 a0) (fI D H 11 a0 16).toInt.toNat (fI D H1 11 a0 16).toInt.toNat) ∧ Lq D H H1 a0) ∧ (RR D H1 a0 T (atm T 5 b) r))) := by
  refine enter (by decide) (Nat.le_of_ble_eq_true rfl) ?_
  intro p e s m args below meth c ls Q hA hQ C hr hO hpre hl
  have hx := C.1
  have hb := C.2.1
  have S : Sd D G [(30, 10), (30, 12), (30, 16), (31, 0), (30, 13)] s.heap s.heap [] := Sd.start hO
  have hl : lv_has ls 2 [(0, .ref a0)] := hl
  have rs0 : 0 ≤ (fI D s.heap 11 a0 16).toInt ∧ (fI D s.heap 11 a0 16).toInt ≤ 400 := hO.rng ga0 rfl (by decide) rfl
  have rp0 : 0 ≤ (fI D s.heap 11 a0 10).toInt ∧ (fI D s.heap 11 a0 10).toInt ≤ 400 := hO.rng ga0 rfl (by decide) rfl
  obtain ⟨hpre, hf⟩ := hpre
  have ts0 := hf
  have hT : T.2 ≤ 400 := ts0.le hO ga0
  have tk0 : Lq D s.heap s.heap a0 := Lq.refl
  refine lv_aload_n hx hb dX12_readAtom_0 rfl (lv_at hl 0 rfl) ?_
  refine lv_bipush (v := 40) hx hb dX12_readAtom_1 (by decide) ?_
  have k_40 : (40 : Int32).toInt = 40 := by decide
  refine callV_Ei C S (c_X12_sign_f l D G a0 (40 : Int32) 40 T b ga0 (by omega) (by decide)) kV_X12_193 ga0 (⟨trivial, ts0⟩) (by decide +kernel) dX12_readAtom_3 hl.1 rfl rfl (by decide) cd_X12_sign ⟨Nat.le_of_ble_eq_true rfl, Nat.le_of_ble_eq_true rfl, Nat.le_of_ble_eq_true rfl, Nat.le_of_ble_eq_true rfl, Nat.le_of_ble_eq_true rfl⟩ (fun v1 H1 L1 S1 K1 q1 => ?_)
  obtain ⟨q1, fq1⟩ := q1
  have y1_13 : (fI D H1 11 a0 13).toInt = (fI D s.heap 11 a0 13).toInt := congrArg Int32.toInt (K1.fI ga0 rfl (by decide) (by decide +kernel))
  have y1_16 : (fI D H1 11 a0 16).toInt = (fI D s.heap 11 a0 16).toInt := congrArg Int32.toInt (K1.fI ga0 rfl (by decide) (by decide +kernel))
  have lq1 : Lq D s.heap H1 a0 := Lq.keep S.1 ga0 K1 (by decide +kernel) (by decide +kernel) (by decide +kernel)
  have tk1 : Lq D s.heap H1 a0 := tk0.trans lq1
  rcases fq1 with ⟨z1, y1, ts1, wr1⟩ | ⟨z1, y1, ts1, wr1⟩
  · skip
    have k_0 : (0 : Int32).toInt = 0 := by decide
    refine lv_if_eq (tgt := 56) hx hb dX12_readAtom_6 (by decide) (fun c2 => ?_) (fun c2 => ?_)
    · have b2 : v1.toInt = (0 : Int32).toInt := i_eq.mp c2
      exact absurd b2 (by omega)
    · have b2 : ¬ v1.toInt = (0 : Int32).toInt := fun z9 => c2 (i_eq.mpr z9)
      have yn3 : isW T b w_not = false := isS_nW y1
      refine lv_aload_n hx hb dX12_readAtom_9 rfl (lv_at hl 0 rfl) ?_
      have dd : (fI D H1 11 a0 13).toInt = 1 := by omega
      refine q_gi (T := TX12) C S1.1 ga0 13 kF_X12_197 dX12_readAtom_10 rfl rfl (by decide) rfl (by decide) rfl ?_
      have r4 : 0 ≤ (fI D H1 11 a0 13).toInt ∧ (fI D H1 11 a0 13).toInt ≤ 6 := S1.1.rng ga0 rfl (by decide) rfl
      refine lv_bipush (v := 6) hx hb dX12_readAtom_13 (by decide) ?_
      have k_6 : (6 : Int32).toInt = 6 := by decide
      refine lv_icmp_ne (tgt := 20) hx hb dX12_readAtom_15 (by decide) (fun c5 => ?_) (fun c5 => ?_)
      · have b5 : ¬ (fI D H1 11 a0 13).toInt = (6 : Int32).toInt := fun z9 => c5 (i_eq.mpr z9)
        refine lv_aload_n hx hb dX12_readAtom_20 rfl (lv_at hl 0 rfl) ?_
        refine lv_dup hx hb dX12_readAtom_21 rfl ?_
        refine q_gi (T := TX12) C S1.1 ga0 13 kF_X12_197 dX12_readAtom_22 rfl rfl (by decide) rfl (by decide) rfl ?_
        refine lv_iconst (v := 1) hx hb dX12_readAtom_25 (by decide) ?_
        have k_1 : (1 : Int32).toInt = 1 := by decide
        refine lv_iadd hx hb dX12_readAtom_26 ?_
        refine lv_topi (fun v6 ev6 => ?_)
        have f7 : v6.toInt = (fI D H1 11 a0 13).toInt + (1 : Int32).toInt := by rw [ev6]; exact i_add (by omega) (by omega)
        refine q_put (T := TX12) C S1 ga0 13 kF_X12_197 dX12_readAtom_27 rfl rfl (by decide) (by decide) rfl rfl rfl rfl rfl (vok_i rfl (by omega) (by omega)) (by decide +kernel) (fun H8 L8 S8 P8 => ?_)
        have y8_10 : (fI D H8 11 a0 10).toInt = (fI D H1 11 a0 10).toInt := congrArg Int32.toInt (Pt.o P8 (by decide) (by decide))
        have y8_12 : (fI D H8 11 a0 12).toInt = (fI D H1 11 a0 12).toInt := congrArg Int32.toInt (Pt.o P8 (by decide) (by decide))
        have y8_13 : (fI D H8 11 a0 13).toInt = v6.toInt := congrArg Int32.toInt (Pt.i P8)
        have y8_16 : (fI D H8 11 a0 16).toInt = (fI D H1 11 a0 16).toInt := congrArg Int32.toInt (Pt.o P8 (by decide) (by decide))
        have lq8 : Lq D H1 H8 a0 := Lq.put S1.1 ga0 P8 (by decide) (by decide)
        have tk8 : Lq D s.heap H8 a0 := tk1.trans lq8
        have rb8 := ts1.put S1.1 ga0 P8 (by decide) (by decide) (by decide)
        have bg8 : (fI D H8 11 a0 12).toInt = ((b : Nat) : Int) := by rw [Pt.o P8 (by decide) (by decide)]; exact wr1
        refine lv_aload_n hx hb dX12_readAtom_30 rfl (lv_at hl 0 rfl) ?_
        have rs9 : 0 ≤ (fI D H8 11 a0 16).toInt ∧ (fI D H8 11 a0 16).toInt ≤ 400 := S8.1.rng ga0 rfl (by decide) rfl
        have rp9 : 0 ≤ (fI D H8 11 a0 10).toInt ∧ (fI D H8 11 a0 10).toInt ≤ 400 := S8.1.rng ga0 rfl (by decide) rfl
        refine callV_Ei C S8 (c_X12_readCond_d2 l D G a0 T (nx T b) ga0) kV_X12_200 ga0 (⟨⟨by omega, by omega⟩, rb8⟩) (by decide +kernel) dX12_readAtom_31 hl.1 rfl rfl (by decide) cd_X12_readCond ⟨Nat.le_of_ble_eq_true rfl, Nat.le_of_ble_eq_true rfl, Nat.le_of_ble_eq_true rfl, Nat.le_of_ble_eq_true rfl, Nat.le_of_ble_eq_true rfl⟩ (fun v9 H9 L9 S9 K9 q9 => ?_)
        obtain ⟨q9, fq9⟩ := q9
        obtain ⟨q9, sa9, sx9, tq9⟩ := q9
        have lq9 : Lq D H8 H9 a0 := tq9
        have tk9 : Lq D s.heap H9 a0 := tk8.trans lq9
        rcases fq9 with ⟨c9, y9, z9, ts9⟩ | ⟨e9, y9, z9, wr9⟩
        · skip
          refine lv_if_ne (tgt := 39) hx hb dX12_readAtom_34 (by decide) (fun c10 => ?_) (fun c10 => ?_)
          · have b10 : ¬ v9.toInt = (0 : Int32).toInt := fun z9 => c10 (i_eq.mpr z9)
            refine lv_aload_n hx hb dX12_readAtom_39 rfl (lv_at hl 0 rfl) ?_
            refine lv_dup hx hb dX12_readAtom_40 rfl ?_
            refine q_gi (T := TX12) C S9.1 ga0 13 kF_X12_197 dX12_readAtom_41 rfl rfl (by decide) rfl (by decide) rfl ?_
            have r11 : 0 ≤ (fI D H9 11 a0 13).toInt ∧ (fI D H9 11 a0 13).toInt ≤ 6 := S9.1.rng ga0 rfl (by decide) rfl
            refine lv_iconst (v := 1) hx hb dX12_readAtom_44 (by decide) ?_
            refine lv_isub hx hb dX12_readAtom_45 ?_
            refine lv_topi (fun v12 ev12 => ?_)
            have f13 : v12.toInt = (fI D H9 11 a0 13).toInt - (1 : Int32).toInt := by rw [ev12]; exact i_sub (by omega) (by omega)
            refine q_put (T := TX12) C S9 ga0 13 kF_X12_197 dX12_readAtom_46 rfl rfl (by decide) (by decide) rfl rfl rfl rfl rfl (vok_i rfl (by omega) (by omega)) (by decide +kernel) (fun H14 L14 S14 P14 => ?_)
            have y14_10 : (fI D H14 11 a0 10).toInt = (fI D H9 11 a0 10).toInt := congrArg Int32.toInt (Pt.o P14 (by decide) (by decide))
            have y14_12 : (fI D H14 11 a0 12).toInt = (fI D H9 11 a0 12).toInt := congrArg Int32.toInt (Pt.o P14 (by decide) (by decide))
            have y14_13 : (fI D H14 11 a0 13).toInt = v12.toInt := congrArg Int32.toInt (Pt.i P14)
            have y14_16 : (fI D H14 11 a0 16).toInt = (fI D H9 11 a0 16).toInt := congrArg Int32.toInt (Pt.o P14 (by decide) (by decide))
            have lq14 : Lq D H9 H14 a0 := Lq.put S9.1 ga0 P14 (by decide) (by decide)
            have tk14 : Lq D s.heap H14 a0 := tk9.trans lq14
            have rb14 := ts9.put S9.1 ga0 P14 (by decide) (by decide) (by decide)
            have rs9 : 0 ≤ (fI D H14 11 a0 16).toInt ∧ (fI D H14 11 a0 16).toInt ≤ 400 := S14.1.rng ga0 rfl (by decide) rfl
            have rp9 : 0 ≤ (fI D H14 11 a0 10).toInt ∧ (fI D H14 11 a0 10).toInt ≤ 400 := S14.1.rng ga0 rfl (by decide) rfl
            refine lv_aload_n hx hb dX12_readAtom_49 rfl (lv_at hl 0 rfl) ?_
            refine lv_bipush (v := 41) hx hb dX12_readAtom_50 (by decide) ?_
            have k_41 : (41 : Int32).toInt = 41 := by decide
            refine callV_Ei C S14 (c_X12_sign_f l D G a0 (41 : Int32) 41 T c9 ga0 (by omega) (by decide)) kV_X12_193 ga0 (⟨trivial, rb14⟩) (by decide +kernel) dX12_readAtom_52 hl.1 rfl rfl (by decide) cd_X12_sign ⟨Nat.le_of_ble_eq_true rfl, Nat.le_of_ble_eq_true rfl, Nat.le_of_ble_eq_true rfl, Nat.le_of_ble_eq_true rfl, Nat.le_of_ble_eq_true rfl⟩ (fun v15 H15 L15 S15 K15 q15 => ?_)
            obtain ⟨q15, fq15⟩ := q15
            have y15_13 : (fI D H15 11 a0 13).toInt = (fI D H14 11 a0 13).toInt := congrArg Int32.toInt (K15.fI ga0 rfl (by decide) (by decide +kernel))
            have y15_16 : (fI D H15 11 a0 16).toInt = (fI D H14 11 a0 16).toInt := congrArg Int32.toInt (K15.fI ga0 rfl (by decide) (by decide +kernel))
            have lq15 : Lq D H14 H15 a0 := Lq.keep S14.1 ga0 K15 (by decide +kernel) (by decide +kernel) (by decide +kernel)
            have tk15 : Lq D s.heap H15 a0 := tk14.trans lq15
            rcases fq15 with ⟨z15, y15, ts15, wr15⟩ | ⟨z15, y15, ts15, wr15⟩
            · skip
              exact retE_z hQ C S15 hr dX12_readAtom_55 (z01 (by omega) (by omega)) (⟨⟨by omega, fun _ => by omega, fun _ => ((lq14.trans lq15).ex (sx9 (by omega)) (by omega)).at (by omega) (by omega), tk15⟩, RR.ok (by rw [atm_s]; simp [clo, tkS, tlF, cmpF, y1, yn3, y9, y15]) (by omega) ts15⟩)
            · skip
              exact retE_z hQ C S15 hr dX12_readAtom_55 (z01 (by omega) (by omega)) (⟨⟨by omega, fun _ => by omega, fun _ => ((lq14.trans lq15).ex (sx9 (by omega)) (by omega)).at (by omega) (by omega), tk15⟩, RR.no (by rw [atm_s]; simp [clo, tkS, tlF, cmpF, y1, yn3, y9, y15]) (by omega) wr15⟩)
          · have b10 : v9.toInt = (0 : Int32).toInt := i_eq.mp c10
            exact absurd b10 (by omega)
        · skip
          refine lv_if_ne (tgt := 39) hx hb dX12_readAtom_34 (by decide) (fun c16 => ?_) (fun c16 => ?_)
          · have b16 : ¬ v9.toInt = (0 : Int32).toInt := fun z9 => c16 (i_eq.mpr z9)
            exact absurd b16 (by omega)
          · have b16 : v9.toInt = (0 : Int32).toInt := i_eq.mp c16
            refine lv_iconst (v := 0) hx hb dX12_readAtom_37 (by decide) ?_
            exact retE_z hQ C S9 hr dX12_readAtom_38 (z01 (by omega) (by omega)) (⟨⟨by omega, fun h9 => absurd h9 (by decide), fun h9 => absurd h9 (by decide), tk9⟩, RR.no (by rw [atm_s]; simp [clo, tkS, tlF, cmpF, y1, yn3, y9]) (by omega) wr9⟩)
      · have b5 : (fI D H1 11 a0 13).toInt = (6 : Int32).toInt := i_eq.mp c5
        exact absurd b5 (by omega)
  · skip
    have k_0 : (0 : Int32).toInt = 0 := by decide
    refine lv_if_eq (tgt := 56) hx hb dX12_readAtom_6 (by decide) (fun c17 => ?_) (fun c17 => ?_)
    · have b17 : v1.toInt = (0 : Int32).toInt := i_eq.mp c17
      refine lv_aload_n hx hb dX12_readAtom_56 rfl (lv_at hl 0 rfl) ?_
      refine q_lds C ks_X12_203 dX12_readAtom_57 (fun a18 ha18 wa18 => ?_)
      refine callV_Ei C S1 (c_X12_passes_f l D G a0 a18 3 w_not T b ga0 ha18 (Wc.of wa18 kw_not) (by decide)) kV_X12_120 ga0 (⟨trivial, ts1⟩) (by decide +kernel) dX12_readAtom_59 hl.1 rfl rfl (by decide) cd_X12_passes ⟨Nat.le_of_ble_eq_true rfl, Nat.le_of_ble_eq_true rfl, Nat.le_of_ble_eq_true rfl, Nat.le_of_ble_eq_true rfl, Nat.le_of_ble_eq_true rfl⟩ (fun v19 H19 L19 S19 K19 q19 => ?_)
      obtain ⟨q19, fq19⟩ := q19
      have y19_13 : (fI D H19 11 a0 13).toInt = (fI D H1 11 a0 13).toInt := congrArg Int32.toInt (K19.fI ga0 rfl (by decide) (by decide +kernel))
      have y19_16 : (fI D H19 11 a0 16).toInt = (fI D H1 11 a0 16).toInt := congrArg Int32.toInt (K19.fI ga0 rfl (by decide) (by decide +kernel))
      have lq19 : Lq D H1 H19 a0 := Lq.keep S1.1 ga0 K19 (by decide +kernel) (by decide +kernel) (by decide +kernel)
      have tk19 : Lq D s.heap H19 a0 := tk1.trans lq19
      rcases fq19 with ⟨z19, y19, ts19, wr19⟩ | ⟨z19, y19, ts19, wr19⟩
      · skip
        refine lv_if_eq (tgt := 114) hx hb dX12_readAtom_62 (by decide) (fun c20 => ?_) (fun c20 => ?_)
        · have b20 : v19.toInt = (0 : Int32).toInt := i_eq.mp c20
          exact absurd b20 (by omega)
        · have b20 : ¬ v19.toInt = (0 : Int32).toInt := fun z9 => c20 (i_eq.mpr z9)
          refine lv_aload_n hx hb dX12_readAtom_65 rfl (lv_at hl 0 rfl) ?_
          have dd : (fI D H19 11 a0 13).toInt = 1 := by omega
          refine q_gi (T := TX12) C S19.1 ga0 13 kF_X12_197 dX12_readAtom_66 rfl rfl (by decide) rfl (by decide) rfl ?_
          have r21 : 0 ≤ (fI D H19 11 a0 13).toInt ∧ (fI D H19 11 a0 13).toInt ≤ 6 := S19.1.rng ga0 rfl (by decide) rfl
          refine lv_bipush (v := 6) hx hb dX12_readAtom_69 (by decide) ?_
          have k_6 : (6 : Int32).toInt = 6 := by decide
          refine lv_icmp_ne (tgt := 76) hx hb dX12_readAtom_71 (by decide) (fun c22 => ?_) (fun c22 => ?_)
          · have b22 : ¬ (fI D H19 11 a0 13).toInt = (6 : Int32).toInt := fun z9 => c22 (i_eq.mpr z9)
            refine lv_aload_n hx hb dX12_readAtom_76 rfl (lv_at hl 0 rfl) ?_
            refine lv_dup hx hb dX12_readAtom_77 rfl ?_
            refine q_gi (T := TX12) C S19.1 ga0 13 kF_X12_197 dX12_readAtom_78 rfl rfl (by decide) rfl (by decide) rfl ?_
            refine lv_iconst (v := 1) hx hb dX12_readAtom_81 (by decide) ?_
            have k_1 : (1 : Int32).toInt = 1 := by decide
            refine lv_iadd hx hb dX12_readAtom_82 ?_
            refine lv_topi (fun v23 ev23 => ?_)
            have f24 : v23.toInt = (fI D H19 11 a0 13).toInt + (1 : Int32).toInt := by rw [ev23]; exact i_add (by omega) (by omega)
            refine q_put (T := TX12) C S19 ga0 13 kF_X12_197 dX12_readAtom_83 rfl rfl (by decide) (by decide) rfl rfl rfl rfl rfl (vok_i rfl (by omega) (by omega)) (by decide +kernel) (fun H25 L25 S25 P25 => ?_)
            have y25_10 : (fI D H25 11 a0 10).toInt = (fI D H19 11 a0 10).toInt := congrArg Int32.toInt (Pt.o P25 (by decide) (by decide))
            have y25_12 : (fI D H25 11 a0 12).toInt = (fI D H19 11 a0 12).toInt := congrArg Int32.toInt (Pt.o P25 (by decide) (by decide))
            have y25_13 : (fI D H25 11 a0 13).toInt = v23.toInt := congrArg Int32.toInt (Pt.i P25)
            have y25_16 : (fI D H25 11 a0 16).toInt = (fI D H19 11 a0 16).toInt := congrArg Int32.toInt (Pt.o P25 (by decide) (by decide))
            have lq25 : Lq D H19 H25 a0 := Lq.put S19.1 ga0 P25 (by decide) (by decide)
            have tk25 : Lq D s.heap H25 a0 := tk19.trans lq25
            have rb25 := ts19.put S19.1 ga0 P25 (by decide) (by decide) (by decide)
            have bg25 : (fI D H25 11 a0 12).toInt = ((b : Nat) : Int) := by rw [Pt.o P25 (by decide) (by decide)]; exact wr19
            refine lv_aload_n hx hb dX12_readAtom_86 rfl (lv_at hl 0 rfl) ?_
            have rs9 : 0 ≤ (fI D H25 11 a0 16).toInt ∧ (fI D H25 11 a0 16).toInt ≤ 400 := S25.1.rng ga0 rfl (by decide) rfl
            have rp9 : 0 ≤ (fI D H25 11 a0 10).toInt ∧ (fI D H25 11 a0 10).toInt ≤ 400 := S25.1.rng ga0 rfl (by decide) rfl
            refine callV_Ei C S25 (c_X12_readAtom_d2 l D G a0 T (nx T b) ga0) kV_X12_205 ga0 (⟨⟨by omega, by omega⟩, rb25⟩) (by decide +kernel) dX12_readAtom_87 hl.1 rfl rfl (by decide) cd_X12_readAtom ⟨Nat.le_of_ble_eq_true rfl, Nat.le_of_ble_eq_true rfl, Nat.le_of_ble_eq_true rfl, Nat.le_of_ble_eq_true rfl, Nat.le_of_ble_eq_true rfl⟩ (fun v26 H26 L26 S26 K26 q26 => ?_)
            obtain ⟨q26, fq26⟩ := q26
            obtain ⟨q26, sa26, sx26, tq26⟩ := q26
            have lq26 : Lq D H25 H26 a0 := tq26
            have tk26 : Lq D s.heap H26 a0 := tk25.trans lq26
            rcases fq26 with ⟨c26, y26, z26, ts26⟩ | ⟨e26, y26, z26, wr26⟩
            · skip
              refine lv_if_ne (tgt := 95) hx hb dX12_readAtom_90 (by decide) (fun c27 => ?_) (fun c27 => ?_)
              · have b27 : ¬ v26.toInt = (0 : Int32).toInt := fun z9 => c27 (i_eq.mpr z9)
                refine lv_aload_n hx hb dX12_readAtom_95 rfl (lv_at hl 0 rfl) ?_
                refine lv_dup hx hb dX12_readAtom_96 rfl ?_
                refine q_gi (T := TX12) C S26.1 ga0 13 kF_X12_197 dX12_readAtom_97 rfl rfl (by decide) rfl (by decide) rfl ?_
                have r28 : 0 ≤ (fI D H26 11 a0 13).toInt ∧ (fI D H26 11 a0 13).toInt ≤ 6 := S26.1.rng ga0 rfl (by decide) rfl
                refine lv_iconst (v := 1) hx hb dX12_readAtom_100 (by decide) ?_
                refine lv_isub hx hb dX12_readAtom_101 ?_
                refine lv_topi (fun v29 ev29 => ?_)
                have f30 : v29.toInt = (fI D H26 11 a0 13).toInt - (1 : Int32).toInt := by rw [ev29]; exact i_sub (by omega) (by omega)
                refine q_put (T := TX12) C S26 ga0 13 kF_X12_197 dX12_readAtom_102 rfl rfl (by decide) (by decide) rfl rfl rfl rfl rfl (vok_i rfl (by omega) (by omega)) (by decide +kernel) (fun H31 L31 S31 P31 => ?_)
                have y31_10 : (fI D H31 11 a0 10).toInt = (fI D H26 11 a0 10).toInt := congrArg Int32.toInt (Pt.o P31 (by decide) (by decide))
                have y31_12 : (fI D H31 11 a0 12).toInt = (fI D H26 11 a0 12).toInt := congrArg Int32.toInt (Pt.o P31 (by decide) (by decide))
                have y31_13 : (fI D H31 11 a0 13).toInt = v29.toInt := congrArg Int32.toInt (Pt.i P31)
                have y31_16 : (fI D H31 11 a0 16).toInt = (fI D H26 11 a0 16).toInt := congrArg Int32.toInt (Pt.o P31 (by decide) (by decide))
                have lq31 : Lq D H26 H31 a0 := Lq.put S26.1 ga0 P31 (by decide) (by decide)
                have tk31 : Lq D s.heap H31 a0 := tk26.trans lq31
                have rb31 := ts26.put S26.1 ga0 P31 (by decide) (by decide) (by decide)
                refine lv_aload_n hx hb dX12_readAtom_105 rfl (lv_at hl 0 rfl) ?_
                refine lv_bipush (v := 15) hx hb dX12_readAtom_106 (by decide) ?_
                refine lv_iconst (v := 0) hx hb dX12_readAtom_108 (by decide) ?_
                have rs9 : 0 ≤ (fI D H31 11 a0 16).toInt ∧ (fI D H31 11 a0 16).toInt ≤ 400 := S31.1.rng ga0 rfl (by decide) rfl
                have rp9 : 0 ≤ (fI D H31 11 a0 10).toInt ∧ (fI D H31 11 a0 10).toInt ≤ 400 := S31.1.rng ga0 rfl (by decide) rfl
                have k_15 : (15 : Int32).toInt = 15 := by decide
                refine callV_Ev C S31 (c_X12_emits l D G a0 (15 : Int32) (0 : Int32) ga0) kV_X12_185 ga0 (by omega) (by decide +kernel) dX12_readAtom_109 hl.1 rfl rfl (by decide) cd_X12_emits ⟨Nat.le_of_ble_eq_true rfl, Nat.le_of_ble_eq_true rfl, Nat.le_of_ble_eq_true rfl, Nat.le_of_ble_eq_true rfl, Nat.le_of_ble_eq_true rfl⟩ (fun H32 L32 S32 K32 q32 => ?_)
                obtain ⟨qa32, qb32, tq32⟩ := q32
                have y32_10 : (fI D H32 11 a0 10).toInt = (fI D H31 11 a0 10).toInt := congrArg Int32.toInt (K32.fI ga0 rfl (by decide) (by decide +kernel))
                have y32_12 : (fI D H32 11 a0 12).toInt = (fI D H31 11 a0 12).toInt := congrArg Int32.toInt (K32.fI ga0 rfl (by decide) (by decide +kernel))
                have y32_13 : (fI D H32 11 a0 13).toInt = (fI D H31 11 a0 13).toInt := congrArg Int32.toInt (K32.fI ga0 rfl (by decide) (by decide +kernel))
                have lq32 : Lq D H31 H32 a0 := tq32
                have tk32 : Lq D s.heap H32 a0 := tk31.trans lq32
                have rb32 := rb31.keep S31.1 ga0 K32 (by decide +kernel)
                refine lv_iconst (v := 1) hx hb dX12_readAtom_112 (by decide) ?_
                exact retE_z hQ C S32 hr dX12_readAtom_113 (z01 (by omega) (by omega)) (⟨⟨by omega, fun _ => by omega, fun _ => (Ex.un (((lq31.trans lq32).ex (sx26 (by omega)) (by omega)).at (j' := (fI D H31 11 a0 16).toInt.toNat) rfl (by omega)) (by rw [qb32]; decide) rfl).at (by omega) (by omega), tk32⟩, RR.ok (by rw [atm_s]; simp [clo, tkS, tlF, cmpF, y1, y19, y26]) (by omega) rb32⟩)
              · have b27 : v26.toInt = (0 : Int32).toInt := i_eq.mp c27
                exact absurd b27 (by omega)
            · skip
              refine lv_if_ne (tgt := 95) hx hb dX12_readAtom_90 (by decide) (fun c33 => ?_) (fun c33 => ?_)
              · have b33 : ¬ v26.toInt = (0 : Int32).toInt := fun z9 => c33 (i_eq.mpr z9)
                exact absurd b33 (by omega)
              · have b33 : v26.toInt = (0 : Int32).toInt := i_eq.mp c33
                refine lv_iconst (v := 0) hx hb dX12_readAtom_93 (by decide) ?_
                exact retE_z hQ C S26 hr dX12_readAtom_94 (z01 (by omega) (by omega)) (⟨⟨by omega, fun h9 => absurd h9 (by decide), fun h9 => absurd h9 (by decide), tk26⟩, RR.no (by rw [atm_s]; simp [clo, tkS, tlF, cmpF, y1, y19, y26]) (by omega) wr26⟩)
          · have b22 : (fI D H19 11 a0 13).toInt = (6 : Int32).toInt := i_eq.mp c22
            exact absurd b22 (by omega)
      · skip
        refine lv_if_eq (tgt := 114) hx hb dX12_readAtom_62 (by decide) (fun c34 => ?_) (fun c34 => ?_)
        · have b34 : v19.toInt = (0 : Int32).toInt := i_eq.mp c34
          refine lv_aload_n hx hb dX12_readAtom_114 rfl (lv_at hl 0 rfl) ?_
          have rs9 : 0 ≤ (fI D H19 11 a0 16).toInt ∧ (fI D H19 11 a0 16).toInt ≤ 400 := S19.1.rng ga0 rfl (by decide) rfl
          have rp9 : 0 ≤ (fI D H19 11 a0 10).toInt ∧ (fI D H19 11 a0 10).toInt ≤ 400 := S19.1.rng ga0 rfl (by decide) rfl
          refine callV_Ei C S19 (c_X12_readTag l D G a0 T b ga0) kV_X12_208 ga0 (⟨by omega, ts19⟩) (by decide +kernel) dX12_readAtom_115 hl.1 rfl rfl (by decide) cd_X12_readTag ⟨Nat.le_of_ble_eq_true rfl, Nat.le_of_ble_eq_true rfl, Nat.le_of_ble_eq_true rfl, Nat.le_of_ble_eq_true rfl, Nat.le_of_ble_eq_true rfl⟩ (fun v35 H35 L35 S35 K35 q35 => ?_)
          obtain ⟨q35, fq35⟩ := q35
          obtain ⟨q35, sa35, sx35, tq35, sf35⟩ := q35
          have y35_13 : (fI D H35 11 a0 13).toInt = (fI D H19 11 a0 13).toInt := congrArg Int32.toInt (K35.fI ga0 rfl (by decide) (by decide +kernel))
          have lq35 : Lq D H19 H35 a0 := tq35
          have tk35 : Lq D s.heap H35 a0 := tk19.trans lq35
          rcases fq35 with ⟨z35, y35, ts35, wr35⟩ | ⟨z35, y35, ts35, wr35⟩
          · skip
            refine lv_if_eq (tgt := 123) hx hb dX12_readAtom_118 (by decide) (fun c36 => ?_) (fun c36 => ?_)
            · have b36 : v35.toInt = (0 : Int32).toInt := i_eq.mp c36
              exact absurd b36 (by omega)
            · have b36 : ¬ v35.toInt = (0 : Int32).toInt := fun z9 => c36 (i_eq.mpr z9)
              have yt37 : ¬ tru T b = -1 := tag_t y35
              refine lv_iconst (v := 1) hx hb dX12_readAtom_121 (by decide) ?_
              have k_1 : (1 : Int32).toInt = 1 := by decide
              exact retE_z hQ C S35 hr dX12_readAtom_122 (z01 (by omega) (by omega)) (⟨⟨by omega, fun _ => by omega, fun _ => (sx35 (by omega)).at (by omega) rfl, tk35⟩, RR.ok (by rw [atm_s]; simp [clo, tkS, tlF, cmpF, y1, y19, y35, yt37]) (by omega) ts35⟩)
          · skip
            refine lv_if_eq (tgt := 123) hx hb dX12_readAtom_118 (by decide) (fun c38 => ?_) (fun c38 => ?_)
            · have b38 : v35.toInt = (0 : Int32).toInt := i_eq.mp c38
              have yt39 : tru T b = -1 := tag_f y35
              refine lv_aload_n hx hb dX12_readAtom_123 rfl (lv_at hl 0 rfl) ?_
              have rs9 : 0 ≤ (fI D H35 11 a0 16).toInt ∧ (fI D H35 11 a0 16).toInt ≤ 400 := S35.1.rng ga0 rfl (by decide) rfl
              have rp9 : 0 ≤ (fI D H35 11 a0 10).toInt ∧ (fI D H35 11 a0 10).toInt ≤ 400 := S35.1.rng ga0 rfl (by decide) rfl
              refine callV_Ei C S35 (c_X12_readSum l D G a0 T b ga0) kV_X12_211 ga0 (⟨by omega, ts35⟩) (by decide +kernel) dX12_readAtom_124 hl.1 rfl rfl (by decide) cd_X12_readSum ⟨Nat.le_of_ble_eq_true rfl, Nat.le_of_ble_eq_true rfl, Nat.le_of_ble_eq_true rfl, Nat.le_of_ble_eq_true rfl, Nat.le_of_ble_eq_true rfl⟩ (fun v40 H40 L40 S40 K40 q40 => ?_)
              obtain ⟨q40, fq40⟩ := q40
              obtain ⟨q40, sa40, sx40, tq40⟩ := q40
              have y40_13 : (fI D H40 11 a0 13).toInt = (fI D H35 11 a0 13).toInt := congrArg Int32.toInt (K40.fI ga0 rfl (by decide) (by decide +kernel))
              have lq40 : Lq D H35 H40 a0 := tq40
              have tk40 : Lq D s.heap H40 a0 := tk35.trans lq40
              rcases fq40 with ⟨c40, y40, z40, ts40⟩ | ⟨e40, y40, z40, wr40⟩
              · skip
                refine lv_if_ne (tgt := 132) hx hb dX12_readAtom_127 (by decide) (fun c41 => ?_) (fun c41 => ?_)
                · have b41 : ¬ v40.toInt = (0 : Int32).toInt := fun z9 => c41 (i_eq.mpr z9)
                  refine lv_aload_n hx hb dX12_readAtom_132 rfl (lv_at hl 0 rfl) ?_
                  refine lv_bipush (v := 60) hx hb dX12_readAtom_133 (by decide) ?_
                  have k_60 : (60 : Int32).toInt = 60 := by decide
                  refine callV_Ei C S40 (c_X12_sign_f l D G a0 (60 : Int32) 60 T c40 ga0 (by omega) (by decide)) kV_X12_193 ga0 (⟨trivial, ts40⟩) (by decide +kernel) dX12_readAtom_135 hl.1 rfl rfl (by decide) cd_X12_sign ⟨Nat.le_of_ble_eq_true rfl, Nat.le_of_ble_eq_true rfl, Nat.le_of_ble_eq_true rfl, Nat.le_of_ble_eq_true rfl, Nat.le_of_ble_eq_true rfl⟩ (fun v42 H42 L42 S42 K42 q42 => ?_)
                  obtain ⟨q42, fq42⟩ := q42
                  have y42_13 : (fI D H42 11 a0 13).toInt = (fI D H40 11 a0 13).toInt := congrArg Int32.toInt (K42.fI ga0 rfl (by decide) (by decide +kernel))
                  have y42_16 : (fI D H42 11 a0 16).toInt = (fI D H40 11 a0 16).toInt := congrArg Int32.toInt (K42.fI ga0 rfl (by decide) (by decide +kernel))
                  have lq42 : Lq D H40 H42 a0 := Lq.keep S40.1 ga0 K42 (by decide +kernel) (by decide +kernel) (by decide +kernel)
                  have tk42 : Lq D s.heap H42 a0 := tk40.trans lq42
                  rcases fq42 with ⟨z42, y42, ts42, wr42⟩ | ⟨z42, y42, ts42, wr42⟩
                  · skip
                    refine lv_istore_n (lv' := [(1, .int v42), (0, .ref a0)]) hx hb dX12_readAtom_138 rfl hl (by decide) rfl (fun ls hl => ?_)
                    refine lv_iload_n hx hb dX12_readAtom_139 rfl (lv_at hl 0 rfl) ?_
                    refine lv_if_ne (tgt := 152) hx hb dX12_readAtom_140 (by decide) (fun c43 => ?_) (fun c43 => ?_)
                    · have b43 : ¬ v42.toInt = (0 : Int32).toInt := fun z9 => c43 (i_eq.mpr z9)
                      refine lv_aload_n hx hb dX12_readAtom_152 rfl (lv_at hl 1 rfl) ?_
                      have rs9 : 0 ≤ (fI D H42 11 a0 16).toInt ∧ (fI D H42 11 a0 16).toInt ≤ 400 := S42.1.rng ga0 rfl (by decide) rfl
                      have rp9 : 0 ≤ (fI D H42 11 a0 10).toInt ∧ (fI D H42 11 a0 10).toInt ≤ 400 := S42.1.rng ga0 rfl (by decide) rfl
                      refine callV_Ei C S42 (c_X12_readSum l D G a0 T (nx T c40) ga0) kV_X12_211 ga0 (⟨by omega, ts42⟩) (by decide +kernel) dX12_readAtom_153 hl.1 rfl rfl (by decide) cd_X12_readSum ⟨Nat.le_of_ble_eq_true rfl, Nat.le_of_ble_eq_true rfl, Nat.le_of_ble_eq_true rfl, Nat.le_of_ble_eq_true rfl, Nat.le_of_ble_eq_true rfl⟩ (fun v44 H44 L44 S44 K44 q44 => ?_)
                      obtain ⟨q44, fq44⟩ := q44
                      obtain ⟨q44, sa44, sx44, tq44⟩ := q44
                      have y44_13 : (fI D H44 11 a0 13).toInt = (fI D H42 11 a0 13).toInt := congrArg Int32.toInt (K44.fI ga0 rfl (by decide) (by decide +kernel))
                      have lq44 : Lq D H42 H44 a0 := tq44
                      have tk44 : Lq D s.heap H44 a0 := tk42.trans lq44
                      rcases fq44 with ⟨c44, y44, z44, ts44⟩ | ⟨e44, y44, z44, wr44⟩
                      · skip
                        refine lv_if_ne (tgt := 161) hx hb dX12_readAtom_156 (by decide) (fun c45 => ?_) (fun c45 => ?_)
                        · have b45 : ¬ v44.toInt = (0 : Int32).toInt := fun z9 => c45 (i_eq.mpr z9)
                          refine lv_aload_n hx hb dX12_readAtom_161 rfl (lv_at hl 1 rfl) ?_
                          refine lv_iload_n hx hb dX12_readAtom_162 rfl (lv_at hl 0 rfl) ?_
                          refine lv_if_eq (tgt := 171) hx hb dX12_readAtom_163 (by decide) (fun c46 => ?_) (fun c46 => ?_)
                          · have b46 : v42.toInt = (0 : Int32).toInt := i_eq.mp c46
                            exact absurd b46 (by omega)
                          · have b46 : ¬ v42.toInt = (0 : Int32).toInt := fun z9 => c46 (i_eq.mpr z9)
                            refine lv_bipush (v := 13) hx hb dX12_readAtom_166 (by decide) ?_
                            refine lv_goto (tgt := 173) hx hb dX12_readAtom_168 (by decide) ?_
                            refine lv_iconst (v := 0) hx hb dX12_readAtom_173 (by decide) ?_
                            have rs9 : 0 ≤ (fI D H44 11 a0 16).toInt ∧ (fI D H44 11 a0 16).toInt ≤ 400 := S44.1.rng ga0 rfl (by decide) rfl
                            have rp9 : 0 ≤ (fI D H44 11 a0 10).toInt ∧ (fI D H44 11 a0 10).toInt ≤ 400 := S44.1.rng ga0 rfl (by decide) rfl
                            have k_13 : (13 : Int32).toInt = 13 := by decide
                            refine callV_Ev C S44 (c_X12_emits l D G a0 (13 : Int32) (0 : Int32) ga0) kV_X12_185 ga0 (by omega) (by decide +kernel) dX12_readAtom_174 hl.1 rfl rfl (by decide) cd_X12_emits ⟨Nat.le_of_ble_eq_true rfl, Nat.le_of_ble_eq_true rfl, Nat.le_of_ble_eq_true rfl, Nat.le_of_ble_eq_true rfl, Nat.le_of_ble_eq_true rfl⟩ (fun H47 L47 S47 K47 q47 => ?_)
                            obtain ⟨qa47, qb47, tq47⟩ := q47
                            have y47_10 : (fI D H47 11 a0 10).toInt = (fI D H44 11 a0 10).toInt := congrArg Int32.toInt (K47.fI ga0 rfl (by decide) (by decide +kernel))
                            have y47_12 : (fI D H47 11 a0 12).toInt = (fI D H44 11 a0 12).toInt := congrArg Int32.toInt (K47.fI ga0 rfl (by decide) (by decide +kernel))
                            have y47_13 : (fI D H47 11 a0 13).toInt = (fI D H44 11 a0 13).toInt := congrArg Int32.toInt (K47.fI ga0 rfl (by decide) (by decide +kernel))
                            have lq47 : Lq D H44 H47 a0 := tq47
                            have tk47 : Lq D s.heap H47 a0 := tk44.trans lq47
                            have rb47 := ts44.keep S44.1 ga0 K47 (by decide +kernel)
                            refine lv_iconst (v := 1) hx hb dX12_readAtom_177 (by decide) ?_
                            have k_1 : (1 : Int32).toInt = 1 := by decide
                            exact retE_z hQ C S47 hr dX12_readAtom_178 (z01 (by omega) (by omega)) (⟨⟨by omega, fun _ => by omega, fun _ => (Ex.bin (((lq42.trans lq44).trans lq47).ex (sx40 (by omega)) (by omega)) ((lq47.ex (sx44 (by omega)) (by omega)).at (i' := (fI D H40 11 a0 16).toInt.toNat) (by omega) rfl) (by rw [qb47]; decide) rfl).at (by omega) (by omega), tk47⟩, RR.ok (by rw [atm_s]; simp [clo, tkS, tlF, cmpF, y1, y19, y35, yt39, y40, y42, y44]) (by omega) rb47⟩)
                        · have b45 : v44.toInt = (0 : Int32).toInt := i_eq.mp c45
                          exact absurd b45 (by omega)
                      · skip
                        refine lv_if_ne (tgt := 161) hx hb dX12_readAtom_156 (by decide) (fun c48 => ?_) (fun c48 => ?_)
                        · have b48 : ¬ v44.toInt = (0 : Int32).toInt := fun z9 => c48 (i_eq.mpr z9)
                          exact absurd b48 (by omega)
                        · have b48 : v44.toInt = (0 : Int32).toInt := i_eq.mp c48
                          refine lv_iconst (v := 0) hx hb dX12_readAtom_159 (by decide) ?_
                          exact retE_z hQ C S44 hr dX12_readAtom_160 (z01 (by omega) (by omega)) (⟨⟨by omega, fun h9 => absurd h9 (by decide), fun h9 => absurd h9 (by decide), tk44⟩, RR.no (by rw [atm_s]; simp [clo, tkS, tlF, cmpF, y1, y19, y35, yt39, y40, y42, y44]) (by omega) wr44⟩)
                    · have b43 : v42.toInt = (0 : Int32).toInt := i_eq.mp c43
                      exact absurd b43 (by omega)
                  · skip
                    refine lv_istore_n (lv' := [(1, .int v42), (0, .ref a0)]) hx hb dX12_readAtom_138 rfl hl (by decide) rfl (fun ls hl => ?_)
                    refine lv_iload_n hx hb dX12_readAtom_139 rfl (lv_at hl 0 rfl) ?_
                    refine lv_if_ne (tgt := 152) hx hb dX12_readAtom_140 (by decide) (fun c49 => ?_) (fun c49 => ?_)
                    · have b49 : ¬ v42.toInt = (0 : Int32).toInt := fun z9 => c49 (i_eq.mpr z9)
                      exact absurd b49 (by omega)
                    · have b49 : v42.toInt = (0 : Int32).toInt := i_eq.mp c49
                      refine lv_aload_n hx hb dX12_readAtom_143 rfl (lv_at hl 1 rfl) ?_
                      refine lv_bipush (v := 62) hx hb dX12_readAtom_144 (by decide) ?_
                      have k_62 : (62 : Int32).toInt = 62 := by decide
                      refine callV_Ei C S42 (c_X12_sign_f l D G a0 (62 : Int32) 62 T c40 ga0 (by omega) (by decide)) kV_X12_193 ga0 (⟨trivial, ts42⟩) (by decide +kernel) dX12_readAtom_146 hl.1 rfl rfl (by decide) cd_X12_sign ⟨Nat.le_of_ble_eq_true rfl, Nat.le_of_ble_eq_true rfl, Nat.le_of_ble_eq_true rfl, Nat.le_of_ble_eq_true rfl, Nat.le_of_ble_eq_true rfl⟩ (fun v50 H50 L50 S50 K50 q50 => ?_)
                      obtain ⟨q50, fq50⟩ := q50
                      have y50_13 : (fI D H50 11 a0 13).toInt = (fI D H42 11 a0 13).toInt := congrArg Int32.toInt (K50.fI ga0 rfl (by decide) (by decide +kernel))
                      have y50_16 : (fI D H50 11 a0 16).toInt = (fI D H42 11 a0 16).toInt := congrArg Int32.toInt (K50.fI ga0 rfl (by decide) (by decide +kernel))
                      have lq50 : Lq D H42 H50 a0 := Lq.keep S42.1 ga0 K50 (by decide +kernel) (by decide +kernel) (by decide +kernel)
                      have tk50 : Lq D s.heap H50 a0 := tk42.trans lq50
                      rcases fq50 with ⟨z50, y50, ts50, wr50⟩ | ⟨z50, y50, ts50, wr50⟩
                      · skip
                        refine lv_if_eq (tgt := 159) hx hb dX12_readAtom_149 (by decide) (fun c51 => ?_) (fun c51 => ?_)
                        · have b51 : v50.toInt = (0 : Int32).toInt := i_eq.mp c51
                          exact absurd b51 (by omega)
                        · have b51 : ¬ v50.toInt = (0 : Int32).toInt := fun z9 => c51 (i_eq.mpr z9)
                          refine lv_aload_n hx hb dX12_readAtom_152 rfl (lv_at hl 1 rfl) ?_
                          have rs9 : 0 ≤ (fI D H50 11 a0 16).toInt ∧ (fI D H50 11 a0 16).toInt ≤ 400 := S50.1.rng ga0 rfl (by decide) rfl
                          have rp9 : 0 ≤ (fI D H50 11 a0 10).toInt ∧ (fI D H50 11 a0 10).toInt ≤ 400 := S50.1.rng ga0 rfl (by decide) rfl
                          refine callV_Ei C S50 (c_X12_readSum l D G a0 T (nx T c40) ga0) kV_X12_211 ga0 (⟨by omega, ts50⟩) (by decide +kernel) dX12_readAtom_153 hl.1 rfl rfl (by decide) cd_X12_readSum ⟨Nat.le_of_ble_eq_true rfl, Nat.le_of_ble_eq_true rfl, Nat.le_of_ble_eq_true rfl, Nat.le_of_ble_eq_true rfl, Nat.le_of_ble_eq_true rfl⟩ (fun v52 H52 L52 S52 K52 q52 => ?_)
                          obtain ⟨q52, fq52⟩ := q52
                          obtain ⟨q52, sa52, sx52, tq52⟩ := q52
                          have y52_13 : (fI D H52 11 a0 13).toInt = (fI D H50 11 a0 13).toInt := congrArg Int32.toInt (K52.fI ga0 rfl (by decide) (by decide +kernel))
                          have lq52 : Lq D H50 H52 a0 := tq52
                          have tk52 : Lq D s.heap H52 a0 := tk50.trans lq52
                          rcases fq52 with ⟨c52, y52, z52, ts52⟩ | ⟨e52, y52, z52, wr52⟩
                          · skip
                            refine lv_if_ne (tgt := 161) hx hb dX12_readAtom_156 (by decide) (fun c53 => ?_) (fun c53 => ?_)
                            · have b53 : ¬ v52.toInt = (0 : Int32).toInt := fun z9 => c53 (i_eq.mpr z9)
                              refine lv_aload_n hx hb dX12_readAtom_161 rfl (lv_at hl 1 rfl) ?_
                              refine lv_iload_n hx hb dX12_readAtom_162 rfl (lv_at hl 0 rfl) ?_
                              refine lv_if_eq (tgt := 171) hx hb dX12_readAtom_163 (by decide) (fun c54 => ?_) (fun c54 => ?_)
                              · have b54 : v42.toInt = (0 : Int32).toInt := i_eq.mp c54
                                refine lv_bipush (v := 14) hx hb dX12_readAtom_171 (by decide) ?_
                                refine lv_iconst (v := 0) hx hb dX12_readAtom_173 (by decide) ?_
                                have rs9 : 0 ≤ (fI D H52 11 a0 16).toInt ∧ (fI D H52 11 a0 16).toInt ≤ 400 := S52.1.rng ga0 rfl (by decide) rfl
                                have rp9 : 0 ≤ (fI D H52 11 a0 10).toInt ∧ (fI D H52 11 a0 10).toInt ≤ 400 := S52.1.rng ga0 rfl (by decide) rfl
                                have k_14 : (14 : Int32).toInt = 14 := by decide
                                refine callV_Ev C S52 (c_X12_emits l D G a0 (14 : Int32) (0 : Int32) ga0) kV_X12_185 ga0 (by omega) (by decide +kernel) dX12_readAtom_174 hl.1 rfl rfl (by decide) cd_X12_emits ⟨Nat.le_of_ble_eq_true rfl, Nat.le_of_ble_eq_true rfl, Nat.le_of_ble_eq_true rfl, Nat.le_of_ble_eq_true rfl, Nat.le_of_ble_eq_true rfl⟩ (fun H55 L55 S55 K55 q55 => ?_)
                                obtain ⟨qa55, qb55, tq55⟩ := q55
                                have y55_10 : (fI D H55 11 a0 10).toInt = (fI D H52 11 a0 10).toInt := congrArg Int32.toInt (K55.fI ga0 rfl (by decide) (by decide +kernel))
                                have y55_12 : (fI D H55 11 a0 12).toInt = (fI D H52 11 a0 12).toInt := congrArg Int32.toInt (K55.fI ga0 rfl (by decide) (by decide +kernel))
                                have y55_13 : (fI D H55 11 a0 13).toInt = (fI D H52 11 a0 13).toInt := congrArg Int32.toInt (K55.fI ga0 rfl (by decide) (by decide +kernel))
                                have lq55 : Lq D H52 H55 a0 := tq55
                                have tk55 : Lq D s.heap H55 a0 := tk52.trans lq55
                                have rb55 := ts52.keep S52.1 ga0 K55 (by decide +kernel)
                                refine lv_iconst (v := 1) hx hb dX12_readAtom_177 (by decide) ?_
                                have k_1 : (1 : Int32).toInt = 1 := by decide
                                exact retE_z hQ C S55 hr dX12_readAtom_178 (z01 (by omega) (by omega)) (⟨⟨by omega, fun _ => by omega, fun _ => (Ex.bin ((((lq42.trans lq50).trans lq52).trans lq55).ex (sx40 (by omega)) (by omega)) ((lq55.ex (sx52 (by omega)) (by omega)).at (i' := (fI D H40 11 a0 16).toInt.toNat) (by omega) rfl) (by rw [qb55]; decide) rfl).at (by omega) (by omega), tk55⟩, RR.ok (by rw [atm_s]; simp [clo, tkS, tlF, cmpF, y1, y19, y35, yt39, y40, y42, y50, y52]) (by omega) rb55⟩)
                              · have b54 : ¬ v42.toInt = (0 : Int32).toInt := fun z9 => c54 (i_eq.mpr z9)
                                exact absurd b54 (by omega)
                            · have b53 : v52.toInt = (0 : Int32).toInt := i_eq.mp c53
                              exact absurd b53 (by omega)
                          · skip
                            refine lv_if_ne (tgt := 161) hx hb dX12_readAtom_156 (by decide) (fun c56 => ?_) (fun c56 => ?_)
                            · have b56 : ¬ v52.toInt = (0 : Int32).toInt := fun z9 => c56 (i_eq.mpr z9)
                              exact absurd b56 (by omega)
                            · have b56 : v52.toInt = (0 : Int32).toInt := i_eq.mp c56
                              refine lv_iconst (v := 0) hx hb dX12_readAtom_159 (by decide) ?_
                              exact retE_z hQ C S52 hr dX12_readAtom_160 (z01 (by omega) (by omega)) (⟨⟨by omega, fun h9 => absurd h9 (by decide), fun h9 => absurd h9 (by decide), tk52⟩, RR.no (by rw [atm_s]; simp [clo, tkS, tlF, cmpF, y1, y19, y35, yt39, y40, y42, y50, y52]) (by omega) wr52⟩)
                      · skip
                        refine lv_if_eq (tgt := 159) hx hb dX12_readAtom_149 (by decide) (fun c57 => ?_) (fun c57 => ?_)
                        · have b57 : v50.toInt = (0 : Int32).toInt := i_eq.mp c57
                          refine lv_iconst (v := 0) hx hb dX12_readAtom_159 (by decide) ?_
                          exact retE_z hQ C S50 hr dX12_readAtom_160 (z01 (by omega) (by omega)) (⟨⟨by omega, fun h9 => absurd h9 (by decide), fun h9 => absurd h9 (by decide), tk50⟩, RR.no (by rw [atm_s]; simp [clo, tkS, tlF, cmpF, y1, y19, y35, yt39, y40, y42, y50]) (by omega) wr50⟩)
                        · have b57 : ¬ v50.toInt = (0 : Int32).toInt := fun z9 => c57 (i_eq.mpr z9)
                          exact absurd b57 (by omega)
                · have b41 : v40.toInt = (0 : Int32).toInt := i_eq.mp c41
                  exact absurd b41 (by omega)
              · skip
                refine lv_if_ne (tgt := 132) hx hb dX12_readAtom_127 (by decide) (fun c58 => ?_) (fun c58 => ?_)
                · have b58 : ¬ v40.toInt = (0 : Int32).toInt := fun z9 => c58 (i_eq.mpr z9)
                  exact absurd b58 (by omega)
                · have b58 : v40.toInt = (0 : Int32).toInt := i_eq.mp c58
                  refine lv_iconst (v := 0) hx hb dX12_readAtom_130 (by decide) ?_
                  exact retE_z hQ C S40 hr dX12_readAtom_131 (z01 (by omega) (by omega)) (⟨⟨by omega, fun h9 => absurd h9 (by decide), fun h9 => absurd h9 (by decide), tk40⟩, RR.no (by rw [atm_s]; simp [clo, tkS, tlF, cmpF, y1, y19, y35, yt39, y40]) (by omega) wr40⟩)
            · have b38 : ¬ v35.toInt = (0 : Int32).toInt := fun z9 => c38 (i_eq.mpr z9)
              exact absurd b38 (by omega)
        · have b34 : ¬ v19.toInt = (0 : Int32).toInt := fun z9 => c34 (i_eq.mpr z9)
          exact absurd b34 (by omega)
    · have b17 : ¬ v1.toInt = (0 : Int32).toInt := fun z9 => c17 (i_eq.mpr z9)
      exact absurd b17 (by omega)

set_option maxRecDepth 100000 in
set_option maxHeartbeats 4000000 in
theorem c_X12_readAllOf_d1 (l : Launch) (D : DD) (G : Nat → Nat) (a0 : Nat) (T : Tx) (b : Nat) (ga0 : G a0 = 30) : CE l D G yX12_readAllOf cX12_readAllOf 1 (some .boolean) 23 [.ref a0] (fun H => ((fI D H 11 a0 13).toInt = 1 ∧ (fI D H 11 a0 16).toInt + 3 ≤ (fI D H 11 a0 10).toInt) ∧ (RB D H a0 T b)) [(30, 10), (30, 12), (30, 16), (31, 0), (30, 13)] (xI (fun H r H1 => ((0 ≤ r.toInt ∧ r.toInt ≤ 1) ∧ (r.toInt = 1 → (fI D H1 11 a0 16).toInt - (fI D H 11 a0 16).toInt ≤ (fI D H1 11 a0 10).toInt - (fI D H 11 a0 10).toInt ∧ (fI D H1 11 a0 13).toInt = (fI D H 11 a0 13).toInt ∧ (fI D H 11 a0 10).toInt ≤ (fI D H1 11 a0 10).toInt) ∧ (r.toInt = 1 → Ex (Cs D H1 a0) (fI D H 11 a0 16).toInt.toNat (fI D H1 11 a0 16).toInt.toNat) ∧ Lq D H H1 a0) ∧ (RR D H1 a0 T (allF T (atm T 5) b) r))) := by
  refine enter (by decide) (Nat.le_of_ble_eq_true rfl) ?_
  intro p e s m args below meth c ls Q hA hQ C hr hO hpre hl
  have hx := C.1
  have hb := C.2.1
  have S : Sd D G [(30, 10), (30, 12), (30, 16), (31, 0), (30, 13)] s.heap s.heap [] := Sd.start hO
  have hl : lv_has ls 1 [(0, .ref a0)] := hl
  have rs0 : 0 ≤ (fI D s.heap 11 a0 16).toInt ∧ (fI D s.heap 11 a0 16).toInt ≤ 400 := hO.rng ga0 rfl (by decide) rfl
  have rp0 : 0 ≤ (fI D s.heap 11 a0 10).toInt ∧ (fI D s.heap 11 a0 10).toInt ≤ 400 := hO.rng ga0 rfl (by decide) rfl
  obtain ⟨hpre, hf⟩ := hpre
  have ts0 := hf
  have hT : T.2 ≤ 400 := ts0.le hO ga0
  have tk0 : Lq D s.heap s.heap a0 := Lq.refl
  refine lv_aload_n hx hb dX12_readAllOf_0 rfl (lv_at hl 0 rfl) ?_
  refine callV_Ei C S (c_X12_readAtom_d1 l D G a0 T b ga0) kV_X12_205 ga0 (⟨hpre, ts0⟩) (by decide +kernel) dX12_readAllOf_1 hl.1 rfl rfl (by decide) cd_X12_readAtom ⟨Nat.le_of_ble_eq_true rfl, Nat.le_of_ble_eq_true rfl, Nat.le_of_ble_eq_true rfl, Nat.le_of_ble_eq_true rfl, Nat.le_of_ble_eq_true rfl⟩ (fun v1 H1 L1 S1 K1 q1 => ?_)
  obtain ⟨q1, fq1⟩ := q1
  obtain ⟨q1, sa1, sx1, tq1⟩ := q1
  have lq1 : Lq D s.heap H1 a0 := tq1
  have tk1 : Lq D s.heap H1 a0 := tk0.trans lq1
  rcases fq1 with ⟨c1, y1, z1, ts1⟩ | ⟨e1, y1, z1, wr1⟩
  · skip
    have k_0 : (0 : Int32).toInt = 0 := by decide
    refine lv_if_ne (tgt := 9) hx hb dX12_readAllOf_4 (by decide) (fun c2 => ?_) (fun c2 => ?_)
    · have b2 : ¬ v1.toInt = (0 : Int32).toInt := fun z9 => c2 (i_eq.mpr z9)
      have Lp9 : ∀ (n : Nat) (b_9 : Nat) (H_9 : Heap) (L_9 : List Loc) (ls : Array Slot), (Sd D G [(30, 10), (30, 12), (30, 16), (31, 0), (30, 13)] s.heap H_9 L_9) → (Ex (Cs D H_9 a0) (fI D s.heap 11 a0 16).toInt.toNat (fI D H_9 11 a0 16).toInt.toNat) → ((fI D H_9 11 a0 16).toInt - (fI D s.heap 11 a0 16).toInt ≤ (fI D H_9 11 a0 10).toInt - (fI D s.heap 11 a0 10).toInt ∧ (fI D H_9 11 a0 13).toInt = (fI D s.heap 11 a0 13).toInt ∧ (fI D s.heap 11 a0 10).toInt ≤ (fI D H_9 11 a0 10).toInt) → (RB D H_9 a0 T b_9) → (allF T (atm T 5) b = allT T (atm T 5) b_9) → (Lq D s.heap H_9 a0) → 401 - (fI D H_9 11 a0 10).toInt ≤ (n : Int) → lv_has ls 1 [(0, .ref a0)] → W p l e (rmU 23 0 0) s m args below meth c H_9 L_9 0 0 Q (F0 m 9 ls []) := by
        intro n
        induction n with
        | zero =>
          intro b_9 H_9 L_9 ls S_9 u9_0 u9_1 u9_2 u9_3 u9_4 hn hl
          have rz : 0 ≤ (fI D H_9 11 a0 10).toInt ∧ (fI D H_9 11 a0 10).toInt ≤ 400 := S_9.1.rng ga0 rfl (by decide) rfl
          exact absurd hn (by omega)
        | succ n ih9 =>
          intro b_9 H_9 L_9 ls S_9 u9_0 u9_1 u9_2 u9_3 u9_4 hn hl
          have rs9 : 0 ≤ (fI D H_9 11 a0 16).toInt ∧ (fI D H_9 11 a0 16).toInt ≤ 400 := S_9.1.rng ga0 rfl (by decide) rfl
          have rp9 : 0 ≤ (fI D H_9 11 a0 10).toInt ∧ (fI D H_9 11 a0 10).toInt ≤ 400 := S_9.1.rng ga0 rfl (by decide) rfl
          refine lv_aload_n hx hb dX12_readAllOf_9 rfl (lv_at hl 0 rfl) ?_
          refine q_lds C ks_X12_214 dX12_readAllOf_10 (fun a3 ha3 wa3 => ?_)
          refine callV_Ei C S_9 (c_X12_passes_f l D G a0 a3 3 w_and T b_9 ga0 ha3 (Wc.of wa3 kw_and) (by decide)) kV_X12_120 ga0 (⟨trivial, u9_2⟩) (by decide +kernel) dX12_readAllOf_12 hl.1 rfl rfl (by decide) cd_X12_passes ⟨Nat.le_of_ble_eq_true rfl, Nat.le_of_ble_eq_true rfl, Nat.le_of_ble_eq_true rfl, Nat.le_of_ble_eq_true rfl, Nat.le_of_ble_eq_true rfl⟩ (fun v4 H4 L4 S4 K4 q4 => ?_)
          obtain ⟨q4, fq4⟩ := q4
          have y4_13 : (fI D H4 11 a0 13).toInt = (fI D H_9 11 a0 13).toInt := congrArg Int32.toInt (K4.fI ga0 rfl (by decide) (by decide +kernel))
          have y4_16 : (fI D H4 11 a0 16).toInt = (fI D H_9 11 a0 16).toInt := congrArg Int32.toInt (K4.fI ga0 rfl (by decide) (by decide +kernel))
          have lq4 : Lq D H_9 H4 a0 := Lq.keep S_9.1 ga0 K4 (by decide +kernel) (by decide +kernel) (by decide +kernel)
          have tk4 : Lq D s.heap H4 a0 := u9_4.trans lq4
          rcases fq4 with ⟨z4, y4, ts4, wr4⟩ | ⟨z4, y4, ts4, wr4⟩
          · skip
            refine lv_if_eq (tgt := 37) hx hb dX12_readAllOf_15 (by decide) (fun c5 => ?_) (fun c5 => ?_)
            · have b5 : v4.toInt = (0 : Int32).toInt := i_eq.mp c5
              exact absurd b5 (by omega)
            · have b5 : ¬ v4.toInt = (0 : Int32).toInt := fun z9 => c5 (i_eq.mpr z9)
              refine lv_aload_n hx hb dX12_readAllOf_18 rfl (lv_at hl 0 rfl) ?_
              have rs9 : 0 ≤ (fI D H4 11 a0 16).toInt ∧ (fI D H4 11 a0 16).toInt ≤ 400 := S4.1.rng ga0 rfl (by decide) rfl
              have rp9 : 0 ≤ (fI D H4 11 a0 10).toInt ∧ (fI D H4 11 a0 10).toInt ≤ 400 := S4.1.rng ga0 rfl (by decide) rfl
              refine callV_Ei C S4 (c_X12_readAtom_d1 l D G a0 T (nx T b_9) ga0) kV_X12_205 ga0 (⟨⟨by omega, by omega⟩, ts4⟩) (by decide +kernel) dX12_readAllOf_19 hl.1 rfl rfl (by decide) cd_X12_readAtom ⟨Nat.le_of_ble_eq_true rfl, Nat.le_of_ble_eq_true rfl, Nat.le_of_ble_eq_true rfl, Nat.le_of_ble_eq_true rfl, Nat.le_of_ble_eq_true rfl⟩ (fun v6 H6 L6 S6 K6 q6 => ?_)
              obtain ⟨q6, fq6⟩ := q6
              obtain ⟨q6, sa6, sx6, tq6⟩ := q6
              have lq6 : Lq D H4 H6 a0 := tq6
              have tk6 : Lq D s.heap H6 a0 := tk4.trans lq6
              rcases fq6 with ⟨c6, y6, z6, ts6⟩ | ⟨e6, y6, z6, wr6⟩
              · skip
                refine lv_if_ne (tgt := 27) hx hb dX12_readAllOf_22 (by decide) (fun c7 => ?_) (fun c7 => ?_)
                · have b7 : ¬ v6.toInt = (0 : Int32).toInt := fun z9 => c7 (i_eq.mpr z9)
                  refine lv_aload_n hx hb dX12_readAllOf_27 rfl (lv_at hl 0 rfl) ?_
                  refine lv_bipush (v := 16) hx hb dX12_readAllOf_28 (by decide) ?_
                  refine lv_iconst (v := 0) hx hb dX12_readAllOf_30 (by decide) ?_
                  have rs9 : 0 ≤ (fI D H6 11 a0 16).toInt ∧ (fI D H6 11 a0 16).toInt ≤ 400 := S6.1.rng ga0 rfl (by decide) rfl
                  have rp9 : 0 ≤ (fI D H6 11 a0 10).toInt ∧ (fI D H6 11 a0 10).toInt ≤ 400 := S6.1.rng ga0 rfl (by decide) rfl
                  have k_16 : (16 : Int32).toInt = 16 := by decide
                  refine callV_Ev C S6 (c_X12_emits l D G a0 (16 : Int32) (0 : Int32) ga0) kV_X12_185 ga0 (by omega) (by decide +kernel) dX12_readAllOf_31 hl.1 rfl rfl (by decide) cd_X12_emits ⟨Nat.le_of_ble_eq_true rfl, Nat.le_of_ble_eq_true rfl, Nat.le_of_ble_eq_true rfl, Nat.le_of_ble_eq_true rfl, Nat.le_of_ble_eq_true rfl⟩ (fun H8 L8 S8 K8 q8 => ?_)
                  obtain ⟨qa8, qb8, tq8⟩ := q8
                  have y8_10 : (fI D H8 11 a0 10).toInt = (fI D H6 11 a0 10).toInt := congrArg Int32.toInt (K8.fI ga0 rfl (by decide) (by decide +kernel))
                  have y8_12 : (fI D H8 11 a0 12).toInt = (fI D H6 11 a0 12).toInt := congrArg Int32.toInt (K8.fI ga0 rfl (by decide) (by decide +kernel))
                  have y8_13 : (fI D H8 11 a0 13).toInt = (fI D H6 11 a0 13).toInt := congrArg Int32.toInt (K8.fI ga0 rfl (by decide) (by decide +kernel))
                  have lq8 : Lq D H6 H8 a0 := tq8
                  have tk8 : Lq D s.heap H8 a0 := tk6.trans lq8
                  have rb8 := ts6.keep S6.1 ga0 K8 (by decide +kernel)
                  refine lv_goto (tgt := 9) hx hb dX12_readAllOf_34 (by decide) ?_
                  have e9 : Ex (Cs D H8 a0) (fI D s.heap 11 a0 16).toInt.toNat (fI D H8 11 a0 16).toInt.toNat := (Ex.bin (((lq4.trans lq6).trans lq8).ex u9_0 (by omega)) ((lq8.ex (sx6 (by omega)) (by omega)).at (i' := (fI D H_9 11 a0 16).toInt.toNat) (by omega) rfl) (by rw [qb8]; decide) rfl).at (by omega) (by omega)
                  exact ih9 c6 H8 L8 ls S8 e9 (by omega) rb8 (u9_3.trans ((allT_t y4).trans (all_in (atm_on 5) hT y6))) tk8 (by omega) (lv_sub hl [0] rfl)
                · have b7 : v6.toInt = (0 : Int32).toInt := i_eq.mp c7
                  exact absurd b7 (by omega)
              · skip
                refine lv_if_ne (tgt := 27) hx hb dX12_readAllOf_22 (by decide) (fun c9 => ?_) (fun c9 => ?_)
                · have b9 : ¬ v6.toInt = (0 : Int32).toInt := fun z9 => c9 (i_eq.mpr z9)
                  exact absurd b9 (by omega)
                · have b9 : v6.toInt = (0 : Int32).toInt := i_eq.mp c9
                  refine lv_iconst (v := 0) hx hb dX12_readAllOf_25 (by decide) ?_
                  exact retE_z hQ C S6 hr dX12_readAllOf_26 (z01 (by omega) (by omega)) (⟨⟨by omega, fun h9 => absurd h9 (by decide), fun h9 => absurd h9 (by decide), tk6⟩, RR.no (u9_3.trans ((allT_t y4).trans (all_no (atm_on 5) hT y6))) (by omega) wr6⟩)
          · skip
            refine lv_if_eq (tgt := 37) hx hb dX12_readAllOf_15 (by decide) (fun c10 => ?_) (fun c10 => ?_)
            · have b10 : v4.toInt = (0 : Int32).toInt := i_eq.mp c10
              refine lv_iconst (v := 1) hx hb dX12_readAllOf_37 (by decide) ?_
              have k_1 : (1 : Int32).toInt = 1 := by decide
              exact retE_z hQ C S4 hr dX12_readAllOf_38 (z01 (by omega) (by omega)) (⟨⟨by omega, fun _ => by omega, fun _ => (lq4.ex u9_0 (by omega)).at (by omega) (by omega), tk4⟩, RR.ok (u9_3.trans (allT_f y4)) (by omega) ts4⟩)
            · have b10 : ¬ v4.toInt = (0 : Int32).toInt := fun z9 => c10 (i_eq.mpr z9)
              exact absurd b10 (by omega)
      have ex0 := sx1 (by omega)
      have rn : 0 ≤ (fI D H1 11 a0 10).toInt ∧ (fI D H1 11 a0 10).toInt ≤ 400 := S1.1.rng ga0 rfl (by decide) rfl
      exact Lp9 402 c1 H1 L1 ls S1 (ex0.at (by omega) rfl) (by omega) ts1 (all_in (atm_on 5) hT y1) tk1  (by omega) (lv_sub hl [0] rfl)
    · have b2 : v1.toInt = (0 : Int32).toInt := i_eq.mp c2
      exact absurd b2 (by omega)
  · skip
    have k_0 : (0 : Int32).toInt = 0 := by decide
    refine lv_if_ne (tgt := 9) hx hb dX12_readAllOf_4 (by decide) (fun c11 => ?_) (fun c11 => ?_)
    · have b11 : ¬ v1.toInt = (0 : Int32).toInt := fun z9 => c11 (i_eq.mpr z9)
      exact absurd b11 (by omega)
    · have b11 : v1.toInt = (0 : Int32).toInt := i_eq.mp c11
      refine lv_iconst (v := 0) hx hb dX12_readAllOf_7 (by decide) ?_
      exact retE_z hQ C S1 hr dX12_readAllOf_8 (z01 (by omega) (by omega)) (⟨⟨by omega, fun h9 => absurd h9 (by decide), fun h9 => absurd h9 (by decide), tk1⟩, RR.no (all_no (atm_on 5) hT y1) (by omega) wr1⟩)

set_option maxRecDepth 100000 in
set_option maxHeartbeats 4000000 in
theorem c_X12_readCond_d1 (l : Launch) (D : DD) (G : Nat → Nat) (a0 : Nat) (T : Tx) (b : Nat) (ga0 : G a0 = 30) : CE l D G yX12_readCond cX12_readCond 1 (some .boolean) 24 [.ref a0] (fun H => ((fI D H 11 a0 13).toInt = 1 ∧ (fI D H 11 a0 16).toInt + 3 ≤ (fI D H 11 a0 10).toInt) ∧ (RB D H a0 T b)) [(30, 10), (30, 12), (30, 16), (31, 0), (30, 13)] (xI (fun H r H1 => ((0 ≤ r.toInt ∧ r.toInt ≤ 1) ∧ (r.toInt = 1 → (fI D H1 11 a0 16).toInt - (fI D H 11 a0 16).toInt ≤ (fI D H1 11 a0 10).toInt - (fI D H 11 a0 10).toInt ∧ (fI D H1 11 a0 13).toInt = (fI D H 11 a0 13).toInt ∧ (fI D H 11 a0 10).toInt ≤ (fI D H1 11 a0 10).toInt) ∧ (r.toInt = 1 → Ex (Cs D H1 a0) (fI D H 11 a0 16).toInt.toNat (fI D H1 11 a0 16).toInt.toNat) ∧ Lq D H H1 a0) ∧ (RR D H1 a0 T (conF T (atm T 5) b) r))) := by
  refine enter (by decide) (Nat.le_of_ble_eq_true rfl) ?_
  intro p e s m args below meth c ls Q hA hQ C hr hO hpre hl
  have hx := C.1
  have hb := C.2.1
  have S : Sd D G [(30, 10), (30, 12), (30, 16), (31, 0), (30, 13)] s.heap s.heap [] := Sd.start hO
  have hl : lv_has ls 1 [(0, .ref a0)] := hl
  have rs0 : 0 ≤ (fI D s.heap 11 a0 16).toInt ∧ (fI D s.heap 11 a0 16).toInt ≤ 400 := hO.rng ga0 rfl (by decide) rfl
  have rp0 : 0 ≤ (fI D s.heap 11 a0 10).toInt ∧ (fI D s.heap 11 a0 10).toInt ≤ 400 := hO.rng ga0 rfl (by decide) rfl
  obtain ⟨hpre, hf⟩ := hpre
  have ts0 := hf
  have hT : T.2 ≤ 400 := ts0.le hO ga0
  have tk0 : Lq D s.heap s.heap a0 := Lq.refl
  refine lv_aload_n hx hb dX12_readCond_0 rfl (lv_at hl 0 rfl) ?_
  refine callV_Ei C S (c_X12_readAllOf_d1 l D G a0 T b ga0) kV_X12_216 ga0 (⟨hpre, ts0⟩) (by decide +kernel) dX12_readCond_1 hl.1 rfl rfl (by decide) cd_X12_readAllOf ⟨Nat.le_of_ble_eq_true rfl, Nat.le_of_ble_eq_true rfl, Nat.le_of_ble_eq_true rfl, Nat.le_of_ble_eq_true rfl, Nat.le_of_ble_eq_true rfl⟩ (fun v1 H1 L1 S1 K1 q1 => ?_)
  obtain ⟨q1, fq1⟩ := q1
  obtain ⟨q1, sa1, sx1, tq1⟩ := q1
  have lq1 : Lq D s.heap H1 a0 := tq1
  have tk1 : Lq D s.heap H1 a0 := tk0.trans lq1
  rcases fq1 with ⟨c1, y1, z1, ts1⟩ | ⟨e1, y1, z1, wr1⟩
  · skip
    have k_0 : (0 : Int32).toInt = 0 := by decide
    refine lv_if_ne (tgt := 9) hx hb dX12_readCond_4 (by decide) (fun c2 => ?_) (fun c2 => ?_)
    · have b2 : ¬ v1.toInt = (0 : Int32).toInt := fun z9 => c2 (i_eq.mpr z9)
      have Lp9 : ∀ (n : Nat) (b_9 : Nat) (H_9 : Heap) (L_9 : List Loc) (ls : Array Slot), (Sd D G [(30, 10), (30, 12), (30, 16), (31, 0), (30, 13)] s.heap H_9 L_9) → (Ex (Cs D H_9 a0) (fI D s.heap 11 a0 16).toInt.toNat (fI D H_9 11 a0 16).toInt.toNat) → ((fI D H_9 11 a0 16).toInt - (fI D s.heap 11 a0 16).toInt ≤ (fI D H_9 11 a0 10).toInt - (fI D s.heap 11 a0 10).toInt ∧ (fI D H_9 11 a0 13).toInt = (fI D s.heap 11 a0 13).toInt ∧ (fI D s.heap 11 a0 10).toInt ≤ (fI D H_9 11 a0 10).toInt) → (RB D H_9 a0 T b_9) → (conF T (atm T 5) b = conT T (atm T 5) b_9) → (Lq D s.heap H_9 a0) → 401 - (fI D H_9 11 a0 10).toInt ≤ (n : Int) → lv_has ls 1 [(0, .ref a0)] → W p l e (rmU 24 0 0) s m args below meth c H_9 L_9 0 0 Q (F0 m 9 ls []) := by
        intro n
        induction n with
        | zero =>
          intro b_9 H_9 L_9 ls S_9 u9_0 u9_1 u9_2 u9_3 u9_4 hn hl
          have rz : 0 ≤ (fI D H_9 11 a0 10).toInt ∧ (fI D H_9 11 a0 10).toInt ≤ 400 := S_9.1.rng ga0 rfl (by decide) rfl
          exact absurd hn (by omega)
        | succ n ih9 =>
          intro b_9 H_9 L_9 ls S_9 u9_0 u9_1 u9_2 u9_3 u9_4 hn hl
          have rs9 : 0 ≤ (fI D H_9 11 a0 16).toInt ∧ (fI D H_9 11 a0 16).toInt ≤ 400 := S_9.1.rng ga0 rfl (by decide) rfl
          have rp9 : 0 ≤ (fI D H_9 11 a0 10).toInt ∧ (fI D H_9 11 a0 10).toInt ≤ 400 := S_9.1.rng ga0 rfl (by decide) rfl
          refine lv_aload_n hx hb dX12_readCond_9 rfl (lv_at hl 0 rfl) ?_
          refine q_lds C ks_X12_219 dX12_readCond_10 (fun a3 ha3 wa3 => ?_)
          refine callV_Ei C S_9 (c_X12_passes_f l D G a0 a3 2 w_or T b_9 ga0 ha3 (Wc.of wa3 kw_or) (by decide)) kV_X12_120 ga0 (⟨trivial, u9_2⟩) (by decide +kernel) dX12_readCond_12 hl.1 rfl rfl (by decide) cd_X12_passes ⟨Nat.le_of_ble_eq_true rfl, Nat.le_of_ble_eq_true rfl, Nat.le_of_ble_eq_true rfl, Nat.le_of_ble_eq_true rfl, Nat.le_of_ble_eq_true rfl⟩ (fun v4 H4 L4 S4 K4 q4 => ?_)
          obtain ⟨q4, fq4⟩ := q4
          have y4_13 : (fI D H4 11 a0 13).toInt = (fI D H_9 11 a0 13).toInt := congrArg Int32.toInt (K4.fI ga0 rfl (by decide) (by decide +kernel))
          have y4_16 : (fI D H4 11 a0 16).toInt = (fI D H_9 11 a0 16).toInt := congrArg Int32.toInt (K4.fI ga0 rfl (by decide) (by decide +kernel))
          have lq4 : Lq D H_9 H4 a0 := Lq.keep S_9.1 ga0 K4 (by decide +kernel) (by decide +kernel) (by decide +kernel)
          have tk4 : Lq D s.heap H4 a0 := u9_4.trans lq4
          rcases fq4 with ⟨z4, y4, ts4, wr4⟩ | ⟨z4, y4, ts4, wr4⟩
          · skip
            refine lv_if_eq (tgt := 37) hx hb dX12_readCond_15 (by decide) (fun c5 => ?_) (fun c5 => ?_)
            · have b5 : v4.toInt = (0 : Int32).toInt := i_eq.mp c5
              exact absurd b5 (by omega)
            · have b5 : ¬ v4.toInt = (0 : Int32).toInt := fun z9 => c5 (i_eq.mpr z9)
              refine lv_aload_n hx hb dX12_readCond_18 rfl (lv_at hl 0 rfl) ?_
              have rs9 : 0 ≤ (fI D H4 11 a0 16).toInt ∧ (fI D H4 11 a0 16).toInt ≤ 400 := S4.1.rng ga0 rfl (by decide) rfl
              have rp9 : 0 ≤ (fI D H4 11 a0 10).toInt ∧ (fI D H4 11 a0 10).toInt ≤ 400 := S4.1.rng ga0 rfl (by decide) rfl
              refine callV_Ei C S4 (c_X12_readAllOf_d1 l D G a0 T (nx T b_9) ga0) kV_X12_216 ga0 (⟨⟨by omega, by omega⟩, ts4⟩) (by decide +kernel) dX12_readCond_19 hl.1 rfl rfl (by decide) cd_X12_readAllOf ⟨Nat.le_of_ble_eq_true rfl, Nat.le_of_ble_eq_true rfl, Nat.le_of_ble_eq_true rfl, Nat.le_of_ble_eq_true rfl, Nat.le_of_ble_eq_true rfl⟩ (fun v6 H6 L6 S6 K6 q6 => ?_)
              obtain ⟨q6, fq6⟩ := q6
              obtain ⟨q6, sa6, sx6, tq6⟩ := q6
              have lq6 : Lq D H4 H6 a0 := tq6
              have tk6 : Lq D s.heap H6 a0 := tk4.trans lq6
              rcases fq6 with ⟨c6, y6, z6, ts6⟩ | ⟨e6, y6, z6, wr6⟩
              · skip
                refine lv_if_ne (tgt := 27) hx hb dX12_readCond_22 (by decide) (fun c7 => ?_) (fun c7 => ?_)
                · have b7 : ¬ v6.toInt = (0 : Int32).toInt := fun z9 => c7 (i_eq.mpr z9)
                  refine lv_aload_n hx hb dX12_readCond_27 rfl (lv_at hl 0 rfl) ?_
                  refine lv_bipush (v := 17) hx hb dX12_readCond_28 (by decide) ?_
                  refine lv_iconst (v := 0) hx hb dX12_readCond_30 (by decide) ?_
                  have rs9 : 0 ≤ (fI D H6 11 a0 16).toInt ∧ (fI D H6 11 a0 16).toInt ≤ 400 := S6.1.rng ga0 rfl (by decide) rfl
                  have rp9 : 0 ≤ (fI D H6 11 a0 10).toInt ∧ (fI D H6 11 a0 10).toInt ≤ 400 := S6.1.rng ga0 rfl (by decide) rfl
                  have k_17 : (17 : Int32).toInt = 17 := by decide
                  refine callV_Ev C S6 (c_X12_emits l D G a0 (17 : Int32) (0 : Int32) ga0) kV_X12_185 ga0 (by omega) (by decide +kernel) dX12_readCond_31 hl.1 rfl rfl (by decide) cd_X12_emits ⟨Nat.le_of_ble_eq_true rfl, Nat.le_of_ble_eq_true rfl, Nat.le_of_ble_eq_true rfl, Nat.le_of_ble_eq_true rfl, Nat.le_of_ble_eq_true rfl⟩ (fun H8 L8 S8 K8 q8 => ?_)
                  obtain ⟨qa8, qb8, tq8⟩ := q8
                  have y8_10 : (fI D H8 11 a0 10).toInt = (fI D H6 11 a0 10).toInt := congrArg Int32.toInt (K8.fI ga0 rfl (by decide) (by decide +kernel))
                  have y8_12 : (fI D H8 11 a0 12).toInt = (fI D H6 11 a0 12).toInt := congrArg Int32.toInt (K8.fI ga0 rfl (by decide) (by decide +kernel))
                  have y8_13 : (fI D H8 11 a0 13).toInt = (fI D H6 11 a0 13).toInt := congrArg Int32.toInt (K8.fI ga0 rfl (by decide) (by decide +kernel))
                  have lq8 : Lq D H6 H8 a0 := tq8
                  have tk8 : Lq D s.heap H8 a0 := tk6.trans lq8
                  have rb8 := ts6.keep S6.1 ga0 K8 (by decide +kernel)
                  refine lv_goto (tgt := 9) hx hb dX12_readCond_34 (by decide) ?_
                  have e9 : Ex (Cs D H8 a0) (fI D s.heap 11 a0 16).toInt.toNat (fI D H8 11 a0 16).toInt.toNat := (Ex.bin (((lq4.trans lq6).trans lq8).ex u9_0 (by omega)) ((lq8.ex (sx6 (by omega)) (by omega)).at (i' := (fI D H_9 11 a0 16).toInt.toNat) (by omega) rfl) (by rw [qb8]; decide) rfl).at (by omega) (by omega)
                  exact ih9 c6 H8 L8 ls S8 e9 (by omega) rb8 (u9_3.trans ((conT_t y4).trans (con_in (atm_on 5) hT y6))) tk8 (by omega) (lv_sub hl [0] rfl)
                · have b7 : v6.toInt = (0 : Int32).toInt := i_eq.mp c7
                  exact absurd b7 (by omega)
              · skip
                refine lv_if_ne (tgt := 27) hx hb dX12_readCond_22 (by decide) (fun c9 => ?_) (fun c9 => ?_)
                · have b9 : ¬ v6.toInt = (0 : Int32).toInt := fun z9 => c9 (i_eq.mpr z9)
                  exact absurd b9 (by omega)
                · have b9 : v6.toInt = (0 : Int32).toInt := i_eq.mp c9
                  refine lv_iconst (v := 0) hx hb dX12_readCond_25 (by decide) ?_
                  exact retE_z hQ C S6 hr dX12_readCond_26 (z01 (by omega) (by omega)) (⟨⟨by omega, fun h9 => absurd h9 (by decide), fun h9 => absurd h9 (by decide), tk6⟩, RR.no (u9_3.trans ((conT_t y4).trans (con_no (atm_on 5) hT y6))) (by omega) wr6⟩)
          · skip
            refine lv_if_eq (tgt := 37) hx hb dX12_readCond_15 (by decide) (fun c10 => ?_) (fun c10 => ?_)
            · have b10 : v4.toInt = (0 : Int32).toInt := i_eq.mp c10
              refine lv_iconst (v := 1) hx hb dX12_readCond_37 (by decide) ?_
              have k_1 : (1 : Int32).toInt = 1 := by decide
              exact retE_z hQ C S4 hr dX12_readCond_38 (z01 (by omega) (by omega)) (⟨⟨by omega, fun _ => by omega, fun _ => (lq4.ex u9_0 (by omega)).at (by omega) (by omega), tk4⟩, RR.ok (u9_3.trans (conT_f y4)) (by omega) ts4⟩)
            · have b10 : ¬ v4.toInt = (0 : Int32).toInt := fun z9 => c10 (i_eq.mpr z9)
              exact absurd b10 (by omega)
      have ex0 := sx1 (by omega)
      have rn : 0 ≤ (fI D H1 11 a0 10).toInt ∧ (fI D H1 11 a0 10).toInt ≤ 400 := S1.1.rng ga0 rfl (by decide) rfl
      exact Lp9 402 c1 H1 L1 ls S1 (ex0.at (by omega) rfl) (by omega) ts1 (con_in (atm_on 5) hT y1) tk1  (by omega) (lv_sub hl [0] rfl)
    · have b2 : v1.toInt = (0 : Int32).toInt := i_eq.mp c2
      exact absurd b2 (by omega)
  · skip
    have k_0 : (0 : Int32).toInt = 0 := by decide
    refine lv_if_ne (tgt := 9) hx hb dX12_readCond_4 (by decide) (fun c11 => ?_) (fun c11 => ?_)
    · have b11 : ¬ v1.toInt = (0 : Int32).toInt := fun z9 => c11 (i_eq.mpr z9)
      exact absurd b11 (by omega)
    · have b11 : v1.toInt = (0 : Int32).toInt := i_eq.mp c11
      refine lv_iconst (v := 0) hx hb dX12_readCond_7 (by decide) ?_
      exact retE_z hQ C S1 hr dX12_readCond_8 (z01 (by omega) (by omega)) (⟨⟨by omega, fun h9 => absurd h9 (by decide), fun h9 => absurd h9 (by decide), tk1⟩, RR.no (con_no (atm_on 5) hT y1) (by omega) wr1⟩)

set_option maxRecDepth 100000 in
set_option maxHeartbeats 4000000 in
theorem c_X12_readAtom_d0 (l : Launch) (D : DD) (G : Nat → Nat) (a0 : Nat) (T : Tx) (b : Nat) (ga0 : G a0 = 30) : CE l D G yX12_readAtom cX12_readAtom 2 (some .boolean) 25 [.ref a0] (fun H => ((fI D H 11 a0 13).toInt = 0 ∧ (fI D H 11 a0 16).toInt + 3 ≤ (fI D H 11 a0 10).toInt) ∧ (RB D H a0 T b)) [(30, 10), (30, 12), (30, 16), (31, 0), (30, 13)] (xI (fun H r H1 => ((0 ≤ r.toInt ∧ r.toInt ≤ 1) ∧ (r.toInt = 1 → (fI D H1 11 a0 16).toInt - (fI D H 11 a0 16).toInt ≤ (fI D H1 11 a0 10).toInt - (fI D H 11 a0 10).toInt ∧ (fI D H1 11 a0 13).toInt = (fI D H 11 a0 13).toInt ∧ (fI D H 11 a0 10).toInt ≤ (fI D H1 11 a0 10).toInt) ∧ (r.toInt = 1 → Ex (Cs D H1 a0) (fI D H 11 a0 16).toInt.toNat (fI D H1 11 a0 16).toInt.toNat) ∧ Lq D H H1 a0) ∧ (RR D H1 a0 T (atm T 6 b) r))) := by
  refine enter (by decide) (Nat.le_of_ble_eq_true rfl) ?_
  intro p e s m args below meth c ls Q hA hQ C hr hO hpre hl
  have hx := C.1
  have hb := C.2.1
  have S : Sd D G [(30, 10), (30, 12), (30, 16), (31, 0), (30, 13)] s.heap s.heap [] := Sd.start hO
  have hl : lv_has ls 2 [(0, .ref a0)] := hl
  have rs0 : 0 ≤ (fI D s.heap 11 a0 16).toInt ∧ (fI D s.heap 11 a0 16).toInt ≤ 400 := hO.rng ga0 rfl (by decide) rfl
  have rp0 : 0 ≤ (fI D s.heap 11 a0 10).toInt ∧ (fI D s.heap 11 a0 10).toInt ≤ 400 := hO.rng ga0 rfl (by decide) rfl
  obtain ⟨hpre, hf⟩ := hpre
  have ts0 := hf
  have hT : T.2 ≤ 400 := ts0.le hO ga0
  have tk0 : Lq D s.heap s.heap a0 := Lq.refl
  refine lv_aload_n hx hb dX12_readAtom_0 rfl (lv_at hl 0 rfl) ?_
  refine lv_bipush (v := 40) hx hb dX12_readAtom_1 (by decide) ?_
  have k_40 : (40 : Int32).toInt = 40 := by decide
  refine callV_Ei C S (c_X12_sign_f l D G a0 (40 : Int32) 40 T b ga0 (by omega) (by decide)) kV_X12_193 ga0 (⟨trivial, ts0⟩) (by decide +kernel) dX12_readAtom_3 hl.1 rfl rfl (by decide) cd_X12_sign ⟨Nat.le_of_ble_eq_true rfl, Nat.le_of_ble_eq_true rfl, Nat.le_of_ble_eq_true rfl, Nat.le_of_ble_eq_true rfl, Nat.le_of_ble_eq_true rfl⟩ (fun v1 H1 L1 S1 K1 q1 => ?_)
  obtain ⟨q1, fq1⟩ := q1
  have y1_13 : (fI D H1 11 a0 13).toInt = (fI D s.heap 11 a0 13).toInt := congrArg Int32.toInt (K1.fI ga0 rfl (by decide) (by decide +kernel))
  have y1_16 : (fI D H1 11 a0 16).toInt = (fI D s.heap 11 a0 16).toInt := congrArg Int32.toInt (K1.fI ga0 rfl (by decide) (by decide +kernel))
  have lq1 : Lq D s.heap H1 a0 := Lq.keep S.1 ga0 K1 (by decide +kernel) (by decide +kernel) (by decide +kernel)
  have tk1 : Lq D s.heap H1 a0 := tk0.trans lq1
  rcases fq1 with ⟨z1, y1, ts1, wr1⟩ | ⟨z1, y1, ts1, wr1⟩
  · skip
    have k_0 : (0 : Int32).toInt = 0 := by decide
    refine lv_if_eq (tgt := 56) hx hb dX12_readAtom_6 (by decide) (fun c2 => ?_) (fun c2 => ?_)
    · have b2 : v1.toInt = (0 : Int32).toInt := i_eq.mp c2
      exact absurd b2 (by omega)
    · have b2 : ¬ v1.toInt = (0 : Int32).toInt := fun z9 => c2 (i_eq.mpr z9)
      have yn3 : isW T b w_not = false := isS_nW y1
      refine lv_aload_n hx hb dX12_readAtom_9 rfl (lv_at hl 0 rfl) ?_
      have dd : (fI D H1 11 a0 13).toInt = 0 := by omega
      refine q_gi (T := TX12) C S1.1 ga0 13 kF_X12_197 dX12_readAtom_10 rfl rfl (by decide) rfl (by decide) rfl ?_
      have r4 : 0 ≤ (fI D H1 11 a0 13).toInt ∧ (fI D H1 11 a0 13).toInt ≤ 6 := S1.1.rng ga0 rfl (by decide) rfl
      refine lv_bipush (v := 6) hx hb dX12_readAtom_13 (by decide) ?_
      have k_6 : (6 : Int32).toInt = 6 := by decide
      refine lv_icmp_ne (tgt := 20) hx hb dX12_readAtom_15 (by decide) (fun c5 => ?_) (fun c5 => ?_)
      · have b5 : ¬ (fI D H1 11 a0 13).toInt = (6 : Int32).toInt := fun z9 => c5 (i_eq.mpr z9)
        refine lv_aload_n hx hb dX12_readAtom_20 rfl (lv_at hl 0 rfl) ?_
        refine lv_dup hx hb dX12_readAtom_21 rfl ?_
        refine q_gi (T := TX12) C S1.1 ga0 13 kF_X12_197 dX12_readAtom_22 rfl rfl (by decide) rfl (by decide) rfl ?_
        refine lv_iconst (v := 1) hx hb dX12_readAtom_25 (by decide) ?_
        have k_1 : (1 : Int32).toInt = 1 := by decide
        refine lv_iadd hx hb dX12_readAtom_26 ?_
        refine lv_topi (fun v6 ev6 => ?_)
        have f7 : v6.toInt = (fI D H1 11 a0 13).toInt + (1 : Int32).toInt := by rw [ev6]; exact i_add (by omega) (by omega)
        refine q_put (T := TX12) C S1 ga0 13 kF_X12_197 dX12_readAtom_27 rfl rfl (by decide) (by decide) rfl rfl rfl rfl rfl (vok_i rfl (by omega) (by omega)) (by decide +kernel) (fun H8 L8 S8 P8 => ?_)
        have y8_10 : (fI D H8 11 a0 10).toInt = (fI D H1 11 a0 10).toInt := congrArg Int32.toInt (Pt.o P8 (by decide) (by decide))
        have y8_12 : (fI D H8 11 a0 12).toInt = (fI D H1 11 a0 12).toInt := congrArg Int32.toInt (Pt.o P8 (by decide) (by decide))
        have y8_13 : (fI D H8 11 a0 13).toInt = v6.toInt := congrArg Int32.toInt (Pt.i P8)
        have y8_16 : (fI D H8 11 a0 16).toInt = (fI D H1 11 a0 16).toInt := congrArg Int32.toInt (Pt.o P8 (by decide) (by decide))
        have lq8 : Lq D H1 H8 a0 := Lq.put S1.1 ga0 P8 (by decide) (by decide)
        have tk8 : Lq D s.heap H8 a0 := tk1.trans lq8
        have rb8 := ts1.put S1.1 ga0 P8 (by decide) (by decide) (by decide)
        have bg8 : (fI D H8 11 a0 12).toInt = ((b : Nat) : Int) := by rw [Pt.o P8 (by decide) (by decide)]; exact wr1
        refine lv_aload_n hx hb dX12_readAtom_30 rfl (lv_at hl 0 rfl) ?_
        have rs9 : 0 ≤ (fI D H8 11 a0 16).toInt ∧ (fI D H8 11 a0 16).toInt ≤ 400 := S8.1.rng ga0 rfl (by decide) rfl
        have rp9 : 0 ≤ (fI D H8 11 a0 10).toInt ∧ (fI D H8 11 a0 10).toInt ≤ 400 := S8.1.rng ga0 rfl (by decide) rfl
        refine callV_Ei C S8 (c_X12_readCond_d1 l D G a0 T (nx T b) ga0) kV_X12_200 ga0 (⟨⟨by omega, by omega⟩, rb8⟩) (by decide +kernel) dX12_readAtom_31 hl.1 rfl rfl (by decide) cd_X12_readCond ⟨Nat.le_of_ble_eq_true rfl, Nat.le_of_ble_eq_true rfl, Nat.le_of_ble_eq_true rfl, Nat.le_of_ble_eq_true rfl, Nat.le_of_ble_eq_true rfl⟩ (fun v9 H9 L9 S9 K9 q9 => ?_)
        obtain ⟨q9, fq9⟩ := q9
        obtain ⟨q9, sa9, sx9, tq9⟩ := q9
        have lq9 : Lq D H8 H9 a0 := tq9
        have tk9 : Lq D s.heap H9 a0 := tk8.trans lq9
        rcases fq9 with ⟨c9, y9, z9, ts9⟩ | ⟨e9, y9, z9, wr9⟩
        · skip
          refine lv_if_ne (tgt := 39) hx hb dX12_readAtom_34 (by decide) (fun c10 => ?_) (fun c10 => ?_)
          · have b10 : ¬ v9.toInt = (0 : Int32).toInt := fun z9 => c10 (i_eq.mpr z9)
            refine lv_aload_n hx hb dX12_readAtom_39 rfl (lv_at hl 0 rfl) ?_
            refine lv_dup hx hb dX12_readAtom_40 rfl ?_
            refine q_gi (T := TX12) C S9.1 ga0 13 kF_X12_197 dX12_readAtom_41 rfl rfl (by decide) rfl (by decide) rfl ?_
            have r11 : 0 ≤ (fI D H9 11 a0 13).toInt ∧ (fI D H9 11 a0 13).toInt ≤ 6 := S9.1.rng ga0 rfl (by decide) rfl
            refine lv_iconst (v := 1) hx hb dX12_readAtom_44 (by decide) ?_
            refine lv_isub hx hb dX12_readAtom_45 ?_
            refine lv_topi (fun v12 ev12 => ?_)
            have f13 : v12.toInt = (fI D H9 11 a0 13).toInt - (1 : Int32).toInt := by rw [ev12]; exact i_sub (by omega) (by omega)
            refine q_put (T := TX12) C S9 ga0 13 kF_X12_197 dX12_readAtom_46 rfl rfl (by decide) (by decide) rfl rfl rfl rfl rfl (vok_i rfl (by omega) (by omega)) (by decide +kernel) (fun H14 L14 S14 P14 => ?_)
            have y14_10 : (fI D H14 11 a0 10).toInt = (fI D H9 11 a0 10).toInt := congrArg Int32.toInt (Pt.o P14 (by decide) (by decide))
            have y14_12 : (fI D H14 11 a0 12).toInt = (fI D H9 11 a0 12).toInt := congrArg Int32.toInt (Pt.o P14 (by decide) (by decide))
            have y14_13 : (fI D H14 11 a0 13).toInt = v12.toInt := congrArg Int32.toInt (Pt.i P14)
            have y14_16 : (fI D H14 11 a0 16).toInt = (fI D H9 11 a0 16).toInt := congrArg Int32.toInt (Pt.o P14 (by decide) (by decide))
            have lq14 : Lq D H9 H14 a0 := Lq.put S9.1 ga0 P14 (by decide) (by decide)
            have tk14 : Lq D s.heap H14 a0 := tk9.trans lq14
            have rb14 := ts9.put S9.1 ga0 P14 (by decide) (by decide) (by decide)
            have rs9 : 0 ≤ (fI D H14 11 a0 16).toInt ∧ (fI D H14 11 a0 16).toInt ≤ 400 := S14.1.rng ga0 rfl (by decide) rfl
            have rp9 : 0 ≤ (fI D H14 11 a0 10).toInt ∧ (fI D H14 11 a0 10).toInt ≤ 400 := S14.1.rng ga0 rfl (by decide) rfl
            refine lv_aload_n hx hb dX12_readAtom_49 rfl (lv_at hl 0 rfl) ?_
            refine lv_bipush (v := 41) hx hb dX12_readAtom_50 (by decide) ?_
            have k_41 : (41 : Int32).toInt = 41 := by decide
            refine callV_Ei C S14 (c_X12_sign_f l D G a0 (41 : Int32) 41 T c9 ga0 (by omega) (by decide)) kV_X12_193 ga0 (⟨trivial, rb14⟩) (by decide +kernel) dX12_readAtom_52 hl.1 rfl rfl (by decide) cd_X12_sign ⟨Nat.le_of_ble_eq_true rfl, Nat.le_of_ble_eq_true rfl, Nat.le_of_ble_eq_true rfl, Nat.le_of_ble_eq_true rfl, Nat.le_of_ble_eq_true rfl⟩ (fun v15 H15 L15 S15 K15 q15 => ?_)
            obtain ⟨q15, fq15⟩ := q15
            have y15_13 : (fI D H15 11 a0 13).toInt = (fI D H14 11 a0 13).toInt := congrArg Int32.toInt (K15.fI ga0 rfl (by decide) (by decide +kernel))
            have y15_16 : (fI D H15 11 a0 16).toInt = (fI D H14 11 a0 16).toInt := congrArg Int32.toInt (K15.fI ga0 rfl (by decide) (by decide +kernel))
            have lq15 : Lq D H14 H15 a0 := Lq.keep S14.1 ga0 K15 (by decide +kernel) (by decide +kernel) (by decide +kernel)
            have tk15 : Lq D s.heap H15 a0 := tk14.trans lq15
            rcases fq15 with ⟨z15, y15, ts15, wr15⟩ | ⟨z15, y15, ts15, wr15⟩
            · skip
              exact retE_z hQ C S15 hr dX12_readAtom_55 (z01 (by omega) (by omega)) (⟨⟨by omega, fun _ => by omega, fun _ => ((lq14.trans lq15).ex (sx9 (by omega)) (by omega)).at (by omega) (by omega), tk15⟩, RR.ok (by rw [atm_s]; simp [clo, tkS, tlF, cmpF, y1, yn3, y9, y15]) (by omega) ts15⟩)
            · skip
              exact retE_z hQ C S15 hr dX12_readAtom_55 (z01 (by omega) (by omega)) (⟨⟨by omega, fun _ => by omega, fun _ => ((lq14.trans lq15).ex (sx9 (by omega)) (by omega)).at (by omega) (by omega), tk15⟩, RR.no (by rw [atm_s]; simp [clo, tkS, tlF, cmpF, y1, yn3, y9, y15]) (by omega) wr15⟩)
          · have b10 : v9.toInt = (0 : Int32).toInt := i_eq.mp c10
            exact absurd b10 (by omega)
        · skip
          refine lv_if_ne (tgt := 39) hx hb dX12_readAtom_34 (by decide) (fun c16 => ?_) (fun c16 => ?_)
          · have b16 : ¬ v9.toInt = (0 : Int32).toInt := fun z9 => c16 (i_eq.mpr z9)
            exact absurd b16 (by omega)
          · have b16 : v9.toInt = (0 : Int32).toInt := i_eq.mp c16
            refine lv_iconst (v := 0) hx hb dX12_readAtom_37 (by decide) ?_
            exact retE_z hQ C S9 hr dX12_readAtom_38 (z01 (by omega) (by omega)) (⟨⟨by omega, fun h9 => absurd h9 (by decide), fun h9 => absurd h9 (by decide), tk9⟩, RR.no (by rw [atm_s]; simp [clo, tkS, tlF, cmpF, y1, yn3, y9]) (by omega) wr9⟩)
      · have b5 : (fI D H1 11 a0 13).toInt = (6 : Int32).toInt := i_eq.mp c5
        exact absurd b5 (by omega)
  · skip
    have k_0 : (0 : Int32).toInt = 0 := by decide
    refine lv_if_eq (tgt := 56) hx hb dX12_readAtom_6 (by decide) (fun c17 => ?_) (fun c17 => ?_)
    · have b17 : v1.toInt = (0 : Int32).toInt := i_eq.mp c17
      refine lv_aload_n hx hb dX12_readAtom_56 rfl (lv_at hl 0 rfl) ?_
      refine q_lds C ks_X12_203 dX12_readAtom_57 (fun a18 ha18 wa18 => ?_)
      refine callV_Ei C S1 (c_X12_passes_f l D G a0 a18 3 w_not T b ga0 ha18 (Wc.of wa18 kw_not) (by decide)) kV_X12_120 ga0 (⟨trivial, ts1⟩) (by decide +kernel) dX12_readAtom_59 hl.1 rfl rfl (by decide) cd_X12_passes ⟨Nat.le_of_ble_eq_true rfl, Nat.le_of_ble_eq_true rfl, Nat.le_of_ble_eq_true rfl, Nat.le_of_ble_eq_true rfl, Nat.le_of_ble_eq_true rfl⟩ (fun v19 H19 L19 S19 K19 q19 => ?_)
      obtain ⟨q19, fq19⟩ := q19
      have y19_13 : (fI D H19 11 a0 13).toInt = (fI D H1 11 a0 13).toInt := congrArg Int32.toInt (K19.fI ga0 rfl (by decide) (by decide +kernel))
      have y19_16 : (fI D H19 11 a0 16).toInt = (fI D H1 11 a0 16).toInt := congrArg Int32.toInt (K19.fI ga0 rfl (by decide) (by decide +kernel))
      have lq19 : Lq D H1 H19 a0 := Lq.keep S1.1 ga0 K19 (by decide +kernel) (by decide +kernel) (by decide +kernel)
      have tk19 : Lq D s.heap H19 a0 := tk1.trans lq19
      rcases fq19 with ⟨z19, y19, ts19, wr19⟩ | ⟨z19, y19, ts19, wr19⟩
      · skip
        refine lv_if_eq (tgt := 114) hx hb dX12_readAtom_62 (by decide) (fun c20 => ?_) (fun c20 => ?_)
        · have b20 : v19.toInt = (0 : Int32).toInt := i_eq.mp c20
          exact absurd b20 (by omega)
        · have b20 : ¬ v19.toInt = (0 : Int32).toInt := fun z9 => c20 (i_eq.mpr z9)
          refine lv_aload_n hx hb dX12_readAtom_65 rfl (lv_at hl 0 rfl) ?_
          have dd : (fI D H19 11 a0 13).toInt = 0 := by omega
          refine q_gi (T := TX12) C S19.1 ga0 13 kF_X12_197 dX12_readAtom_66 rfl rfl (by decide) rfl (by decide) rfl ?_
          have r21 : 0 ≤ (fI D H19 11 a0 13).toInt ∧ (fI D H19 11 a0 13).toInt ≤ 6 := S19.1.rng ga0 rfl (by decide) rfl
          refine lv_bipush (v := 6) hx hb dX12_readAtom_69 (by decide) ?_
          have k_6 : (6 : Int32).toInt = 6 := by decide
          refine lv_icmp_ne (tgt := 76) hx hb dX12_readAtom_71 (by decide) (fun c22 => ?_) (fun c22 => ?_)
          · have b22 : ¬ (fI D H19 11 a0 13).toInt = (6 : Int32).toInt := fun z9 => c22 (i_eq.mpr z9)
            refine lv_aload_n hx hb dX12_readAtom_76 rfl (lv_at hl 0 rfl) ?_
            refine lv_dup hx hb dX12_readAtom_77 rfl ?_
            refine q_gi (T := TX12) C S19.1 ga0 13 kF_X12_197 dX12_readAtom_78 rfl rfl (by decide) rfl (by decide) rfl ?_
            refine lv_iconst (v := 1) hx hb dX12_readAtom_81 (by decide) ?_
            have k_1 : (1 : Int32).toInt = 1 := by decide
            refine lv_iadd hx hb dX12_readAtom_82 ?_
            refine lv_topi (fun v23 ev23 => ?_)
            have f24 : v23.toInt = (fI D H19 11 a0 13).toInt + (1 : Int32).toInt := by rw [ev23]; exact i_add (by omega) (by omega)
            refine q_put (T := TX12) C S19 ga0 13 kF_X12_197 dX12_readAtom_83 rfl rfl (by decide) (by decide) rfl rfl rfl rfl rfl (vok_i rfl (by omega) (by omega)) (by decide +kernel) (fun H25 L25 S25 P25 => ?_)
            have y25_10 : (fI D H25 11 a0 10).toInt = (fI D H19 11 a0 10).toInt := congrArg Int32.toInt (Pt.o P25 (by decide) (by decide))
            have y25_12 : (fI D H25 11 a0 12).toInt = (fI D H19 11 a0 12).toInt := congrArg Int32.toInt (Pt.o P25 (by decide) (by decide))
            have y25_13 : (fI D H25 11 a0 13).toInt = v23.toInt := congrArg Int32.toInt (Pt.i P25)
            have y25_16 : (fI D H25 11 a0 16).toInt = (fI D H19 11 a0 16).toInt := congrArg Int32.toInt (Pt.o P25 (by decide) (by decide))
            have lq25 : Lq D H19 H25 a0 := Lq.put S19.1 ga0 P25 (by decide) (by decide)
            have tk25 : Lq D s.heap H25 a0 := tk19.trans lq25
            have rb25 := ts19.put S19.1 ga0 P25 (by decide) (by decide) (by decide)
            have bg25 : (fI D H25 11 a0 12).toInt = ((b : Nat) : Int) := by rw [Pt.o P25 (by decide) (by decide)]; exact wr19
            refine lv_aload_n hx hb dX12_readAtom_86 rfl (lv_at hl 0 rfl) ?_
            have rs9 : 0 ≤ (fI D H25 11 a0 16).toInt ∧ (fI D H25 11 a0 16).toInt ≤ 400 := S25.1.rng ga0 rfl (by decide) rfl
            have rp9 : 0 ≤ (fI D H25 11 a0 10).toInt ∧ (fI D H25 11 a0 10).toInt ≤ 400 := S25.1.rng ga0 rfl (by decide) rfl
            refine callV_Ei C S25 (c_X12_readAtom_d1 l D G a0 T (nx T b) ga0) kV_X12_205 ga0 (⟨⟨by omega, by omega⟩, rb25⟩) (by decide +kernel) dX12_readAtom_87 hl.1 rfl rfl (by decide) cd_X12_readAtom ⟨Nat.le_of_ble_eq_true rfl, Nat.le_of_ble_eq_true rfl, Nat.le_of_ble_eq_true rfl, Nat.le_of_ble_eq_true rfl, Nat.le_of_ble_eq_true rfl⟩ (fun v26 H26 L26 S26 K26 q26 => ?_)
            obtain ⟨q26, fq26⟩ := q26
            obtain ⟨q26, sa26, sx26, tq26⟩ := q26
            have lq26 : Lq D H25 H26 a0 := tq26
            have tk26 : Lq D s.heap H26 a0 := tk25.trans lq26
            rcases fq26 with ⟨c26, y26, z26, ts26⟩ | ⟨e26, y26, z26, wr26⟩
            · skip
              refine lv_if_ne (tgt := 95) hx hb dX12_readAtom_90 (by decide) (fun c27 => ?_) (fun c27 => ?_)
              · have b27 : ¬ v26.toInt = (0 : Int32).toInt := fun z9 => c27 (i_eq.mpr z9)
                refine lv_aload_n hx hb dX12_readAtom_95 rfl (lv_at hl 0 rfl) ?_
                refine lv_dup hx hb dX12_readAtom_96 rfl ?_
                refine q_gi (T := TX12) C S26.1 ga0 13 kF_X12_197 dX12_readAtom_97 rfl rfl (by decide) rfl (by decide) rfl ?_
                have r28 : 0 ≤ (fI D H26 11 a0 13).toInt ∧ (fI D H26 11 a0 13).toInt ≤ 6 := S26.1.rng ga0 rfl (by decide) rfl
                refine lv_iconst (v := 1) hx hb dX12_readAtom_100 (by decide) ?_
                refine lv_isub hx hb dX12_readAtom_101 ?_
                refine lv_topi (fun v29 ev29 => ?_)
                have f30 : v29.toInt = (fI D H26 11 a0 13).toInt - (1 : Int32).toInt := by rw [ev29]; exact i_sub (by omega) (by omega)
                refine q_put (T := TX12) C S26 ga0 13 kF_X12_197 dX12_readAtom_102 rfl rfl (by decide) (by decide) rfl rfl rfl rfl rfl (vok_i rfl (by omega) (by omega)) (by decide +kernel) (fun H31 L31 S31 P31 => ?_)
                have y31_10 : (fI D H31 11 a0 10).toInt = (fI D H26 11 a0 10).toInt := congrArg Int32.toInt (Pt.o P31 (by decide) (by decide))
                have y31_12 : (fI D H31 11 a0 12).toInt = (fI D H26 11 a0 12).toInt := congrArg Int32.toInt (Pt.o P31 (by decide) (by decide))
                have y31_13 : (fI D H31 11 a0 13).toInt = v29.toInt := congrArg Int32.toInt (Pt.i P31)
                have y31_16 : (fI D H31 11 a0 16).toInt = (fI D H26 11 a0 16).toInt := congrArg Int32.toInt (Pt.o P31 (by decide) (by decide))
                have lq31 : Lq D H26 H31 a0 := Lq.put S26.1 ga0 P31 (by decide) (by decide)
                have tk31 : Lq D s.heap H31 a0 := tk26.trans lq31
                have rb31 := ts26.put S26.1 ga0 P31 (by decide) (by decide) (by decide)
                refine lv_aload_n hx hb dX12_readAtom_105 rfl (lv_at hl 0 rfl) ?_
                refine lv_bipush (v := 15) hx hb dX12_readAtom_106 (by decide) ?_
                refine lv_iconst (v := 0) hx hb dX12_readAtom_108 (by decide) ?_
                have rs9 : 0 ≤ (fI D H31 11 a0 16).toInt ∧ (fI D H31 11 a0 16).toInt ≤ 400 := S31.1.rng ga0 rfl (by decide) rfl
                have rp9 : 0 ≤ (fI D H31 11 a0 10).toInt ∧ (fI D H31 11 a0 10).toInt ≤ 400 := S31.1.rng ga0 rfl (by decide) rfl
                have k_15 : (15 : Int32).toInt = 15 := by decide
                refine callV_Ev C S31 (c_X12_emits l D G a0 (15 : Int32) (0 : Int32) ga0) kV_X12_185 ga0 (by omega) (by decide +kernel) dX12_readAtom_109 hl.1 rfl rfl (by decide) cd_X12_emits ⟨Nat.le_of_ble_eq_true rfl, Nat.le_of_ble_eq_true rfl, Nat.le_of_ble_eq_true rfl, Nat.le_of_ble_eq_true rfl, Nat.le_of_ble_eq_true rfl⟩ (fun H32 L32 S32 K32 q32 => ?_)
                obtain ⟨qa32, qb32, tq32⟩ := q32
                have y32_10 : (fI D H32 11 a0 10).toInt = (fI D H31 11 a0 10).toInt := congrArg Int32.toInt (K32.fI ga0 rfl (by decide) (by decide +kernel))
                have y32_12 : (fI D H32 11 a0 12).toInt = (fI D H31 11 a0 12).toInt := congrArg Int32.toInt (K32.fI ga0 rfl (by decide) (by decide +kernel))
                have y32_13 : (fI D H32 11 a0 13).toInt = (fI D H31 11 a0 13).toInt := congrArg Int32.toInt (K32.fI ga0 rfl (by decide) (by decide +kernel))
                have lq32 : Lq D H31 H32 a0 := tq32
                have tk32 : Lq D s.heap H32 a0 := tk31.trans lq32
                have rb32 := rb31.keep S31.1 ga0 K32 (by decide +kernel)
                refine lv_iconst (v := 1) hx hb dX12_readAtom_112 (by decide) ?_
                exact retE_z hQ C S32 hr dX12_readAtom_113 (z01 (by omega) (by omega)) (⟨⟨by omega, fun _ => by omega, fun _ => (Ex.un (((lq31.trans lq32).ex (sx26 (by omega)) (by omega)).at (j' := (fI D H31 11 a0 16).toInt.toNat) rfl (by omega)) (by rw [qb32]; decide) rfl).at (by omega) (by omega), tk32⟩, RR.ok (by rw [atm_s]; simp [clo, tkS, tlF, cmpF, y1, y19, y26]) (by omega) rb32⟩)
              · have b27 : v26.toInt = (0 : Int32).toInt := i_eq.mp c27
                exact absurd b27 (by omega)
            · skip
              refine lv_if_ne (tgt := 95) hx hb dX12_readAtom_90 (by decide) (fun c33 => ?_) (fun c33 => ?_)
              · have b33 : ¬ v26.toInt = (0 : Int32).toInt := fun z9 => c33 (i_eq.mpr z9)
                exact absurd b33 (by omega)
              · have b33 : v26.toInt = (0 : Int32).toInt := i_eq.mp c33
                refine lv_iconst (v := 0) hx hb dX12_readAtom_93 (by decide) ?_
                exact retE_z hQ C S26 hr dX12_readAtom_94 (z01 (by omega) (by omega)) (⟨⟨by omega, fun h9 => absurd h9 (by decide), fun h9 => absurd h9 (by decide), tk26⟩, RR.no (by rw [atm_s]; simp [clo, tkS, tlF, cmpF, y1, y19, y26]) (by omega) wr26⟩)
          · have b22 : (fI D H19 11 a0 13).toInt = (6 : Int32).toInt := i_eq.mp c22
            exact absurd b22 (by omega)
      · skip
        refine lv_if_eq (tgt := 114) hx hb dX12_readAtom_62 (by decide) (fun c34 => ?_) (fun c34 => ?_)
        · have b34 : v19.toInt = (0 : Int32).toInt := i_eq.mp c34
          refine lv_aload_n hx hb dX12_readAtom_114 rfl (lv_at hl 0 rfl) ?_
          have rs9 : 0 ≤ (fI D H19 11 a0 16).toInt ∧ (fI D H19 11 a0 16).toInt ≤ 400 := S19.1.rng ga0 rfl (by decide) rfl
          have rp9 : 0 ≤ (fI D H19 11 a0 10).toInt ∧ (fI D H19 11 a0 10).toInt ≤ 400 := S19.1.rng ga0 rfl (by decide) rfl
          refine callV_Ei C S19 (c_X12_readTag l D G a0 T b ga0) kV_X12_208 ga0 (⟨by omega, ts19⟩) (by decide +kernel) dX12_readAtom_115 hl.1 rfl rfl (by decide) cd_X12_readTag ⟨Nat.le_of_ble_eq_true rfl, Nat.le_of_ble_eq_true rfl, Nat.le_of_ble_eq_true rfl, Nat.le_of_ble_eq_true rfl, Nat.le_of_ble_eq_true rfl⟩ (fun v35 H35 L35 S35 K35 q35 => ?_)
          obtain ⟨q35, fq35⟩ := q35
          obtain ⟨q35, sa35, sx35, tq35, sf35⟩ := q35
          have y35_13 : (fI D H35 11 a0 13).toInt = (fI D H19 11 a0 13).toInt := congrArg Int32.toInt (K35.fI ga0 rfl (by decide) (by decide +kernel))
          have lq35 : Lq D H19 H35 a0 := tq35
          have tk35 : Lq D s.heap H35 a0 := tk19.trans lq35
          rcases fq35 with ⟨z35, y35, ts35, wr35⟩ | ⟨z35, y35, ts35, wr35⟩
          · skip
            refine lv_if_eq (tgt := 123) hx hb dX12_readAtom_118 (by decide) (fun c36 => ?_) (fun c36 => ?_)
            · have b36 : v35.toInt = (0 : Int32).toInt := i_eq.mp c36
              exact absurd b36 (by omega)
            · have b36 : ¬ v35.toInt = (0 : Int32).toInt := fun z9 => c36 (i_eq.mpr z9)
              have yt37 : ¬ tru T b = -1 := tag_t y35
              refine lv_iconst (v := 1) hx hb dX12_readAtom_121 (by decide) ?_
              have k_1 : (1 : Int32).toInt = 1 := by decide
              exact retE_z hQ C S35 hr dX12_readAtom_122 (z01 (by omega) (by omega)) (⟨⟨by omega, fun _ => by omega, fun _ => (sx35 (by omega)).at (by omega) rfl, tk35⟩, RR.ok (by rw [atm_s]; simp [clo, tkS, tlF, cmpF, y1, y19, y35, yt37]) (by omega) ts35⟩)
          · skip
            refine lv_if_eq (tgt := 123) hx hb dX12_readAtom_118 (by decide) (fun c38 => ?_) (fun c38 => ?_)
            · have b38 : v35.toInt = (0 : Int32).toInt := i_eq.mp c38
              have yt39 : tru T b = -1 := tag_f y35
              refine lv_aload_n hx hb dX12_readAtom_123 rfl (lv_at hl 0 rfl) ?_
              have rs9 : 0 ≤ (fI D H35 11 a0 16).toInt ∧ (fI D H35 11 a0 16).toInt ≤ 400 := S35.1.rng ga0 rfl (by decide) rfl
              have rp9 : 0 ≤ (fI D H35 11 a0 10).toInt ∧ (fI D H35 11 a0 10).toInt ≤ 400 := S35.1.rng ga0 rfl (by decide) rfl
              refine callV_Ei C S35 (c_X12_readSum l D G a0 T b ga0) kV_X12_211 ga0 (⟨by omega, ts35⟩) (by decide +kernel) dX12_readAtom_124 hl.1 rfl rfl (by decide) cd_X12_readSum ⟨Nat.le_of_ble_eq_true rfl, Nat.le_of_ble_eq_true rfl, Nat.le_of_ble_eq_true rfl, Nat.le_of_ble_eq_true rfl, Nat.le_of_ble_eq_true rfl⟩ (fun v40 H40 L40 S40 K40 q40 => ?_)
              obtain ⟨q40, fq40⟩ := q40
              obtain ⟨q40, sa40, sx40, tq40⟩ := q40
              have y40_13 : (fI D H40 11 a0 13).toInt = (fI D H35 11 a0 13).toInt := congrArg Int32.toInt (K40.fI ga0 rfl (by decide) (by decide +kernel))
              have lq40 : Lq D H35 H40 a0 := tq40
              have tk40 : Lq D s.heap H40 a0 := tk35.trans lq40
              rcases fq40 with ⟨c40, y40, z40, ts40⟩ | ⟨e40, y40, z40, wr40⟩
              · skip
                refine lv_if_ne (tgt := 132) hx hb dX12_readAtom_127 (by decide) (fun c41 => ?_) (fun c41 => ?_)
                · have b41 : ¬ v40.toInt = (0 : Int32).toInt := fun z9 => c41 (i_eq.mpr z9)
                  refine lv_aload_n hx hb dX12_readAtom_132 rfl (lv_at hl 0 rfl) ?_
                  refine lv_bipush (v := 60) hx hb dX12_readAtom_133 (by decide) ?_
                  have k_60 : (60 : Int32).toInt = 60 := by decide
                  refine callV_Ei C S40 (c_X12_sign_f l D G a0 (60 : Int32) 60 T c40 ga0 (by omega) (by decide)) kV_X12_193 ga0 (⟨trivial, ts40⟩) (by decide +kernel) dX12_readAtom_135 hl.1 rfl rfl (by decide) cd_X12_sign ⟨Nat.le_of_ble_eq_true rfl, Nat.le_of_ble_eq_true rfl, Nat.le_of_ble_eq_true rfl, Nat.le_of_ble_eq_true rfl, Nat.le_of_ble_eq_true rfl⟩ (fun v42 H42 L42 S42 K42 q42 => ?_)
                  obtain ⟨q42, fq42⟩ := q42
                  have y42_13 : (fI D H42 11 a0 13).toInt = (fI D H40 11 a0 13).toInt := congrArg Int32.toInt (K42.fI ga0 rfl (by decide) (by decide +kernel))
                  have y42_16 : (fI D H42 11 a0 16).toInt = (fI D H40 11 a0 16).toInt := congrArg Int32.toInt (K42.fI ga0 rfl (by decide) (by decide +kernel))
                  have lq42 : Lq D H40 H42 a0 := Lq.keep S40.1 ga0 K42 (by decide +kernel) (by decide +kernel) (by decide +kernel)
                  have tk42 : Lq D s.heap H42 a0 := tk40.trans lq42
                  rcases fq42 with ⟨z42, y42, ts42, wr42⟩ | ⟨z42, y42, ts42, wr42⟩
                  · skip
                    refine lv_istore_n (lv' := [(1, .int v42), (0, .ref a0)]) hx hb dX12_readAtom_138 rfl hl (by decide) rfl (fun ls hl => ?_)
                    refine lv_iload_n hx hb dX12_readAtom_139 rfl (lv_at hl 0 rfl) ?_
                    refine lv_if_ne (tgt := 152) hx hb dX12_readAtom_140 (by decide) (fun c43 => ?_) (fun c43 => ?_)
                    · have b43 : ¬ v42.toInt = (0 : Int32).toInt := fun z9 => c43 (i_eq.mpr z9)
                      refine lv_aload_n hx hb dX12_readAtom_152 rfl (lv_at hl 1 rfl) ?_
                      have rs9 : 0 ≤ (fI D H42 11 a0 16).toInt ∧ (fI D H42 11 a0 16).toInt ≤ 400 := S42.1.rng ga0 rfl (by decide) rfl
                      have rp9 : 0 ≤ (fI D H42 11 a0 10).toInt ∧ (fI D H42 11 a0 10).toInt ≤ 400 := S42.1.rng ga0 rfl (by decide) rfl
                      refine callV_Ei C S42 (c_X12_readSum l D G a0 T (nx T c40) ga0) kV_X12_211 ga0 (⟨by omega, ts42⟩) (by decide +kernel) dX12_readAtom_153 hl.1 rfl rfl (by decide) cd_X12_readSum ⟨Nat.le_of_ble_eq_true rfl, Nat.le_of_ble_eq_true rfl, Nat.le_of_ble_eq_true rfl, Nat.le_of_ble_eq_true rfl, Nat.le_of_ble_eq_true rfl⟩ (fun v44 H44 L44 S44 K44 q44 => ?_)
                      obtain ⟨q44, fq44⟩ := q44
                      obtain ⟨q44, sa44, sx44, tq44⟩ := q44
                      have y44_13 : (fI D H44 11 a0 13).toInt = (fI D H42 11 a0 13).toInt := congrArg Int32.toInt (K44.fI ga0 rfl (by decide) (by decide +kernel))
                      have lq44 : Lq D H42 H44 a0 := tq44
                      have tk44 : Lq D s.heap H44 a0 := tk42.trans lq44
                      rcases fq44 with ⟨c44, y44, z44, ts44⟩ | ⟨e44, y44, z44, wr44⟩
                      · skip
                        refine lv_if_ne (tgt := 161) hx hb dX12_readAtom_156 (by decide) (fun c45 => ?_) (fun c45 => ?_)
                        · have b45 : ¬ v44.toInt = (0 : Int32).toInt := fun z9 => c45 (i_eq.mpr z9)
                          refine lv_aload_n hx hb dX12_readAtom_161 rfl (lv_at hl 1 rfl) ?_
                          refine lv_iload_n hx hb dX12_readAtom_162 rfl (lv_at hl 0 rfl) ?_
                          refine lv_if_eq (tgt := 171) hx hb dX12_readAtom_163 (by decide) (fun c46 => ?_) (fun c46 => ?_)
                          · have b46 : v42.toInt = (0 : Int32).toInt := i_eq.mp c46
                            exact absurd b46 (by omega)
                          · have b46 : ¬ v42.toInt = (0 : Int32).toInt := fun z9 => c46 (i_eq.mpr z9)
                            refine lv_bipush (v := 13) hx hb dX12_readAtom_166 (by decide) ?_
                            refine lv_goto (tgt := 173) hx hb dX12_readAtom_168 (by decide) ?_
                            refine lv_iconst (v := 0) hx hb dX12_readAtom_173 (by decide) ?_
                            have rs9 : 0 ≤ (fI D H44 11 a0 16).toInt ∧ (fI D H44 11 a0 16).toInt ≤ 400 := S44.1.rng ga0 rfl (by decide) rfl
                            have rp9 : 0 ≤ (fI D H44 11 a0 10).toInt ∧ (fI D H44 11 a0 10).toInt ≤ 400 := S44.1.rng ga0 rfl (by decide) rfl
                            have k_13 : (13 : Int32).toInt = 13 := by decide
                            refine callV_Ev C S44 (c_X12_emits l D G a0 (13 : Int32) (0 : Int32) ga0) kV_X12_185 ga0 (by omega) (by decide +kernel) dX12_readAtom_174 hl.1 rfl rfl (by decide) cd_X12_emits ⟨Nat.le_of_ble_eq_true rfl, Nat.le_of_ble_eq_true rfl, Nat.le_of_ble_eq_true rfl, Nat.le_of_ble_eq_true rfl, Nat.le_of_ble_eq_true rfl⟩ (fun H47 L47 S47 K47 q47 => ?_)
                            obtain ⟨qa47, qb47, tq47⟩ := q47
                            have y47_10 : (fI D H47 11 a0 10).toInt = (fI D H44 11 a0 10).toInt := congrArg Int32.toInt (K47.fI ga0 rfl (by decide) (by decide +kernel))
                            have y47_12 : (fI D H47 11 a0 12).toInt = (fI D H44 11 a0 12).toInt := congrArg Int32.toInt (K47.fI ga0 rfl (by decide) (by decide +kernel))
                            have y47_13 : (fI D H47 11 a0 13).toInt = (fI D H44 11 a0 13).toInt := congrArg Int32.toInt (K47.fI ga0 rfl (by decide) (by decide +kernel))
                            have lq47 : Lq D H44 H47 a0 := tq47
                            have tk47 : Lq D s.heap H47 a0 := tk44.trans lq47
                            have rb47 := ts44.keep S44.1 ga0 K47 (by decide +kernel)
                            refine lv_iconst (v := 1) hx hb dX12_readAtom_177 (by decide) ?_
                            have k_1 : (1 : Int32).toInt = 1 := by decide
                            exact retE_z hQ C S47 hr dX12_readAtom_178 (z01 (by omega) (by omega)) (⟨⟨by omega, fun _ => by omega, fun _ => (Ex.bin (((lq42.trans lq44).trans lq47).ex (sx40 (by omega)) (by omega)) ((lq47.ex (sx44 (by omega)) (by omega)).at (i' := (fI D H40 11 a0 16).toInt.toNat) (by omega) rfl) (by rw [qb47]; decide) rfl).at (by omega) (by omega), tk47⟩, RR.ok (by rw [atm_s]; simp [clo, tkS, tlF, cmpF, y1, y19, y35, yt39, y40, y42, y44]) (by omega) rb47⟩)
                        · have b45 : v44.toInt = (0 : Int32).toInt := i_eq.mp c45
                          exact absurd b45 (by omega)
                      · skip
                        refine lv_if_ne (tgt := 161) hx hb dX12_readAtom_156 (by decide) (fun c48 => ?_) (fun c48 => ?_)
                        · have b48 : ¬ v44.toInt = (0 : Int32).toInt := fun z9 => c48 (i_eq.mpr z9)
                          exact absurd b48 (by omega)
                        · have b48 : v44.toInt = (0 : Int32).toInt := i_eq.mp c48
                          refine lv_iconst (v := 0) hx hb dX12_readAtom_159 (by decide) ?_
                          exact retE_z hQ C S44 hr dX12_readAtom_160 (z01 (by omega) (by omega)) (⟨⟨by omega, fun h9 => absurd h9 (by decide), fun h9 => absurd h9 (by decide), tk44⟩, RR.no (by rw [atm_s]; simp [clo, tkS, tlF, cmpF, y1, y19, y35, yt39, y40, y42, y44]) (by omega) wr44⟩)
                    · have b43 : v42.toInt = (0 : Int32).toInt := i_eq.mp c43
                      exact absurd b43 (by omega)
                  · skip
                    refine lv_istore_n (lv' := [(1, .int v42), (0, .ref a0)]) hx hb dX12_readAtom_138 rfl hl (by decide) rfl (fun ls hl => ?_)
                    refine lv_iload_n hx hb dX12_readAtom_139 rfl (lv_at hl 0 rfl) ?_
                    refine lv_if_ne (tgt := 152) hx hb dX12_readAtom_140 (by decide) (fun c49 => ?_) (fun c49 => ?_)
                    · have b49 : ¬ v42.toInt = (0 : Int32).toInt := fun z9 => c49 (i_eq.mpr z9)
                      exact absurd b49 (by omega)
                    · have b49 : v42.toInt = (0 : Int32).toInt := i_eq.mp c49
                      refine lv_aload_n hx hb dX12_readAtom_143 rfl (lv_at hl 1 rfl) ?_
                      refine lv_bipush (v := 62) hx hb dX12_readAtom_144 (by decide) ?_
                      have k_62 : (62 : Int32).toInt = 62 := by decide
                      refine callV_Ei C S42 (c_X12_sign_f l D G a0 (62 : Int32) 62 T c40 ga0 (by omega) (by decide)) kV_X12_193 ga0 (⟨trivial, ts42⟩) (by decide +kernel) dX12_readAtom_146 hl.1 rfl rfl (by decide) cd_X12_sign ⟨Nat.le_of_ble_eq_true rfl, Nat.le_of_ble_eq_true rfl, Nat.le_of_ble_eq_true rfl, Nat.le_of_ble_eq_true rfl, Nat.le_of_ble_eq_true rfl⟩ (fun v50 H50 L50 S50 K50 q50 => ?_)
                      obtain ⟨q50, fq50⟩ := q50
                      have y50_13 : (fI D H50 11 a0 13).toInt = (fI D H42 11 a0 13).toInt := congrArg Int32.toInt (K50.fI ga0 rfl (by decide) (by decide +kernel))
                      have y50_16 : (fI D H50 11 a0 16).toInt = (fI D H42 11 a0 16).toInt := congrArg Int32.toInt (K50.fI ga0 rfl (by decide) (by decide +kernel))
                      have lq50 : Lq D H42 H50 a0 := Lq.keep S42.1 ga0 K50 (by decide +kernel) (by decide +kernel) (by decide +kernel)
                      have tk50 : Lq D s.heap H50 a0 := tk42.trans lq50
                      rcases fq50 with ⟨z50, y50, ts50, wr50⟩ | ⟨z50, y50, ts50, wr50⟩
                      · skip
                        refine lv_if_eq (tgt := 159) hx hb dX12_readAtom_149 (by decide) (fun c51 => ?_) (fun c51 => ?_)
                        · have b51 : v50.toInt = (0 : Int32).toInt := i_eq.mp c51
                          exact absurd b51 (by omega)
                        · have b51 : ¬ v50.toInt = (0 : Int32).toInt := fun z9 => c51 (i_eq.mpr z9)
                          refine lv_aload_n hx hb dX12_readAtom_152 rfl (lv_at hl 1 rfl) ?_
                          have rs9 : 0 ≤ (fI D H50 11 a0 16).toInt ∧ (fI D H50 11 a0 16).toInt ≤ 400 := S50.1.rng ga0 rfl (by decide) rfl
                          have rp9 : 0 ≤ (fI D H50 11 a0 10).toInt ∧ (fI D H50 11 a0 10).toInt ≤ 400 := S50.1.rng ga0 rfl (by decide) rfl
                          refine callV_Ei C S50 (c_X12_readSum l D G a0 T (nx T c40) ga0) kV_X12_211 ga0 (⟨by omega, ts50⟩) (by decide +kernel) dX12_readAtom_153 hl.1 rfl rfl (by decide) cd_X12_readSum ⟨Nat.le_of_ble_eq_true rfl, Nat.le_of_ble_eq_true rfl, Nat.le_of_ble_eq_true rfl, Nat.le_of_ble_eq_true rfl, Nat.le_of_ble_eq_true rfl⟩ (fun v52 H52 L52 S52 K52 q52 => ?_)
                          obtain ⟨q52, fq52⟩ := q52
                          obtain ⟨q52, sa52, sx52, tq52⟩ := q52
                          have y52_13 : (fI D H52 11 a0 13).toInt = (fI D H50 11 a0 13).toInt := congrArg Int32.toInt (K52.fI ga0 rfl (by decide) (by decide +kernel))
                          have lq52 : Lq D H50 H52 a0 := tq52
                          have tk52 : Lq D s.heap H52 a0 := tk50.trans lq52
                          rcases fq52 with ⟨c52, y52, z52, ts52⟩ | ⟨e52, y52, z52, wr52⟩
                          · skip
                            refine lv_if_ne (tgt := 161) hx hb dX12_readAtom_156 (by decide) (fun c53 => ?_) (fun c53 => ?_)
                            · have b53 : ¬ v52.toInt = (0 : Int32).toInt := fun z9 => c53 (i_eq.mpr z9)
                              refine lv_aload_n hx hb dX12_readAtom_161 rfl (lv_at hl 1 rfl) ?_
                              refine lv_iload_n hx hb dX12_readAtom_162 rfl (lv_at hl 0 rfl) ?_
                              refine lv_if_eq (tgt := 171) hx hb dX12_readAtom_163 (by decide) (fun c54 => ?_) (fun c54 => ?_)
                              · have b54 : v42.toInt = (0 : Int32).toInt := i_eq.mp c54
                                refine lv_bipush (v := 14) hx hb dX12_readAtom_171 (by decide) ?_
                                refine lv_iconst (v := 0) hx hb dX12_readAtom_173 (by decide) ?_
                                have rs9 : 0 ≤ (fI D H52 11 a0 16).toInt ∧ (fI D H52 11 a0 16).toInt ≤ 400 := S52.1.rng ga0 rfl (by decide) rfl
                                have rp9 : 0 ≤ (fI D H52 11 a0 10).toInt ∧ (fI D H52 11 a0 10).toInt ≤ 400 := S52.1.rng ga0 rfl (by decide) rfl
                                have k_14 : (14 : Int32).toInt = 14 := by decide
                                refine callV_Ev C S52 (c_X12_emits l D G a0 (14 : Int32) (0 : Int32) ga0) kV_X12_185 ga0 (by omega) (by decide +kernel) dX12_readAtom_174 hl.1 rfl rfl (by decide) cd_X12_emits ⟨Nat.le_of_ble_eq_true rfl, Nat.le_of_ble_eq_true rfl, Nat.le_of_ble_eq_true rfl, Nat.le_of_ble_eq_true rfl, Nat.le_of_ble_eq_true rfl⟩ (fun H55 L55 S55 K55 q55 => ?_)
                                obtain ⟨qa55, qb55, tq55⟩ := q55
                                have y55_10 : (fI D H55 11 a0 10).toInt = (fI D H52 11 a0 10).toInt := congrArg Int32.toInt (K55.fI ga0 rfl (by decide) (by decide +kernel))
                                have y55_12 : (fI D H55 11 a0 12).toInt = (fI D H52 11 a0 12).toInt := congrArg Int32.toInt (K55.fI ga0 rfl (by decide) (by decide +kernel))
                                have y55_13 : (fI D H55 11 a0 13).toInt = (fI D H52 11 a0 13).toInt := congrArg Int32.toInt (K55.fI ga0 rfl (by decide) (by decide +kernel))
                                have lq55 : Lq D H52 H55 a0 := tq55
                                have tk55 : Lq D s.heap H55 a0 := tk52.trans lq55
                                have rb55 := ts52.keep S52.1 ga0 K55 (by decide +kernel)
                                refine lv_iconst (v := 1) hx hb dX12_readAtom_177 (by decide) ?_
                                have k_1 : (1 : Int32).toInt = 1 := by decide
                                exact retE_z hQ C S55 hr dX12_readAtom_178 (z01 (by omega) (by omega)) (⟨⟨by omega, fun _ => by omega, fun _ => (Ex.bin ((((lq42.trans lq50).trans lq52).trans lq55).ex (sx40 (by omega)) (by omega)) ((lq55.ex (sx52 (by omega)) (by omega)).at (i' := (fI D H40 11 a0 16).toInt.toNat) (by omega) rfl) (by rw [qb55]; decide) rfl).at (by omega) (by omega), tk55⟩, RR.ok (by rw [atm_s]; simp [clo, tkS, tlF, cmpF, y1, y19, y35, yt39, y40, y42, y50, y52]) (by omega) rb55⟩)
                              · have b54 : ¬ v42.toInt = (0 : Int32).toInt := fun z9 => c54 (i_eq.mpr z9)
                                exact absurd b54 (by omega)
                            · have b53 : v52.toInt = (0 : Int32).toInt := i_eq.mp c53
                              exact absurd b53 (by omega)
                          · skip
                            refine lv_if_ne (tgt := 161) hx hb dX12_readAtom_156 (by decide) (fun c56 => ?_) (fun c56 => ?_)
                            · have b56 : ¬ v52.toInt = (0 : Int32).toInt := fun z9 => c56 (i_eq.mpr z9)
                              exact absurd b56 (by omega)
                            · have b56 : v52.toInt = (0 : Int32).toInt := i_eq.mp c56
                              refine lv_iconst (v := 0) hx hb dX12_readAtom_159 (by decide) ?_
                              exact retE_z hQ C S52 hr dX12_readAtom_160 (z01 (by omega) (by omega)) (⟨⟨by omega, fun h9 => absurd h9 (by decide), fun h9 => absurd h9 (by decide), tk52⟩, RR.no (by rw [atm_s]; simp [clo, tkS, tlF, cmpF, y1, y19, y35, yt39, y40, y42, y50, y52]) (by omega) wr52⟩)
                      · skip
                        refine lv_if_eq (tgt := 159) hx hb dX12_readAtom_149 (by decide) (fun c57 => ?_) (fun c57 => ?_)
                        · have b57 : v50.toInt = (0 : Int32).toInt := i_eq.mp c57
                          refine lv_iconst (v := 0) hx hb dX12_readAtom_159 (by decide) ?_
                          exact retE_z hQ C S50 hr dX12_readAtom_160 (z01 (by omega) (by omega)) (⟨⟨by omega, fun h9 => absurd h9 (by decide), fun h9 => absurd h9 (by decide), tk50⟩, RR.no (by rw [atm_s]; simp [clo, tkS, tlF, cmpF, y1, y19, y35, yt39, y40, y42, y50]) (by omega) wr50⟩)
                        · have b57 : ¬ v50.toInt = (0 : Int32).toInt := fun z9 => c57 (i_eq.mpr z9)
                          exact absurd b57 (by omega)
                · have b41 : v40.toInt = (0 : Int32).toInt := i_eq.mp c41
                  exact absurd b41 (by omega)
              · skip
                refine lv_if_ne (tgt := 132) hx hb dX12_readAtom_127 (by decide) (fun c58 => ?_) (fun c58 => ?_)
                · have b58 : ¬ v40.toInt = (0 : Int32).toInt := fun z9 => c58 (i_eq.mpr z9)
                  exact absurd b58 (by omega)
                · have b58 : v40.toInt = (0 : Int32).toInt := i_eq.mp c58
                  refine lv_iconst (v := 0) hx hb dX12_readAtom_130 (by decide) ?_
                  exact retE_z hQ C S40 hr dX12_readAtom_131 (z01 (by omega) (by omega)) (⟨⟨by omega, fun h9 => absurd h9 (by decide), fun h9 => absurd h9 (by decide), tk40⟩, RR.no (by rw [atm_s]; simp [clo, tkS, tlF, cmpF, y1, y19, y35, yt39, y40]) (by omega) wr40⟩)
            · have b38 : ¬ v35.toInt = (0 : Int32).toInt := fun z9 => c38 (i_eq.mpr z9)
              exact absurd b38 (by omega)
        · have b34 : ¬ v19.toInt = (0 : Int32).toInt := fun z9 => c34 (i_eq.mpr z9)
          exact absurd b34 (by omega)
    · have b17 : ¬ v1.toInt = (0 : Int32).toInt := fun z9 => c17 (i_eq.mpr z9)
      exact absurd b17 (by omega)

set_option maxRecDepth 100000 in
set_option maxHeartbeats 4000000 in
theorem c_X12_readAllOf_d0 (l : Launch) (D : DD) (G : Nat → Nat) (a0 : Nat) (T : Tx) (b : Nat) (ga0 : G a0 = 30) : CE l D G yX12_readAllOf cX12_readAllOf 1 (some .boolean) 26 [.ref a0] (fun H => ((fI D H 11 a0 13).toInt = 0 ∧ (fI D H 11 a0 16).toInt + 3 ≤ (fI D H 11 a0 10).toInt) ∧ (RB D H a0 T b)) [(30, 10), (30, 12), (30, 16), (31, 0), (30, 13)] (xI (fun H r H1 => ((0 ≤ r.toInt ∧ r.toInt ≤ 1) ∧ (r.toInt = 1 → (fI D H1 11 a0 16).toInt - (fI D H 11 a0 16).toInt ≤ (fI D H1 11 a0 10).toInt - (fI D H 11 a0 10).toInt ∧ (fI D H1 11 a0 13).toInt = (fI D H 11 a0 13).toInt ∧ (fI D H 11 a0 10).toInt ≤ (fI D H1 11 a0 10).toInt) ∧ (r.toInt = 1 → Ex (Cs D H1 a0) (fI D H 11 a0 16).toInt.toNat (fI D H1 11 a0 16).toInt.toNat) ∧ Lq D H H1 a0) ∧ (RR D H1 a0 T (allF T (atm T 6) b) r))) := by
  refine enter (by decide) (Nat.le_of_ble_eq_true rfl) ?_
  intro p e s m args below meth c ls Q hA hQ C hr hO hpre hl
  have hx := C.1
  have hb := C.2.1
  have S : Sd D G [(30, 10), (30, 12), (30, 16), (31, 0), (30, 13)] s.heap s.heap [] := Sd.start hO
  have hl : lv_has ls 1 [(0, .ref a0)] := hl
  have rs0 : 0 ≤ (fI D s.heap 11 a0 16).toInt ∧ (fI D s.heap 11 a0 16).toInt ≤ 400 := hO.rng ga0 rfl (by decide) rfl
  have rp0 : 0 ≤ (fI D s.heap 11 a0 10).toInt ∧ (fI D s.heap 11 a0 10).toInt ≤ 400 := hO.rng ga0 rfl (by decide) rfl
  obtain ⟨hpre, hf⟩ := hpre
  have ts0 := hf
  have hT : T.2 ≤ 400 := ts0.le hO ga0
  have tk0 : Lq D s.heap s.heap a0 := Lq.refl
  refine lv_aload_n hx hb dX12_readAllOf_0 rfl (lv_at hl 0 rfl) ?_
  refine callV_Ei C S (c_X12_readAtom_d0 l D G a0 T b ga0) kV_X12_205 ga0 (⟨hpre, ts0⟩) (by decide +kernel) dX12_readAllOf_1 hl.1 rfl rfl (by decide) cd_X12_readAtom ⟨Nat.le_of_ble_eq_true rfl, Nat.le_of_ble_eq_true rfl, Nat.le_of_ble_eq_true rfl, Nat.le_of_ble_eq_true rfl, Nat.le_of_ble_eq_true rfl⟩ (fun v1 H1 L1 S1 K1 q1 => ?_)
  obtain ⟨q1, fq1⟩ := q1
  obtain ⟨q1, sa1, sx1, tq1⟩ := q1
  have lq1 : Lq D s.heap H1 a0 := tq1
  have tk1 : Lq D s.heap H1 a0 := tk0.trans lq1
  rcases fq1 with ⟨c1, y1, z1, ts1⟩ | ⟨e1, y1, z1, wr1⟩
  · skip
    have k_0 : (0 : Int32).toInt = 0 := by decide
    refine lv_if_ne (tgt := 9) hx hb dX12_readAllOf_4 (by decide) (fun c2 => ?_) (fun c2 => ?_)
    · have b2 : ¬ v1.toInt = (0 : Int32).toInt := fun z9 => c2 (i_eq.mpr z9)
      have Lp9 : ∀ (n : Nat) (b_9 : Nat) (H_9 : Heap) (L_9 : List Loc) (ls : Array Slot), (Sd D G [(30, 10), (30, 12), (30, 16), (31, 0), (30, 13)] s.heap H_9 L_9) → (Ex (Cs D H_9 a0) (fI D s.heap 11 a0 16).toInt.toNat (fI D H_9 11 a0 16).toInt.toNat) → ((fI D H_9 11 a0 16).toInt - (fI D s.heap 11 a0 16).toInt ≤ (fI D H_9 11 a0 10).toInt - (fI D s.heap 11 a0 10).toInt ∧ (fI D H_9 11 a0 13).toInt = (fI D s.heap 11 a0 13).toInt ∧ (fI D s.heap 11 a0 10).toInt ≤ (fI D H_9 11 a0 10).toInt) → (RB D H_9 a0 T b_9) → (allF T (atm T 6) b = allT T (atm T 6) b_9) → (Lq D s.heap H_9 a0) → 401 - (fI D H_9 11 a0 10).toInt ≤ (n : Int) → lv_has ls 1 [(0, .ref a0)] → W p l e (rmU 26 0 0) s m args below meth c H_9 L_9 0 0 Q (F0 m 9 ls []) := by
        intro n
        induction n with
        | zero =>
          intro b_9 H_9 L_9 ls S_9 u9_0 u9_1 u9_2 u9_3 u9_4 hn hl
          have rz : 0 ≤ (fI D H_9 11 a0 10).toInt ∧ (fI D H_9 11 a0 10).toInt ≤ 400 := S_9.1.rng ga0 rfl (by decide) rfl
          exact absurd hn (by omega)
        | succ n ih9 =>
          intro b_9 H_9 L_9 ls S_9 u9_0 u9_1 u9_2 u9_3 u9_4 hn hl
          have rs9 : 0 ≤ (fI D H_9 11 a0 16).toInt ∧ (fI D H_9 11 a0 16).toInt ≤ 400 := S_9.1.rng ga0 rfl (by decide) rfl
          have rp9 : 0 ≤ (fI D H_9 11 a0 10).toInt ∧ (fI D H_9 11 a0 10).toInt ≤ 400 := S_9.1.rng ga0 rfl (by decide) rfl
          refine lv_aload_n hx hb dX12_readAllOf_9 rfl (lv_at hl 0 rfl) ?_
          refine q_lds C ks_X12_214 dX12_readAllOf_10 (fun a3 ha3 wa3 => ?_)
          refine callV_Ei C S_9 (c_X12_passes_f l D G a0 a3 3 w_and T b_9 ga0 ha3 (Wc.of wa3 kw_and) (by decide)) kV_X12_120 ga0 (⟨trivial, u9_2⟩) (by decide +kernel) dX12_readAllOf_12 hl.1 rfl rfl (by decide) cd_X12_passes ⟨Nat.le_of_ble_eq_true rfl, Nat.le_of_ble_eq_true rfl, Nat.le_of_ble_eq_true rfl, Nat.le_of_ble_eq_true rfl, Nat.le_of_ble_eq_true rfl⟩ (fun v4 H4 L4 S4 K4 q4 => ?_)
          obtain ⟨q4, fq4⟩ := q4
          have y4_13 : (fI D H4 11 a0 13).toInt = (fI D H_9 11 a0 13).toInt := congrArg Int32.toInt (K4.fI ga0 rfl (by decide) (by decide +kernel))
          have y4_16 : (fI D H4 11 a0 16).toInt = (fI D H_9 11 a0 16).toInt := congrArg Int32.toInt (K4.fI ga0 rfl (by decide) (by decide +kernel))
          have lq4 : Lq D H_9 H4 a0 := Lq.keep S_9.1 ga0 K4 (by decide +kernel) (by decide +kernel) (by decide +kernel)
          have tk4 : Lq D s.heap H4 a0 := u9_4.trans lq4
          rcases fq4 with ⟨z4, y4, ts4, wr4⟩ | ⟨z4, y4, ts4, wr4⟩
          · skip
            refine lv_if_eq (tgt := 37) hx hb dX12_readAllOf_15 (by decide) (fun c5 => ?_) (fun c5 => ?_)
            · have b5 : v4.toInt = (0 : Int32).toInt := i_eq.mp c5
              exact absurd b5 (by omega)
            · have b5 : ¬ v4.toInt = (0 : Int32).toInt := fun z9 => c5 (i_eq.mpr z9)
              refine lv_aload_n hx hb dX12_readAllOf_18 rfl (lv_at hl 0 rfl) ?_
              have rs9 : 0 ≤ (fI D H4 11 a0 16).toInt ∧ (fI D H4 11 a0 16).toInt ≤ 400 := S4.1.rng ga0 rfl (by decide) rfl
              have rp9 : 0 ≤ (fI D H4 11 a0 10).toInt ∧ (fI D H4 11 a0 10).toInt ≤ 400 := S4.1.rng ga0 rfl (by decide) rfl
              refine callV_Ei C S4 (c_X12_readAtom_d0 l D G a0 T (nx T b_9) ga0) kV_X12_205 ga0 (⟨⟨by omega, by omega⟩, ts4⟩) (by decide +kernel) dX12_readAllOf_19 hl.1 rfl rfl (by decide) cd_X12_readAtom ⟨Nat.le_of_ble_eq_true rfl, Nat.le_of_ble_eq_true rfl, Nat.le_of_ble_eq_true rfl, Nat.le_of_ble_eq_true rfl, Nat.le_of_ble_eq_true rfl⟩ (fun v6 H6 L6 S6 K6 q6 => ?_)
              obtain ⟨q6, fq6⟩ := q6
              obtain ⟨q6, sa6, sx6, tq6⟩ := q6
              have lq6 : Lq D H4 H6 a0 := tq6
              have tk6 : Lq D s.heap H6 a0 := tk4.trans lq6
              rcases fq6 with ⟨c6, y6, z6, ts6⟩ | ⟨e6, y6, z6, wr6⟩
              · skip
                refine lv_if_ne (tgt := 27) hx hb dX12_readAllOf_22 (by decide) (fun c7 => ?_) (fun c7 => ?_)
                · have b7 : ¬ v6.toInt = (0 : Int32).toInt := fun z9 => c7 (i_eq.mpr z9)
                  refine lv_aload_n hx hb dX12_readAllOf_27 rfl (lv_at hl 0 rfl) ?_
                  refine lv_bipush (v := 16) hx hb dX12_readAllOf_28 (by decide) ?_
                  refine lv_iconst (v := 0) hx hb dX12_readAllOf_30 (by decide) ?_
                  have rs9 : 0 ≤ (fI D H6 11 a0 16).toInt ∧ (fI D H6 11 a0 16).toInt ≤ 400 := S6.1.rng ga0 rfl (by decide) rfl
                  have rp9 : 0 ≤ (fI D H6 11 a0 10).toInt ∧ (fI D H6 11 a0 10).toInt ≤ 400 := S6.1.rng ga0 rfl (by decide) rfl
                  have k_16 : (16 : Int32).toInt = 16 := by decide
                  refine callV_Ev C S6 (c_X12_emits l D G a0 (16 : Int32) (0 : Int32) ga0) kV_X12_185 ga0 (by omega) (by decide +kernel) dX12_readAllOf_31 hl.1 rfl rfl (by decide) cd_X12_emits ⟨Nat.le_of_ble_eq_true rfl, Nat.le_of_ble_eq_true rfl, Nat.le_of_ble_eq_true rfl, Nat.le_of_ble_eq_true rfl, Nat.le_of_ble_eq_true rfl⟩ (fun H8 L8 S8 K8 q8 => ?_)
                  obtain ⟨qa8, qb8, tq8⟩ := q8
                  have y8_10 : (fI D H8 11 a0 10).toInt = (fI D H6 11 a0 10).toInt := congrArg Int32.toInt (K8.fI ga0 rfl (by decide) (by decide +kernel))
                  have y8_12 : (fI D H8 11 a0 12).toInt = (fI D H6 11 a0 12).toInt := congrArg Int32.toInt (K8.fI ga0 rfl (by decide) (by decide +kernel))
                  have y8_13 : (fI D H8 11 a0 13).toInt = (fI D H6 11 a0 13).toInt := congrArg Int32.toInt (K8.fI ga0 rfl (by decide) (by decide +kernel))
                  have lq8 : Lq D H6 H8 a0 := tq8
                  have tk8 : Lq D s.heap H8 a0 := tk6.trans lq8
                  have rb8 := ts6.keep S6.1 ga0 K8 (by decide +kernel)
                  refine lv_goto (tgt := 9) hx hb dX12_readAllOf_34 (by decide) ?_
                  have e9 : Ex (Cs D H8 a0) (fI D s.heap 11 a0 16).toInt.toNat (fI D H8 11 a0 16).toInt.toNat := (Ex.bin (((lq4.trans lq6).trans lq8).ex u9_0 (by omega)) ((lq8.ex (sx6 (by omega)) (by omega)).at (i' := (fI D H_9 11 a0 16).toInt.toNat) (by omega) rfl) (by rw [qb8]; decide) rfl).at (by omega) (by omega)
                  exact ih9 c6 H8 L8 ls S8 e9 (by omega) rb8 (u9_3.trans ((allT_t y4).trans (all_in (atm_on 6) hT y6))) tk8 (by omega) (lv_sub hl [0] rfl)
                · have b7 : v6.toInt = (0 : Int32).toInt := i_eq.mp c7
                  exact absurd b7 (by omega)
              · skip
                refine lv_if_ne (tgt := 27) hx hb dX12_readAllOf_22 (by decide) (fun c9 => ?_) (fun c9 => ?_)
                · have b9 : ¬ v6.toInt = (0 : Int32).toInt := fun z9 => c9 (i_eq.mpr z9)
                  exact absurd b9 (by omega)
                · have b9 : v6.toInt = (0 : Int32).toInt := i_eq.mp c9
                  refine lv_iconst (v := 0) hx hb dX12_readAllOf_25 (by decide) ?_
                  exact retE_z hQ C S6 hr dX12_readAllOf_26 (z01 (by omega) (by omega)) (⟨⟨by omega, fun h9 => absurd h9 (by decide), fun h9 => absurd h9 (by decide), tk6⟩, RR.no (u9_3.trans ((allT_t y4).trans (all_no (atm_on 6) hT y6))) (by omega) wr6⟩)
          · skip
            refine lv_if_eq (tgt := 37) hx hb dX12_readAllOf_15 (by decide) (fun c10 => ?_) (fun c10 => ?_)
            · have b10 : v4.toInt = (0 : Int32).toInt := i_eq.mp c10
              refine lv_iconst (v := 1) hx hb dX12_readAllOf_37 (by decide) ?_
              have k_1 : (1 : Int32).toInt = 1 := by decide
              exact retE_z hQ C S4 hr dX12_readAllOf_38 (z01 (by omega) (by omega)) (⟨⟨by omega, fun _ => by omega, fun _ => (lq4.ex u9_0 (by omega)).at (by omega) (by omega), tk4⟩, RR.ok (u9_3.trans (allT_f y4)) (by omega) ts4⟩)
            · have b10 : ¬ v4.toInt = (0 : Int32).toInt := fun z9 => c10 (i_eq.mpr z9)
              exact absurd b10 (by omega)
      have ex0 := sx1 (by omega)
      have rn : 0 ≤ (fI D H1 11 a0 10).toInt ∧ (fI D H1 11 a0 10).toInt ≤ 400 := S1.1.rng ga0 rfl (by decide) rfl
      exact Lp9 402 c1 H1 L1 ls S1 (ex0.at (by omega) rfl) (by omega) ts1 (all_in (atm_on 6) hT y1) tk1  (by omega) (lv_sub hl [0] rfl)
    · have b2 : v1.toInt = (0 : Int32).toInt := i_eq.mp c2
      exact absurd b2 (by omega)
  · skip
    have k_0 : (0 : Int32).toInt = 0 := by decide
    refine lv_if_ne (tgt := 9) hx hb dX12_readAllOf_4 (by decide) (fun c11 => ?_) (fun c11 => ?_)
    · have b11 : ¬ v1.toInt = (0 : Int32).toInt := fun z9 => c11 (i_eq.mpr z9)
      exact absurd b11 (by omega)
    · have b11 : v1.toInt = (0 : Int32).toInt := i_eq.mp c11
      refine lv_iconst (v := 0) hx hb dX12_readAllOf_7 (by decide) ?_
      exact retE_z hQ C S1 hr dX12_readAllOf_8 (z01 (by omega) (by omega)) (⟨⟨by omega, fun h9 => absurd h9 (by decide), fun h9 => absurd h9 (by decide), tk1⟩, RR.no (all_no (atm_on 6) hT y1) (by omega) wr1⟩)

set_option maxRecDepth 100000 in
set_option maxHeartbeats 4000000 in
theorem c_X12_readCond_d0 (l : Launch) (D : DD) (G : Nat → Nat) (a0 : Nat) (T : Tx) (b : Nat) (ga0 : G a0 = 30) : CE l D G yX12_readCond cX12_readCond 1 (some .boolean) 27 [.ref a0] (fun H => ((fI D H 11 a0 13).toInt = 0 ∧ (fI D H 11 a0 16).toInt + 3 ≤ (fI D H 11 a0 10).toInt) ∧ (RB D H a0 T b)) [(30, 10), (30, 12), (30, 16), (31, 0), (30, 13)] (xI (fun H r H1 => ((0 ≤ r.toInt ∧ r.toInt ≤ 1) ∧ (r.toInt = 1 → (fI D H1 11 a0 16).toInt - (fI D H 11 a0 16).toInt ≤ (fI D H1 11 a0 10).toInt - (fI D H 11 a0 10).toInt ∧ (fI D H1 11 a0 13).toInt = (fI D H 11 a0 13).toInt ∧ (fI D H 11 a0 10).toInt ≤ (fI D H1 11 a0 10).toInt) ∧ (r.toInt = 1 → Ex (Cs D H1 a0) (fI D H 11 a0 16).toInt.toNat (fI D H1 11 a0 16).toInt.toNat) ∧ Lq D H H1 a0) ∧ (RR D H1 a0 T (conF T (atm T 6) b) r))) := by
  refine enter (by decide) (Nat.le_of_ble_eq_true rfl) ?_
  intro p e s m args below meth c ls Q hA hQ C hr hO hpre hl
  have hx := C.1
  have hb := C.2.1
  have S : Sd D G [(30, 10), (30, 12), (30, 16), (31, 0), (30, 13)] s.heap s.heap [] := Sd.start hO
  have hl : lv_has ls 1 [(0, .ref a0)] := hl
  have rs0 : 0 ≤ (fI D s.heap 11 a0 16).toInt ∧ (fI D s.heap 11 a0 16).toInt ≤ 400 := hO.rng ga0 rfl (by decide) rfl
  have rp0 : 0 ≤ (fI D s.heap 11 a0 10).toInt ∧ (fI D s.heap 11 a0 10).toInt ≤ 400 := hO.rng ga0 rfl (by decide) rfl
  obtain ⟨hpre, hf⟩ := hpre
  have ts0 := hf
  have hT : T.2 ≤ 400 := ts0.le hO ga0
  have tk0 : Lq D s.heap s.heap a0 := Lq.refl
  refine lv_aload_n hx hb dX12_readCond_0 rfl (lv_at hl 0 rfl) ?_
  refine callV_Ei C S (c_X12_readAllOf_d0 l D G a0 T b ga0) kV_X12_216 ga0 (⟨hpre, ts0⟩) (by decide +kernel) dX12_readCond_1 hl.1 rfl rfl (by decide) cd_X12_readAllOf ⟨Nat.le_of_ble_eq_true rfl, Nat.le_of_ble_eq_true rfl, Nat.le_of_ble_eq_true rfl, Nat.le_of_ble_eq_true rfl, Nat.le_of_ble_eq_true rfl⟩ (fun v1 H1 L1 S1 K1 q1 => ?_)
  obtain ⟨q1, fq1⟩ := q1
  obtain ⟨q1, sa1, sx1, tq1⟩ := q1
  have lq1 : Lq D s.heap H1 a0 := tq1
  have tk1 : Lq D s.heap H1 a0 := tk0.trans lq1
  rcases fq1 with ⟨c1, y1, z1, ts1⟩ | ⟨e1, y1, z1, wr1⟩
  · skip
    have k_0 : (0 : Int32).toInt = 0 := by decide
    refine lv_if_ne (tgt := 9) hx hb dX12_readCond_4 (by decide) (fun c2 => ?_) (fun c2 => ?_)
    · have b2 : ¬ v1.toInt = (0 : Int32).toInt := fun z9 => c2 (i_eq.mpr z9)
      have Lp9 : ∀ (n : Nat) (b_9 : Nat) (H_9 : Heap) (L_9 : List Loc) (ls : Array Slot), (Sd D G [(30, 10), (30, 12), (30, 16), (31, 0), (30, 13)] s.heap H_9 L_9) → (Ex (Cs D H_9 a0) (fI D s.heap 11 a0 16).toInt.toNat (fI D H_9 11 a0 16).toInt.toNat) → ((fI D H_9 11 a0 16).toInt - (fI D s.heap 11 a0 16).toInt ≤ (fI D H_9 11 a0 10).toInt - (fI D s.heap 11 a0 10).toInt ∧ (fI D H_9 11 a0 13).toInt = (fI D s.heap 11 a0 13).toInt ∧ (fI D s.heap 11 a0 10).toInt ≤ (fI D H_9 11 a0 10).toInt) → (RB D H_9 a0 T b_9) → (conF T (atm T 6) b = conT T (atm T 6) b_9) → (Lq D s.heap H_9 a0) → 401 - (fI D H_9 11 a0 10).toInt ≤ (n : Int) → lv_has ls 1 [(0, .ref a0)] → W p l e (rmU 27 0 0) s m args below meth c H_9 L_9 0 0 Q (F0 m 9 ls []) := by
        intro n
        induction n with
        | zero =>
          intro b_9 H_9 L_9 ls S_9 u9_0 u9_1 u9_2 u9_3 u9_4 hn hl
          have rz : 0 ≤ (fI D H_9 11 a0 10).toInt ∧ (fI D H_9 11 a0 10).toInt ≤ 400 := S_9.1.rng ga0 rfl (by decide) rfl
          exact absurd hn (by omega)
        | succ n ih9 =>
          intro b_9 H_9 L_9 ls S_9 u9_0 u9_1 u9_2 u9_3 u9_4 hn hl
          have rs9 : 0 ≤ (fI D H_9 11 a0 16).toInt ∧ (fI D H_9 11 a0 16).toInt ≤ 400 := S_9.1.rng ga0 rfl (by decide) rfl
          have rp9 : 0 ≤ (fI D H_9 11 a0 10).toInt ∧ (fI D H_9 11 a0 10).toInt ≤ 400 := S_9.1.rng ga0 rfl (by decide) rfl
          refine lv_aload_n hx hb dX12_readCond_9 rfl (lv_at hl 0 rfl) ?_
          refine q_lds C ks_X12_219 dX12_readCond_10 (fun a3 ha3 wa3 => ?_)
          refine callV_Ei C S_9 (c_X12_passes_f l D G a0 a3 2 w_or T b_9 ga0 ha3 (Wc.of wa3 kw_or) (by decide)) kV_X12_120 ga0 (⟨trivial, u9_2⟩) (by decide +kernel) dX12_readCond_12 hl.1 rfl rfl (by decide) cd_X12_passes ⟨Nat.le_of_ble_eq_true rfl, Nat.le_of_ble_eq_true rfl, Nat.le_of_ble_eq_true rfl, Nat.le_of_ble_eq_true rfl, Nat.le_of_ble_eq_true rfl⟩ (fun v4 H4 L4 S4 K4 q4 => ?_)
          obtain ⟨q4, fq4⟩ := q4
          have y4_13 : (fI D H4 11 a0 13).toInt = (fI D H_9 11 a0 13).toInt := congrArg Int32.toInt (K4.fI ga0 rfl (by decide) (by decide +kernel))
          have y4_16 : (fI D H4 11 a0 16).toInt = (fI D H_9 11 a0 16).toInt := congrArg Int32.toInt (K4.fI ga0 rfl (by decide) (by decide +kernel))
          have lq4 : Lq D H_9 H4 a0 := Lq.keep S_9.1 ga0 K4 (by decide +kernel) (by decide +kernel) (by decide +kernel)
          have tk4 : Lq D s.heap H4 a0 := u9_4.trans lq4
          rcases fq4 with ⟨z4, y4, ts4, wr4⟩ | ⟨z4, y4, ts4, wr4⟩
          · skip
            refine lv_if_eq (tgt := 37) hx hb dX12_readCond_15 (by decide) (fun c5 => ?_) (fun c5 => ?_)
            · have b5 : v4.toInt = (0 : Int32).toInt := i_eq.mp c5
              exact absurd b5 (by omega)
            · have b5 : ¬ v4.toInt = (0 : Int32).toInt := fun z9 => c5 (i_eq.mpr z9)
              refine lv_aload_n hx hb dX12_readCond_18 rfl (lv_at hl 0 rfl) ?_
              have rs9 : 0 ≤ (fI D H4 11 a0 16).toInt ∧ (fI D H4 11 a0 16).toInt ≤ 400 := S4.1.rng ga0 rfl (by decide) rfl
              have rp9 : 0 ≤ (fI D H4 11 a0 10).toInt ∧ (fI D H4 11 a0 10).toInt ≤ 400 := S4.1.rng ga0 rfl (by decide) rfl
              refine callV_Ei C S4 (c_X12_readAllOf_d0 l D G a0 T (nx T b_9) ga0) kV_X12_216 ga0 (⟨⟨by omega, by omega⟩, ts4⟩) (by decide +kernel) dX12_readCond_19 hl.1 rfl rfl (by decide) cd_X12_readAllOf ⟨Nat.le_of_ble_eq_true rfl, Nat.le_of_ble_eq_true rfl, Nat.le_of_ble_eq_true rfl, Nat.le_of_ble_eq_true rfl, Nat.le_of_ble_eq_true rfl⟩ (fun v6 H6 L6 S6 K6 q6 => ?_)
              obtain ⟨q6, fq6⟩ := q6
              obtain ⟨q6, sa6, sx6, tq6⟩ := q6
              have lq6 : Lq D H4 H6 a0 := tq6
              have tk6 : Lq D s.heap H6 a0 := tk4.trans lq6
              rcases fq6 with ⟨c6, y6, z6, ts6⟩ | ⟨e6, y6, z6, wr6⟩
              · skip
                refine lv_if_ne (tgt := 27) hx hb dX12_readCond_22 (by decide) (fun c7 => ?_) (fun c7 => ?_)
                · have b7 : ¬ v6.toInt = (0 : Int32).toInt := fun z9 => c7 (i_eq.mpr z9)
                  refine lv_aload_n hx hb dX12_readCond_27 rfl (lv_at hl 0 rfl) ?_
                  refine lv_bipush (v := 17) hx hb dX12_readCond_28 (by decide) ?_
                  refine lv_iconst (v := 0) hx hb dX12_readCond_30 (by decide) ?_
                  have rs9 : 0 ≤ (fI D H6 11 a0 16).toInt ∧ (fI D H6 11 a0 16).toInt ≤ 400 := S6.1.rng ga0 rfl (by decide) rfl
                  have rp9 : 0 ≤ (fI D H6 11 a0 10).toInt ∧ (fI D H6 11 a0 10).toInt ≤ 400 := S6.1.rng ga0 rfl (by decide) rfl
                  have k_17 : (17 : Int32).toInt = 17 := by decide
                  refine callV_Ev C S6 (c_X12_emits l D G a0 (17 : Int32) (0 : Int32) ga0) kV_X12_185 ga0 (by omega) (by decide +kernel) dX12_readCond_31 hl.1 rfl rfl (by decide) cd_X12_emits ⟨Nat.le_of_ble_eq_true rfl, Nat.le_of_ble_eq_true rfl, Nat.le_of_ble_eq_true rfl, Nat.le_of_ble_eq_true rfl, Nat.le_of_ble_eq_true rfl⟩ (fun H8 L8 S8 K8 q8 => ?_)
                  obtain ⟨qa8, qb8, tq8⟩ := q8
                  have y8_10 : (fI D H8 11 a0 10).toInt = (fI D H6 11 a0 10).toInt := congrArg Int32.toInt (K8.fI ga0 rfl (by decide) (by decide +kernel))
                  have y8_12 : (fI D H8 11 a0 12).toInt = (fI D H6 11 a0 12).toInt := congrArg Int32.toInt (K8.fI ga0 rfl (by decide) (by decide +kernel))
                  have y8_13 : (fI D H8 11 a0 13).toInt = (fI D H6 11 a0 13).toInt := congrArg Int32.toInt (K8.fI ga0 rfl (by decide) (by decide +kernel))
                  have lq8 : Lq D H6 H8 a0 := tq8
                  have tk8 : Lq D s.heap H8 a0 := tk6.trans lq8
                  have rb8 := ts6.keep S6.1 ga0 K8 (by decide +kernel)
                  refine lv_goto (tgt := 9) hx hb dX12_readCond_34 (by decide) ?_
                  have e9 : Ex (Cs D H8 a0) (fI D s.heap 11 a0 16).toInt.toNat (fI D H8 11 a0 16).toInt.toNat := (Ex.bin (((lq4.trans lq6).trans lq8).ex u9_0 (by omega)) ((lq8.ex (sx6 (by omega)) (by omega)).at (i' := (fI D H_9 11 a0 16).toInt.toNat) (by omega) rfl) (by rw [qb8]; decide) rfl).at (by omega) (by omega)
                  exact ih9 c6 H8 L8 ls S8 e9 (by omega) rb8 (u9_3.trans ((conT_t y4).trans (con_in (atm_on 6) hT y6))) tk8 (by omega) (lv_sub hl [0] rfl)
                · have b7 : v6.toInt = (0 : Int32).toInt := i_eq.mp c7
                  exact absurd b7 (by omega)
              · skip
                refine lv_if_ne (tgt := 27) hx hb dX12_readCond_22 (by decide) (fun c9 => ?_) (fun c9 => ?_)
                · have b9 : ¬ v6.toInt = (0 : Int32).toInt := fun z9 => c9 (i_eq.mpr z9)
                  exact absurd b9 (by omega)
                · have b9 : v6.toInt = (0 : Int32).toInt := i_eq.mp c9
                  refine lv_iconst (v := 0) hx hb dX12_readCond_25 (by decide) ?_
                  exact retE_z hQ C S6 hr dX12_readCond_26 (z01 (by omega) (by omega)) (⟨⟨by omega, fun h9 => absurd h9 (by decide), fun h9 => absurd h9 (by decide), tk6⟩, RR.no (u9_3.trans ((conT_t y4).trans (con_no (atm_on 6) hT y6))) (by omega) wr6⟩)
          · skip
            refine lv_if_eq (tgt := 37) hx hb dX12_readCond_15 (by decide) (fun c10 => ?_) (fun c10 => ?_)
            · have b10 : v4.toInt = (0 : Int32).toInt := i_eq.mp c10
              refine lv_iconst (v := 1) hx hb dX12_readCond_37 (by decide) ?_
              have k_1 : (1 : Int32).toInt = 1 := by decide
              exact retE_z hQ C S4 hr dX12_readCond_38 (z01 (by omega) (by omega)) (⟨⟨by omega, fun _ => by omega, fun _ => (lq4.ex u9_0 (by omega)).at (by omega) (by omega), tk4⟩, RR.ok (u9_3.trans (conT_f y4)) (by omega) ts4⟩)
            · have b10 : ¬ v4.toInt = (0 : Int32).toInt := fun z9 => c10 (i_eq.mpr z9)
              exact absurd b10 (by omega)
      have ex0 := sx1 (by omega)
      have rn : 0 ≤ (fI D H1 11 a0 10).toInt ∧ (fI D H1 11 a0 10).toInt ≤ 400 := S1.1.rng ga0 rfl (by decide) rfl
      exact Lp9 402 c1 H1 L1 ls S1 (ex0.at (by omega) rfl) (by omega) ts1 (con_in (atm_on 6) hT y1) tk1  (by omega) (lv_sub hl [0] rfl)
    · have b2 : v1.toInt = (0 : Int32).toInt := i_eq.mp c2
      exact absurd b2 (by omega)
  · skip
    have k_0 : (0 : Int32).toInt = 0 := by decide
    refine lv_if_ne (tgt := 9) hx hb dX12_readCond_4 (by decide) (fun c11 => ?_) (fun c11 => ?_)
    · have b11 : ¬ v1.toInt = (0 : Int32).toInt := fun z9 => c11 (i_eq.mpr z9)
      exact absurd b11 (by omega)
    · have b11 : v1.toInt = (0 : Int32).toInt := i_eq.mp c11
      refine lv_iconst (v := 0) hx hb dX12_readCond_7 (by decide) ?_
      exact retE_z hQ C S1 hr dX12_readCond_8 (z01 (by omega) (by omega)) (⟨⟨by omega, fun h9 => absurd h9 (by decide), fun h9 => absurd h9 (by decide), tk1⟩, RR.no (con_no (atm_on 6) hT y1) (by omega) wr1⟩)
