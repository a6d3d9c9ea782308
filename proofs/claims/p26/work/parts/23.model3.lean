set_option maxRecDepth 100000 in
set_option maxHeartbeats 4000000 in
theorem c_X12_sumOf (l : Launch) (D : DD) (G : Nat → Nat) (a0 : Nat) (x1 : Int32) (x2 : Int32) (ga0 : G a0 = 30) (ix2 : 0 ≤ x2.toInt ∧ x2.toInt ≤ 11) : CE l D G yX12_sumOf cX12_sumOf 5 (some .int) 7 [.ref a0, .int x1, .int x2] (fun _ => True) [(38, 0)] (xI (fun H r H1 => True)) := by
  refine enter (by decide) (Nat.le_of_ble_eq_true rfl) ?_
  intro p e s m args below meth c ls Q hA hQ C hr hO hpre hl
  have hx := C.1
  have hb := C.2.1
  have S : Sd D G [(38, 0)] s.heap s.heap [] := Sd.start hO
  have hl : lv_has ls 5 [(0, .ref a0), (1, .int x1), (2, .int x2)] := hl
  refine lv_iconst (v := 0) hx hb dX12_sumOf_0 (by decide) ?_
  refine lv_istore_n (lv' := [(3, .int (0 : Int32)), (0, .ref a0), (1, .int x1), (2, .int x2)]) hx hb dX12_sumOf_1 rfl hl (by decide) rfl (fun ls hl => ?_)
  refine lv_iconst (v := 0) hx hb dX12_sumOf_2 (by decide) ?_
  refine lv_istore (lv' := [(4, .int (0 : Int32)), (3, .int (0 : Int32)), (0, .ref a0), (1, .int x1), (2, .int x2)]) hx hb dX12_sumOf_3 hl (by decide) rfl (fun ls hl => ?_)
  have Lp5 : ∀ (n : Nat) (x4_5 : Int32) (x3_5 : Int32) (H_5 : Heap) (L_5 : List Loc) (ls : Array Slot), (Sd D G [(38, 0)] s.heap H_5 L_5) → (0 ≤ x4_5.toInt ∧ x4_5.toInt ≤ 2147483647) → 2147483648 - x4_5.toInt ≤ (n : Int) → lv_has ls 5 [(4, .int x4_5), (3, .int x3_5), (0, .ref a0), (1, .int x1), (2, .int x2)] → W p l e (rmU 7 0 0) s m args below meth c H_5 L_5 0 0 Q (F0 m 5 ls []) := by
    intro n
    induction n with
    | zero =>
      intro x4_5 x3_5 H_5 L_5 ls S_5 j5_0 hn hl
      exact absurd hn (by omega)
    | succ n ih5 =>
      intro x4_5 x3_5 H_5 L_5 ls S_5 j5_0 hn hl
      refine lv_iload hx hb dX12_sumOf_5 (lv_at hl 0 rfl) ?_
      refine lv_aload_n hx hb dX12_sumOf_7 rfl (lv_at hl 2 rfl) ?_
      refine q_gr (T := TX12) C S_5.1 ga0 1 kF_X12_13 dX12_sumOf_8 rfl rfl (by decide) rfl (by decide) rfl (fun g1 => ?_)
      refine lv_sipush (v := 354) hx hb dX12_sumOf_11 (by decide) ?_
      have n2 : aN H_5 (fR D H_5 11 a0 1) = 2052 := len_31 S_5.1 g1
      have k_354 : (354 : Int32).toInt = 354 := by decide
      refine q_iald C S_5.1 g1 (by omega) (by omega) dX12_sumOf_14 rfl (by decide) ?_
      refine lv_topi (fun v3 ev3 => ?_)
      have wv3 : 0 ≤ v3.toInt ∧ v3.toInt ≤ 12 := by rw [ev3]; exact wl_354 S_5.1 g1
      have yv3 : v3.toInt = (eI H_5 (fR D H_5 11 a0 1) 354).toInt := by rw [ev3]; rfl
      have r5 := i_rng x4_5
      refine lv_icmp_ge (tgt := 69) hx hb dX12_sumOf_15 (by decide) (fun c4 => ?_) (fun c4 => ?_)
      · have b4 : v3.toInt ≤ x4_5.toInt := i_le.mp c4
        refine lv_iload_n hx hb dX12_sumOf_69 rfl (lv_at hl 1 rfl) ?_
        exact retE_i hQ C S_5 hr dX12_sumOf_70 (trivial)
      · have b4 : ¬ v3.toInt ≤ x4_5.toInt := fun z9 => c4 (i_le.mpr z9)
        refine lv_aload_n hx hb dX12_sumOf_18 rfl (lv_at hl 2 rfl) ?_
        refine q_gr (T := TX12) C S_5.1 ga0 1 kF_X12_13 dX12_sumOf_19 rfl rfl (by decide) rfl (by decide) rfl (fun g6 => ?_)
        refine lv_sipush (v := 355) hx hb dX12_sumOf_22 (by decide) ?_
        refine lv_iconst (v := 4) hx hb dX12_sumOf_25 (by decide) ?_
        refine lv_iload hx hb dX12_sumOf_26 (lv_at hl 0 rfl) ?_
        have k_4 : (4 : Int32).toInt = 4 := by decide
        refine lv_imul hx hb dX12_sumOf_28 ?_
        refine lv_topi (fun v7 ev7 => ?_)
        have f8 : v7.toInt = (4) * x4_5.toInt := by rw [ev7]; exact i_cmul k_4 (by omega) (by omega)
        have k_355 : (355 : Int32).toInt = 355 := by decide
        refine lv_iadd hx hb dX12_sumOf_29 ?_
        refine lv_topi (fun v9 ev9 => ?_)
        have f10 : v9.toInt = (355 : Int32).toInt + v7.toInt := by rw [ev9]; exact i_add (by omega) (by omega)
        refine q_iald C S_5.1 g6 (by omega) (by omega) dX12_sumOf_30 rfl (by decide) ?_
        refine lv_topi (fun v11 ev11 => ?_)
        refine lv_iload_n hx hb dX12_sumOf_31 rfl (lv_at hl 3 rfl) ?_
        refine lv_icmp_ne (tgt := 63) hx hb dX12_sumOf_32 (by decide) (fun c12 => ?_) (fun c12 => ?_)
        · have b12 : ¬ v11.toInt = x1.toInt := fun z9 => c12 (i_eq.mpr z9)
          obtain ⟨v13, ev13⟩ : ∃ y : Int32, y = x4_5 + (1) := ⟨_, rfl⟩
          have k_1 : (1 : Int32).toInt = 1 := by decide
          have f14 : v13.toInt = x4_5.toInt + (1) := by rw [ev13]; exact i_addc k_1 (by omega) (by omega)
          refine lv_iinc (v := v13) (lv' := [(4, .int v13), (3, .int x3_5), (0, .ref a0), (1, .int x1), (2, .int x2)]) hx hb dX12_sumOf_63 hl (k := 0) rfl (by rw [ev13]; rfl) (by decide) rfl (fun ls hl => ?_)
          refine lv_goto (tgt := 5) hx hb dX12_sumOf_66 (by decide) ?_
          exact ih5 v13 x3_5 H_5 L_5 ls S_5 (by omega) (by omega) (lv_sub hl [0, 1, 2, 3, 4] rfl)
        · have b12 : v11.toInt = x1.toInt := i_eq.mp c12
          refine lv_aload_n hx hb dX12_sumOf_35 rfl (lv_at hl 2 rfl) ?_
          refine lv_iload hx hb dX12_sumOf_36 (lv_at hl 0 rfl) ?_
          refine lv_iload_n hx hb dX12_sumOf_38 rfl (lv_at hl 4 rfl) ?_
          refine callV_Ei C S_5 (c_X12_holdsLine l D G a0 x4_5 x2 ga0 (by omega) (by omega)) kV_X12_261 ga0 (by omega) (by decide +kernel) dX12_sumOf_39 hl.1 rfl rfl (by decide) cd_X12_holdsLine ⟨Nat.le_of_ble_eq_true rfl, Nat.le_of_ble_eq_true rfl, Nat.le_of_ble_eq_true rfl, Nat.le_of_ble_eq_true rfl, Nat.le_of_ble_eq_true rfl⟩ (fun v15 H15 L15 S15 K15 q15 => ?_)
          have k_0 : (0 : Int32).toInt = 0 := by decide
          refine lv_if_eq (tgt := 63) hx hb dX12_sumOf_42 (by decide) (fun c16 => ?_) (fun c16 => ?_)
          · have b16 : v15.toInt = (0 : Int32).toInt := i_eq.mp c16
            obtain ⟨v17, ev17⟩ : ∃ y : Int32, y = x4_5 + (1) := ⟨_, rfl⟩
            have k_1 : (1 : Int32).toInt = 1 := by decide
            have f18 : v17.toInt = x4_5.toInt + (1) := by rw [ev17]; exact i_addc k_1 (by omega) (by omega)
            refine lv_iinc (v := v17) (lv' := [(4, .int v17), (3, .int x3_5), (0, .ref a0), (1, .int x1), (2, .int x2)]) hx hb dX12_sumOf_63 hl (k := 0) rfl (by rw [ev17]; rfl) (by decide) rfl (fun ls hl => ?_)
            refine lv_goto (tgt := 5) hx hb dX12_sumOf_66 (by decide) ?_
            exact ih5 v17 x3_5 H15 L15 ls S15 (by omega) (by omega) (lv_sub hl [0, 1, 2, 3, 4] rfl)
          · have b16 : ¬ v15.toInt = (0 : Int32).toInt := fun z9 => c16 (i_eq.mpr z9)
            refine lv_iload_n hx hb dX12_sumOf_45 rfl (lv_at hl 1 rfl) ?_
            refine lv_aload_n hx hb dX12_sumOf_46 rfl (lv_at hl 2 rfl) ?_
            refine q_gr (T := TX12) C S15.1 ga0 1 kF_X12_13 dX12_sumOf_47 rfl rfl (by decide) rfl (by decide) rfl (fun g19 => ?_)
            refine lv_sipush (v := 355) hx hb dX12_sumOf_50 (by decide) ?_
            refine lv_iconst (v := 4) hx hb dX12_sumOf_53 (by decide) ?_
            refine lv_iload hx hb dX12_sumOf_54 (lv_at hl 0 rfl) ?_
            refine lv_imul hx hb dX12_sumOf_56 ?_
            refine lv_topi (fun v20 ev20 => ?_)
            have f21 : v20.toInt = (4) * x4_5.toInt := by rw [ev20]; exact i_cmul k_4 (by omega) (by omega)
            refine lv_iadd hx hb dX12_sumOf_57 ?_
            refine lv_topi (fun v22 ev22 => ?_)
            have f23 : v22.toInt = (355 : Int32).toInt + v20.toInt := by rw [ev22]; exact i_add (by omega) (by omega)
            refine lv_iconst (v := 1) hx hb dX12_sumOf_58 (by decide) ?_
            have k_1 : (1 : Int32).toInt = 1 := by decide
            refine lv_iadd hx hb dX12_sumOf_59 ?_
            refine lv_topi (fun v24 ev24 => ?_)
            have f25 : v24.toInt = v22.toInt + (1 : Int32).toInt := by rw [ev24]; exact i_add (by omega) (by omega)
            have n26 : aN H15 (fR D H15 11 a0 1) = 2052 := len_31 S15.1 g19
            refine q_iald C S15.1 g19 (by omega) (by omega) dX12_sumOf_60 rfl (by decide) ?_
            refine lv_topi (fun v27 ev27 => ?_)
            refine lv_iadd hx hb dX12_sumOf_61 ?_
            refine lv_topi (fun v28 ev28 => ?_)
            refine lv_istore_n (lv' := [(3, .int v28), (4, .int x4_5), (0, .ref a0), (1, .int x1), (2, .int x2)]) hx hb dX12_sumOf_62 rfl hl (by decide) rfl (fun ls hl => ?_)
            obtain ⟨v29, ev29⟩ : ∃ y : Int32, y = x4_5 + (1) := ⟨_, rfl⟩
            have f30 : v29.toInt = x4_5.toInt + (1) := by rw [ev29]; exact i_addc k_1 (by omega) (by omega)
            refine lv_iinc (v := v29) (lv' := [(4, .int v29), (3, .int v28), (0, .ref a0), (1, .int x1), (2, .int x2)]) hx hb dX12_sumOf_63 hl (k := 1) rfl (by rw [ev29]; rfl) (by decide) rfl (fun ls hl => ?_)
            refine lv_goto (tgt := 5) hx hb dX12_sumOf_66 (by decide) ?_
            exact ih5 v29 v28 H15 L15 ls S15 (by omega) (by omega) (lv_sub hl [0, 1, 2, 3, 4] rfl)
  have k_0 : (0 : Int32).toInt = 0 := by decide
  exact Lp5 2147483648 (0 : Int32) (0 : Int32) s.heap [] ls S (by omega)  (by omega) (lv_sub hl [0, 1, 2, 3, 4] rfl)

set_option maxRecDepth 100000 in
set_option maxHeartbeats 4000000 in
theorem c_X12_taxOf (l : Launch) (D : DD) (G : Nat → Nat) (a0 : Nat) (x1 : Int32) (ga0 : G a0 = 30) (ix1 : 0 ≤ x1.toInt ∧ x1.toInt ≤ 11) : CE l D G yX12_taxOf cX12_taxOf 2 (some .int) 8 [.ref a0, .int x1] (fun _ => True) [(38, 0)] (xI (fun H r H1 => True)) := by
  refine enter (by decide) (Nat.le_of_ble_eq_true rfl) ?_
  intro p e s m args below meth c ls Q hA hQ C hr hO hpre hl
  have hx := C.1
  have hb := C.2.1
  have S : Sd D G [(38, 0)] s.heap s.heap [] := Sd.start hO
  have hl : lv_has ls 2 [(0, .ref a0), (1, .int x1)] := hl
  refine lv_aload_n hx hb dX12_taxOf_0 rfl (lv_at hl 0 rfl) ?_
  refine lv_iload_n hx hb dX12_taxOf_1 rfl (lv_at hl 1 rfl) ?_
  refine callV_Pi C S.1 S.2.1.2.1 (c_X12_isWalled l D G a0 x1 ga0 (by omega)) kV_X12_264 ga0 (trivial) dX12_taxOf_2 hl.1 rfl rfl (by decide) cd_X12_isWalled ⟨Nat.le_of_ble_eq_true rfl, Nat.le_of_ble_eq_true rfl, Nat.le_of_ble_eq_true rfl, Nat.le_of_ble_eq_true rfl, Nat.le_of_ble_eq_true rfl⟩ (fun v1 q1 => ?_)
  have k_0 : (0 : Int32).toInt = 0 := by decide
  refine lv_if_eq (tgt := 10) hx hb dX12_taxOf_5 (by decide) (fun c2 => ?_) (fun c2 => ?_)
  · have b2 : v1.toInt = (0 : Int32).toInt := i_eq.mp c2
    refine lv_aload_n hx hb dX12_taxOf_10 rfl (lv_at hl 0 rfl) ?_
    refine q_gr (T := TX12) C S.1 ga0 1 kF_X12_13 dX12_taxOf_11 rfl rfl (by decide) rfl (by decide) rfl (fun g3 => ?_)
    refine lv_iconst (v := 3) hx hb dX12_taxOf_14 (by decide) ?_
    have n4 : aN s.heap (fR D s.heap 11 a0 1) = 2052 := len_31 S.1 g3
    have k_3 : (3 : Int32).toInt = 3 := by decide
    refine q_iald C S.1 g3 (by omega) (by omega) dX12_taxOf_15 rfl (by decide) ?_
    refine lv_topi (fun v5 ev5 => ?_)
    refine lv_if_ne (tgt := 45) hx hb dX12_taxOf_16 (by decide) (fun c6 => ?_) (fun c6 => ?_)
    · have b6 : ¬ v5.toInt = (0 : Int32).toInt := fun z9 => c6 (i_eq.mpr z9)
      refine lv_aload_n hx hb dX12_taxOf_45 rfl (lv_at hl 0 rfl) ?_
      refine lv_iconst (v := 1) hx hb dX12_taxOf_46 (by decide) ?_
      refine lv_iload_n hx hb dX12_taxOf_47 rfl (lv_at hl 1 rfl) ?_
      have k_1 : (1 : Int32).toInt = 1 := by decide
      refine callV_Ei C S (c_X12_sumOf l D G a0 (1 : Int32) x1 ga0 (by omega)) kV_X12_267 ga0 (trivial) (by decide +kernel) dX12_taxOf_48 hl.1 rfl rfl (by decide) cd_X12_sumOf ⟨Nat.le_of_ble_eq_true rfl, Nat.le_of_ble_eq_true rfl, Nat.le_of_ble_eq_true rfl, Nat.le_of_ble_eq_true rfl, Nat.le_of_ble_eq_true rfl⟩ (fun v7 H7 L7 S7 K7 q7 => ?_)
      refine lv_if_le (tgt := 58) hx hb dX12_taxOf_51 (by decide) (fun c8 => ?_) (fun c8 => ?_)
      · have b8 : v7.toInt ≤ (0 : Int32).toInt := i_le.mp c8
        refine lv_aload_n hx hb dX12_taxOf_58 rfl (lv_at hl 0 rfl) ?_
        refine q_gr (T := TX12) C S7.1 ga0 1 kF_X12_13 dX12_taxOf_59 rfl rfl (by decide) rfl (by decide) rfl (fun g9 => ?_)
        refine lv_iconst (v := 5) hx hb dX12_taxOf_62 (by decide) ?_
        have n10 : aN H7 (fR D H7 11 a0 1) = 2052 := len_31 S7.1 g9
        have k_5 : (5 : Int32).toInt = 5 := by decide
        refine q_iald C S7.1 g9 (by omega) (by omega) dX12_taxOf_63 rfl (by decide) ?_
        refine lv_topi (fun v11 ev11 => ?_)
        refine lv_aload_n hx hb dX12_taxOf_64 rfl (lv_at hl 0 rfl) ?_
        refine lv_iconst (v := 0) hx hb dX12_taxOf_65 (by decide) ?_
        refine lv_iload_n hx hb dX12_taxOf_66 rfl (lv_at hl 1 rfl) ?_
        refine callV_Ei C S7 (c_X12_sumOf l D G a0 (0 : Int32) x1 ga0 (by omega)) kV_X12_267 ga0 (trivial) (by decide +kernel) dX12_taxOf_67 hl.1 rfl rfl (by decide) cd_X12_sumOf ⟨Nat.le_of_ble_eq_true rfl, Nat.le_of_ble_eq_true rfl, Nat.le_of_ble_eq_true rfl, Nat.le_of_ble_eq_true rfl, Nat.le_of_ble_eq_true rfl⟩ (fun v12 H12 L12 S12 K12 q12 => ?_)
        refine lv_iadd hx hb dX12_taxOf_70 ?_
        refine lv_topi (fun v13 ev13 => ?_)
        exact retE_i hQ C S12 hr dX12_taxOf_71 (trivial)
      · have b8 : ¬ v7.toInt ≤ (0 : Int32).toInt := fun z9 => c8 (i_le.mpr z9)
        refine lv_iconst (v := 0) hx hb dX12_taxOf_54 (by decide) ?_
        refine lv_goto (tgt := 71) hx hb dX12_taxOf_55 (by decide) ?_
        exact retE_i hQ C S7 hr dX12_taxOf_71 (trivial)
    · have b6 : v5.toInt = (0 : Int32).toInt := i_eq.mp c6
      refine lv_aload_n hx hb dX12_taxOf_19 rfl (lv_at hl 0 rfl) ?_
      refine lv_aload_n hx hb dX12_taxOf_20 rfl (lv_at hl 0 rfl) ?_
      refine lv_iload_n hx hb dX12_taxOf_21 rfl (lv_at hl 1 rfl) ?_
      refine lv_iconst (v := 0) hx hb dX12_taxOf_22 (by decide) ?_
      refine callV_Pi C S.1 S.2.1.2.1 (c_X12_ofHearth l D G a0 x1 (0 : Int32) ga0 (by omega) (by omega)) kV_X12_56 ga0 (trivial) dX12_taxOf_23 hl.1 rfl rfl (by decide) cd_X12_ofHearth ⟨Nat.le_of_ble_eq_true rfl, Nat.le_of_ble_eq_true rfl, Nat.le_of_ble_eq_true rfl, Nat.le_of_ble_eq_true rfl, Nat.le_of_ble_eq_true rfl⟩ (fun v14 q14 => ?_)
      refine lv_iconst (v := 1) hx hb dX12_taxOf_26 (by decide) ?_
      have k_1 : (1 : Int32).toInt = 1 := by decide
      refine callV_Pi C S.1 S.2.1.2.1 (c_X12_of l D G a0 v14 (1 : Int32) ga0 (by omega) (by omega)) kV_X12_255 ga0 (trivial) dX12_taxOf_27 hl.1 rfl rfl (by decide) cd_X12_of ⟨Nat.le_of_ble_eq_true rfl, Nat.le_of_ble_eq_true rfl, Nat.le_of_ble_eq_true rfl, Nat.le_of_ble_eq_true rfl, Nat.le_of_ble_eq_true rfl⟩ (fun v15 q15 => ?_)
      refine lv_iconst (v := 1) hx hb dX12_taxOf_30 (by decide) ?_
      refine lv_icmp_ne (tgt := 38) hx hb dX12_taxOf_31 (by decide) (fun c16 => ?_) (fun c16 => ?_)
      · have b16 : ¬ v15.toInt = (1 : Int32).toInt := fun z9 => c16 (i_eq.mpr z9)
        refine lv_aload_n hx hb dX12_taxOf_38 rfl (lv_at hl 0 rfl) ?_
        refine q_gr (T := TX12) C S.1 ga0 1 kF_X12_13 dX12_taxOf_39 rfl rfl (by decide) rfl (by decide) rfl (fun g17 => ?_)
        refine lv_iconst (v := 5) hx hb dX12_taxOf_42 (by decide) ?_
        have k_5 : (5 : Int32).toInt = 5 := by decide
        refine q_iald C S.1 g17 (by omega) (by omega) dX12_taxOf_43 rfl (by decide) ?_
        refine lv_topi (fun v18 ev18 => ?_)
        exact retE_i hQ C S hr dX12_taxOf_44 (trivial)
      · have b16 : v15.toInt = (1 : Int32).toInt := i_eq.mp c16
        refine lv_iconst (v := 0) hx hb dX12_taxOf_34 (by decide) ?_
        refine lv_goto (tgt := 44) hx hb dX12_taxOf_35 (by decide) ?_
        exact retE_i hQ C S hr dX12_taxOf_44 (trivial)
  · have b2 : ¬ v1.toInt = (0 : Int32).toInt := fun z9 => c2 (i_eq.mpr z9)
    refine lv_iconst (v := 0) hx hb dX12_taxOf_8 (by decide) ?_
    exact retE_i hQ C S hr dX12_taxOf_9 (trivial)

set_option maxRecDepth 100000 in
set_option maxHeartbeats 4000000 in
theorem c_X12_foundBy (l : Launch) (D : DD) (G : Nat → Nat) (a0 : Nat) (x1 : Int32) (ga0 : G a0 = 30) (ix1 : 0 ≤ x1.toInt ∧ x1.toInt ≤ 11) : CE l D G yX12_foundBy cX12_foundBy 2 (some .int) 8 [.ref a0, .int x1] (fun _ => True) [(38, 0)] (xI (fun H r H1 => True)) := by
  refine enter (by decide) (Nat.le_of_ble_eq_true rfl) ?_
  intro p e s m args below meth c ls Q hA hQ C hr hO hpre hl
  have hx := C.1
  have hb := C.2.1
  have S : Sd D G [(38, 0)] s.heap s.heap [] := Sd.start hO
  have hl : lv_has ls 2 [(0, .ref a0), (1, .int x1)] := hl
  refine lv_aload_n hx hb dX12_foundBy_0 rfl (lv_at hl 0 rfl) ?_
  refine q_gr (T := TX12) C S.1 ga0 1 kF_X12_13 dX12_foundBy_1 rfl rfl (by decide) rfl (by decide) rfl (fun g1 => ?_)
  refine lv_iconst (v := 3) hx hb dX12_foundBy_4 (by decide) ?_
  have n2 : aN s.heap (fR D s.heap 11 a0 1) = 2052 := len_31 S.1 g1
  have k_3 : (3 : Int32).toInt = 3 := by decide
  refine q_iald C S.1 g1 (by omega) (by omega) dX12_foundBy_5 rfl (by decide) ?_
  refine lv_topi (fun v3 ev3 => ?_)
  have k_0 : (0 : Int32).toInt = 0 := by decide
  refine lv_if_ne (tgt := 14) hx hb dX12_foundBy_6 (by decide) (fun c4 => ?_) (fun c4 => ?_)
  · have b4 : ¬ v3.toInt = (0 : Int32).toInt := fun z9 => c4 (i_eq.mpr z9)
    refine lv_bipush (v := 100) hx hb dX12_foundBy_14 (by decide) ?_
    refine lv_aload_n hx hb dX12_foundBy_16 rfl (lv_at hl 0 rfl) ?_
    refine lv_iconst (v := 2) hx hb dX12_foundBy_17 (by decide) ?_
    refine lv_iload_n hx hb dX12_foundBy_18 rfl (lv_at hl 1 rfl) ?_
    have k_2 : (2 : Int32).toInt = 2 := by decide
    refine callV_Ei C S (c_X12_sumOf l D G a0 (2 : Int32) x1 ga0 (by omega)) kV_X12_267 ga0 (trivial) (by decide +kernel) dX12_foundBy_19 hl.1 rfl rfl (by decide) cd_X12_sumOf ⟨Nat.le_of_ble_eq_true rfl, Nat.le_of_ble_eq_true rfl, Nat.le_of_ble_eq_true rfl, Nat.le_of_ble_eq_true rfl, Nat.le_of_ble_eq_true rfl⟩ (fun v5 H5 L5 S5 K5 q5 => ?_)
    have k_100 : (100 : Int32).toInt = 100 := by decide
    refine q_min C kN_X12_270 dX12_foundBy_22 hl.1 ⟨Nat.le_of_ble_eq_true rfl, Nat.le_of_ble_eq_true rfl, Nat.le_of_ble_eq_true rfl, Nat.le_of_ble_eq_true rfl⟩ (fun v6 fv6 => ?_)
    exact retE_i hQ C S5 hr dX12_foundBy_25 (trivial)
  · have b4 : v3.toInt = (0 : Int32).toInt := i_eq.mp c4
    refine lv_bipush (v := 30) hx hb dX12_foundBy_9 (by decide) ?_
    refine lv_goto (tgt := 25) hx hb dX12_foundBy_11 (by decide) ?_
    have k_30 : (30 : Int32).toInt = 30 := by decide
    exact retE_i hQ C S hr dX12_foundBy_25 (trivial)

set_option maxRecDepth 100000 in
set_option maxHeartbeats 4000000 in
theorem c_X12_paysOf (l : Launch) (D : DD) (G : Nat → Nat) (a0 : Nat) (x1 : Int32) (ga0 : G a0 = 30) : CE l D G yX12_paysOf cX12_paysOf 4 (some .int) 9 [.ref a0, .int x1] (fun _ => True) [(38, 0)] (xI (fun H r H1 => True)) := by
  refine enter (by decide) (Nat.le_of_ble_eq_true rfl) ?_
  intro p e s m args below meth c ls Q hA hQ C hr hO hpre hl
  have hx := C.1
  have hb := C.2.1
  have S : Sd D G [(38, 0)] s.heap s.heap [] := Sd.start hO
  have hl : lv_has ls 4 [(0, .ref a0), (1, .int x1)] := hl
  refine lv_iconst (v := 0) hx hb dX12_paysOf_0 (by decide) ?_
  refine lv_istore_n (lv' := [(2, .int (0 : Int32)), (0, .ref a0), (1, .int x1)]) hx hb dX12_paysOf_1 rfl hl (by decide) rfl (fun ls hl => ?_)
  refine lv_iconst (v := 0) hx hb dX12_paysOf_2 (by decide) ?_
  refine lv_istore_n (lv' := [(3, .int (0 : Int32)), (2, .int (0 : Int32)), (0, .ref a0), (1, .int x1)]) hx hb dX12_paysOf_3 rfl hl (by decide) rfl (fun ls hl => ?_)
  have Lp4 : ∀ (n : Nat) (x3_4 : Int32) (x2_4 : Int32) (H_4 : Heap) (L_4 : List Loc) (ls : Array Slot), (Sd D G [(38, 0)] s.heap H_4 L_4) → (0 ≤ x3_4.toInt ∧ x3_4.toInt ≤ 2147483647) → 2147483648 - x3_4.toInt ≤ (n : Int) → lv_has ls 4 [(3, .int x3_4), (2, .int x2_4), (0, .ref a0), (1, .int x1)] → W p l e (rmU 9 0 0) s m args below meth c H_4 L_4 0 0 Q (F0 m 4 ls []) := by
    intro n
    induction n with
    | zero =>
      intro x3_4 x2_4 H_4 L_4 ls S_4 j4_0 hn hl
      exact absurd hn (by omega)
    | succ n ih4 =>
      intro x3_4 x2_4 H_4 L_4 ls S_4 j4_0 hn hl
      refine lv_iload_n hx hb dX12_paysOf_4 rfl (lv_at hl 0 rfl) ?_
      refine lv_aload_n hx hb dX12_paysOf_5 rfl (lv_at hl 2 rfl) ?_
      refine callV_Pi C S_4.1 S_4.2.1.2.1 (c_X12_hearths l D G a0 ga0) kV_X12_67 ga0 (trivial) dX12_paysOf_6 hl.1 rfl rfl (by decide) cd_X12_hearths ⟨Nat.le_of_ble_eq_true rfl, Nat.le_of_ble_eq_true rfl, Nat.le_of_ble_eq_true rfl, Nat.le_of_ble_eq_true rfl, Nat.le_of_ble_eq_true rfl⟩ (fun v1 q1 => ?_)
      have r3 := i_rng x3_4
      refine lv_icmp_ge (tgt := 47) hx hb dX12_paysOf_9 (by decide) (fun c2 => ?_) (fun c2 => ?_)
      · have b2 : v1.toInt ≤ x3_4.toInt := i_le.mp c2
        refine lv_iload_n hx hb dX12_paysOf_47 rfl (lv_at hl 1 rfl) ?_
        exact retE_i hQ C S_4 hr dX12_paysOf_48 (trivial)
      · have b2 : ¬ v1.toInt ≤ x3_4.toInt := fun z9 => c2 (i_le.mpr z9)
        refine lv_iload_n hx hb dX12_paysOf_12 rfl (lv_at hl 1 rfl) ?_
        refine lv_aload_n hx hb dX12_paysOf_13 rfl (lv_at hl 2 rfl) ?_
        refine lv_iload_n hx hb dX12_paysOf_14 rfl (lv_at hl 0 rfl) ?_
        refine lv_iload_n hx hb dX12_paysOf_15 rfl (lv_at hl 3 rfl) ?_
        refine callV_Pi C S_4.1 S_4.2.1.2.1 (c_X12_isOf l D G a0 x3_4 x1 ga0 (by omega)) kV_X12_70 ga0 (trivial) dX12_paysOf_16 hl.1 rfl rfl (by decide) cd_X12_isOf ⟨Nat.le_of_ble_eq_true rfl, Nat.le_of_ble_eq_true rfl, Nat.le_of_ble_eq_true rfl, Nat.le_of_ble_eq_true rfl, Nat.le_of_ble_eq_true rfl⟩ (fun v4 q4 => ?_)
        have k_0 : (0 : Int32).toInt = 0 := by decide
        refine lv_if_eq (tgt := 38) hx hb dX12_paysOf_19 (by decide) (fun c5 => ?_) (fun c5 => ?_)
        · have b5 : v4.toInt = (0 : Int32).toInt := i_eq.mp c5
          refine lv_iconst (v := 0) hx hb dX12_paysOf_38 (by decide) ?_
          refine lv_iadd hx hb dX12_paysOf_39 ?_
          refine lv_topi (fun v6 ev6 => ?_)
          refine lv_istore_n (lv' := [(2, .int v6), (3, .int x3_4), (0, .ref a0), (1, .int x1)]) hx hb dX12_paysOf_40 rfl hl (by decide) rfl (fun ls hl => ?_)
          obtain ⟨v7, ev7⟩ : ∃ y : Int32, y = x3_4 + (1) := ⟨_, rfl⟩
          have k_1 : (1 : Int32).toInt = 1 := by decide
          have f8 : v7.toInt = x3_4.toInt + (1) := by rw [ev7]; exact i_addc k_1 (by omega) (by omega)
          refine lv_iinc (v := v7) (lv' := [(3, .int v7), (2, .int v6), (0, .ref a0), (1, .int x1)]) hx hb dX12_paysOf_41 hl (k := 1) rfl (by rw [ev7]; rfl) (by decide) rfl (fun ls hl => ?_)
          refine lv_goto (tgt := 4) hx hb dX12_paysOf_44 (by decide) ?_
          exact ih4 v7 v6 H_4 L_4 ls S_4 (by omega) (by omega) (lv_sub hl [0, 1, 2, 3] rfl)
        · have b5 : ¬ v4.toInt = (0 : Int32).toInt := fun z9 => c5 (i_eq.mpr z9)
          refine lv_aload_n hx hb dX12_paysOf_22 rfl (lv_at hl 2 rfl) ?_
          refine lv_iload_n hx hb dX12_paysOf_23 rfl (lv_at hl 0 rfl) ?_
          refine callV_Pi C S_4.1 S_4.2.1.2.1 (c_X12_isOpen l D G a0 x3_4 ga0 (by omega)) kV_X12_275 ga0 (trivial) dX12_paysOf_24 hl.1 rfl rfl (by decide) cd_X12_isOpen ⟨Nat.le_of_ble_eq_true rfl, Nat.le_of_ble_eq_true rfl, Nat.le_of_ble_eq_true rfl, Nat.le_of_ble_eq_true rfl, Nat.le_of_ble_eq_true rfl⟩ (fun v9 q9 => ?_)
          refine lv_if_eq (tgt := 38) hx hb dX12_paysOf_27 (by decide) (fun c10 => ?_) (fun c10 => ?_)
          · have b10 : v9.toInt = (0 : Int32).toInt := i_eq.mp c10
            refine lv_iconst (v := 0) hx hb dX12_paysOf_38 (by decide) ?_
            refine lv_iadd hx hb dX12_paysOf_39 ?_
            refine lv_topi (fun v11 ev11 => ?_)
            refine lv_istore_n (lv' := [(2, .int v11), (3, .int x3_4), (0, .ref a0), (1, .int x1)]) hx hb dX12_paysOf_40 rfl hl (by decide) rfl (fun ls hl => ?_)
            obtain ⟨v12, ev12⟩ : ∃ y : Int32, y = x3_4 + (1) := ⟨_, rfl⟩
            have k_1 : (1 : Int32).toInt = 1 := by decide
            have f13 : v12.toInt = x3_4.toInt + (1) := by rw [ev12]; exact i_addc k_1 (by omega) (by omega)
            refine lv_iinc (v := v12) (lv' := [(3, .int v12), (2, .int v11), (0, .ref a0), (1, .int x1)]) hx hb dX12_paysOf_41 hl (k := 1) rfl (by rw [ev12]; rfl) (by decide) rfl (fun ls hl => ?_)
            refine lv_goto (tgt := 4) hx hb dX12_paysOf_44 (by decide) ?_
            exact ih4 v12 v11 H_4 L_4 ls S_4 (by omega) (by omega) (lv_sub hl [0, 1, 2, 3] rfl)
          · have b10 : ¬ v9.toInt = (0 : Int32).toInt := fun z9 => c10 (i_eq.mpr z9)
            refine lv_aload_n hx hb dX12_paysOf_30 rfl (lv_at hl 2 rfl) ?_
            refine lv_iload_n hx hb dX12_paysOf_31 rfl (lv_at hl 0 rfl) ?_
            refine callV_Ei C S_4 (c_X12_taxOf l D G a0 x3_4 ga0 (by omega)) kV_X12_278 ga0 (trivial) (by decide +kernel) dX12_paysOf_32 hl.1 rfl rfl (by decide) cd_X12_taxOf ⟨Nat.le_of_ble_eq_true rfl, Nat.le_of_ble_eq_true rfl, Nat.le_of_ble_eq_true rfl, Nat.le_of_ble_eq_true rfl, Nat.le_of_ble_eq_true rfl⟩ (fun v14 H14 L14 S14 K14 q14 => ?_)
            refine lv_goto (tgt := 39) hx hb dX12_paysOf_35 (by decide) ?_
            refine lv_iadd hx hb dX12_paysOf_39 ?_
            refine lv_topi (fun v15 ev15 => ?_)
            refine lv_istore_n (lv' := [(2, .int v15), (3, .int x3_4), (0, .ref a0), (1, .int x1)]) hx hb dX12_paysOf_40 rfl hl (by decide) rfl (fun ls hl => ?_)
            obtain ⟨v16, ev16⟩ : ∃ y : Int32, y = x3_4 + (1) := ⟨_, rfl⟩
            have k_1 : (1 : Int32).toInt = 1 := by decide
            have f17 : v16.toInt = x3_4.toInt + (1) := by rw [ev16]; exact i_addc k_1 (by omega) (by omega)
            refine lv_iinc (v := v16) (lv' := [(3, .int v16), (2, .int v15), (0, .ref a0), (1, .int x1)]) hx hb dX12_paysOf_41 hl (k := 1) rfl (by rw [ev16]; rfl) (by decide) rfl (fun ls hl => ?_)
            refine lv_goto (tgt := 4) hx hb dX12_paysOf_44 (by decide) ?_
            exact ih4 v16 v15 H14 L14 ls S14 (by omega) (by omega) (lv_sub hl [0, 1, 2, 3] rfl)
  have k_0 : (0 : Int32).toInt = 0 := by decide
  exact Lp4 2147483648 (0 : Int32) (0 : Int32) s.heap [] ls S (by omega)  (by omega) (lv_sub hl [0, 1, 2, 3] rfl)

set_option maxRecDepth 100000 in
set_option maxHeartbeats 4000000 in
theorem c_X12_hopesOf (l : Launch) (D : DD) (G : Nat → Nat) (a0 : Nat) (x1 : Int32) (ga0 : G a0 = 30) : CE l D G yX12_hopesOf cX12_hopesOf 4 (some .int) 9 [.ref a0, .int x1] (fun _ => True) [(38, 0)] (xI (fun H r H1 => True)) := by
  refine enter (by decide) (Nat.le_of_ble_eq_true rfl) ?_
  intro p e s m args below meth c ls Q hA hQ C hr hO hpre hl
  have hx := C.1
  have hb := C.2.1
  have S : Sd D G [(38, 0)] s.heap s.heap [] := Sd.start hO
  have hl : lv_has ls 4 [(0, .ref a0), (1, .int x1)] := hl
  refine lv_iconst (v := 0) hx hb dX12_hopesOf_0 (by decide) ?_
  refine lv_istore_n (lv' := [(2, .int (0 : Int32)), (0, .ref a0), (1, .int x1)]) hx hb dX12_hopesOf_1 rfl hl (by decide) rfl (fun ls hl => ?_)
  refine lv_iconst (v := 0) hx hb dX12_hopesOf_2 (by decide) ?_
  refine lv_istore_n (lv' := [(3, .int (0 : Int32)), (2, .int (0 : Int32)), (0, .ref a0), (1, .int x1)]) hx hb dX12_hopesOf_3 rfl hl (by decide) rfl (fun ls hl => ?_)
  have Lp4 : ∀ (n : Nat) (x3_4 : Int32) (x2_4 : Int32) (H_4 : Heap) (L_4 : List Loc) (ls : Array Slot), (Sd D G [(38, 0)] s.heap H_4 L_4) → (0 ≤ x3_4.toInt ∧ x3_4.toInt ≤ 2147483647) → 2147483648 - x3_4.toInt ≤ (n : Int) → lv_has ls 4 [(3, .int x3_4), (2, .int x2_4), (0, .ref a0), (1, .int x1)] → W p l e (rmU 9 0 0) s m args below meth c H_4 L_4 0 0 Q (F0 m 4 ls []) := by
    intro n
    induction n with
    | zero =>
      intro x3_4 x2_4 H_4 L_4 ls S_4 j4_0 hn hl
      exact absurd hn (by omega)
    | succ n ih4 =>
      intro x3_4 x2_4 H_4 L_4 ls S_4 j4_0 hn hl
      refine lv_iload_n hx hb dX12_hopesOf_4 rfl (lv_at hl 0 rfl) ?_
      refine lv_aload_n hx hb dX12_hopesOf_5 rfl (lv_at hl 2 rfl) ?_
      refine callV_Pi C S_4.1 S_4.2.1.2.1 (c_X12_hearths l D G a0 ga0) kV_X12_67 ga0 (trivial) dX12_hopesOf_6 hl.1 rfl rfl (by decide) cd_X12_hearths ⟨Nat.le_of_ble_eq_true rfl, Nat.le_of_ble_eq_true rfl, Nat.le_of_ble_eq_true rfl, Nat.le_of_ble_eq_true rfl, Nat.le_of_ble_eq_true rfl⟩ (fun v1 q1 => ?_)
      have r3 := i_rng x3_4
      refine lv_icmp_ge (tgt := 61) hx hb dX12_hopesOf_9 (by decide) (fun c2 => ?_) (fun c2 => ?_)
      · have b2 : v1.toInt ≤ x3_4.toInt := i_le.mp c2
        refine lv_iload_n hx hb dX12_hopesOf_61 rfl (lv_at hl 1 rfl) ?_
        refine lv_bipush (v := 100) hx hb dX12_hopesOf_62 (by decide) ?_
        have k_100 : (100 : Int32).toInt = 100 := by decide
        refine lv_idiv hx hb dX12_hopesOf_64 (by first | decide | (intro z9; have := i_eq.mp z9; simp at this; omega) | assumption) ?_
        refine lv_topi (fun v4 ev4 => ?_)
        exact retE_i hQ C S_4 hr dX12_hopesOf_65 (trivial)
      · have b2 : ¬ v1.toInt ≤ x3_4.toInt := fun z9 => c2 (i_le.mpr z9)
        refine lv_iload_n hx hb dX12_hopesOf_12 rfl (lv_at hl 1 rfl) ?_
        refine lv_aload_n hx hb dX12_hopesOf_13 rfl (lv_at hl 2 rfl) ?_
        refine lv_iload_n hx hb dX12_hopesOf_14 rfl (lv_at hl 0 rfl) ?_
        refine lv_iload_n hx hb dX12_hopesOf_15 rfl (lv_at hl 3 rfl) ?_
        refine callV_Pi C S_4.1 S_4.2.1.2.1 (c_X12_isOf l D G a0 x3_4 x1 ga0 (by omega)) kV_X12_70 ga0 (trivial) dX12_hopesOf_16 hl.1 rfl rfl (by decide) cd_X12_isOf ⟨Nat.le_of_ble_eq_true rfl, Nat.le_of_ble_eq_true rfl, Nat.le_of_ble_eq_true rfl, Nat.le_of_ble_eq_true rfl, Nat.le_of_ble_eq_true rfl⟩ (fun v5 q5 => ?_)
        have k_0 : (0 : Int32).toInt = 0 := by decide
        refine lv_if_eq (tgt := 52) hx hb dX12_hopesOf_19 (by decide) (fun c6 => ?_) (fun c6 => ?_)
        · have b6 : v5.toInt = (0 : Int32).toInt := i_eq.mp c6
          refine lv_iconst (v := 0) hx hb dX12_hopesOf_52 (by decide) ?_
          refine lv_iadd hx hb dX12_hopesOf_53 ?_
          refine lv_topi (fun v7 ev7 => ?_)
          refine lv_istore_n (lv' := [(2, .int v7), (3, .int x3_4), (0, .ref a0), (1, .int x1)]) hx hb dX12_hopesOf_54 rfl hl (by decide) rfl (fun ls hl => ?_)
          obtain ⟨v8, ev8⟩ : ∃ y : Int32, y = x3_4 + (1) := ⟨_, rfl⟩
          have k_1 : (1 : Int32).toInt = 1 := by decide
          have f9 : v8.toInt = x3_4.toInt + (1) := by rw [ev8]; exact i_addc k_1 (by omega) (by omega)
          refine lv_iinc (v := v8) (lv' := [(3, .int v8), (2, .int v7), (0, .ref a0), (1, .int x1)]) hx hb dX12_hopesOf_55 hl (k := 1) rfl (by rw [ev8]; rfl) (by decide) rfl (fun ls hl => ?_)
          refine lv_goto (tgt := 4) hx hb dX12_hopesOf_58 (by decide) ?_
          exact ih4 v8 v7 H_4 L_4 ls S_4 (by omega) (by omega) (lv_sub hl [0, 1, 2, 3] rfl)
        · have b6 : ¬ v5.toInt = (0 : Int32).toInt := fun z9 => c6 (i_eq.mpr z9)
          refine lv_aload_n hx hb dX12_hopesOf_22 rfl (lv_at hl 2 rfl) ?_
          refine lv_iload_n hx hb dX12_hopesOf_23 rfl (lv_at hl 0 rfl) ?_
          refine callV_Pi C S_4.1 S_4.2.1.2.1 (c_X12_isHidden l D G a0 x3_4 ga0 (by omega)) kV_X12_281 ga0 (trivial) dX12_hopesOf_24 hl.1 rfl rfl (by decide) cd_X12_isHidden ⟨Nat.le_of_ble_eq_true rfl, Nat.le_of_ble_eq_true rfl, Nat.le_of_ble_eq_true rfl, Nat.le_of_ble_eq_true rfl, Nat.le_of_ble_eq_true rfl⟩ (fun v10 q10 => ?_)
          refine lv_if_eq (tgt := 52) hx hb dX12_hopesOf_27 (by decide) (fun c11 => ?_) (fun c11 => ?_)
          · have b11 : v10.toInt = (0 : Int32).toInt := i_eq.mp c11
            refine lv_iconst (v := 0) hx hb dX12_hopesOf_52 (by decide) ?_
            refine lv_iadd hx hb dX12_hopesOf_53 ?_
            refine lv_topi (fun v12 ev12 => ?_)
            refine lv_istore_n (lv' := [(2, .int v12), (3, .int x3_4), (0, .ref a0), (1, .int x1)]) hx hb dX12_hopesOf_54 rfl hl (by decide) rfl (fun ls hl => ?_)
            obtain ⟨v13, ev13⟩ : ∃ y : Int32, y = x3_4 + (1) := ⟨_, rfl⟩
            have k_1 : (1 : Int32).toInt = 1 := by decide
            have f14 : v13.toInt = x3_4.toInt + (1) := by rw [ev13]; exact i_addc k_1 (by omega) (by omega)
            refine lv_iinc (v := v13) (lv' := [(3, .int v13), (2, .int v12), (0, .ref a0), (1, .int x1)]) hx hb dX12_hopesOf_55 hl (k := 1) rfl (by rw [ev13]; rfl) (by decide) rfl (fun ls hl => ?_)
            refine lv_goto (tgt := 4) hx hb dX12_hopesOf_58 (by decide) ?_
            exact ih4 v13 v12 H_4 L_4 ls S_4 (by omega) (by omega) (lv_sub hl [0, 1, 2, 3] rfl)
          · have b11 : ¬ v10.toInt = (0 : Int32).toInt := fun z9 => c11 (i_eq.mpr z9)
            refine lv_aload_n hx hb dX12_hopesOf_30 rfl (lv_at hl 2 rfl) ?_
            refine lv_iload_n hx hb dX12_hopesOf_31 rfl (lv_at hl 0 rfl) ?_
            refine callV_Ei C S_4 (c_X12_foundBy l D G a0 x3_4 ga0 (by omega)) kV_X12_284 ga0 (trivial) (by decide +kernel) dX12_hopesOf_32 hl.1 rfl rfl (by decide) cd_X12_foundBy ⟨Nat.le_of_ble_eq_true rfl, Nat.le_of_ble_eq_true rfl, Nat.le_of_ble_eq_true rfl, Nat.le_of_ble_eq_true rfl, Nat.le_of_ble_eq_true rfl⟩ (fun v15 H15 L15 S15 K15 q15 => ?_)
            refine lv_aload_n hx hb dX12_hopesOf_35 rfl (lv_at hl 2 rfl) ?_
            refine lv_iload_n hx hb dX12_hopesOf_36 rfl (lv_at hl 0 rfl) ?_
            refine callV_Ei C S15 (c_X12_taxOf l D G a0 x3_4 ga0 (by omega)) kV_X12_278 ga0 (trivial) (by decide +kernel) dX12_hopesOf_37 hl.1 rfl rfl (by decide) cd_X12_taxOf ⟨Nat.le_of_ble_eq_true rfl, Nat.le_of_ble_eq_true rfl, Nat.le_of_ble_eq_true rfl, Nat.le_of_ble_eq_true rfl, Nat.le_of_ble_eq_true rfl⟩ (fun v16 H16 L16 S16 K16 q16 => ?_)
            refine lv_aload_n hx hb dX12_hopesOf_40 rfl (lv_at hl 2 rfl) ?_
            refine q_gr (T := TX12) C S16.1 ga0 1 kF_X12_13 dX12_hopesOf_41 rfl rfl (by decide) rfl (by decide) rfl (fun g17 => ?_)
            refine lv_bipush (v := 6) hx hb dX12_hopesOf_44 (by decide) ?_
            have n18 : aN H16 (fR D H16 11 a0 1) = 2052 := len_31 S16.1 g17
            have k_6 : (6 : Int32).toInt = 6 := by decide
            refine q_iald C S16.1 g17 (by omega) (by omega) dX12_hopesOf_46 rfl (by decide) ?_
            refine lv_topi (fun v19 ev19 => ?_)
            refine lv_iadd hx hb dX12_hopesOf_47 ?_
            refine lv_topi (fun v20 ev20 => ?_)
            refine lv_imul hx hb dX12_hopesOf_48 ?_
            refine lv_topi (fun v21 ev21 => ?_)
            refine lv_goto (tgt := 53) hx hb dX12_hopesOf_49 (by decide) ?_
            refine lv_iadd hx hb dX12_hopesOf_53 ?_
            refine lv_topi (fun v22 ev22 => ?_)
            refine lv_istore_n (lv' := [(2, .int v22), (3, .int x3_4), (0, .ref a0), (1, .int x1)]) hx hb dX12_hopesOf_54 rfl hl (by decide) rfl (fun ls hl => ?_)
            obtain ⟨v23, ev23⟩ : ∃ y : Int32, y = x3_4 + (1) := ⟨_, rfl⟩
            have k_1 : (1 : Int32).toInt = 1 := by decide
            have f24 : v23.toInt = x3_4.toInt + (1) := by rw [ev23]; exact i_addc k_1 (by omega) (by omega)
            refine lv_iinc (v := v23) (lv' := [(3, .int v23), (2, .int v22), (0, .ref a0), (1, .int x1)]) hx hb dX12_hopesOf_55 hl (k := 1) rfl (by rw [ev23]; rfl) (by decide) rfl (fun ls hl => ?_)
            refine lv_goto (tgt := 4) hx hb dX12_hopesOf_58 (by decide) ?_
            exact ih4 v23 v22 H16 L16 ls S16 (by omega) (by omega) (lv_sub hl [0, 1, 2, 3] rfl)
  have k_0 : (0 : Int32).toInt = 0 := by decide
  exact Lp4 2147483648 (0 : Int32) (0 : Int32) s.heap [] ls S (by omega)  (by omega) (lv_sub hl [0, 1, 2, 3] rfl)

set_option maxRecDepth 100000 in
set_option maxHeartbeats 4000000 in
theorem c_X12_paysOfAll (l : Launch) (D : DD) (G : Nat → Nat) (a0 : Nat) (ga0 : G a0 = 30) : CE l D G yX12_paysOfAll cX12_paysOfAll 3 (some .int) 10 [.ref a0] (fun _ => True) [(38, 0)] (xI (fun H r H1 => True)) := by
  refine enter (by decide) (Nat.le_of_ble_eq_true rfl) ?_
  intro p e s m args below meth c ls Q hA hQ C hr hO hpre hl
  have hx := C.1
  have hb := C.2.1
  have S : Sd D G [(38, 0)] s.heap s.heap [] := Sd.start hO
  have hl : lv_has ls 3 [(0, .ref a0)] := hl
  refine lv_iconst (v := 0) hx hb dX12_paysOfAll_0 (by decide) ?_
  refine lv_istore_n (lv' := [(1, .int (0 : Int32)), (0, .ref a0)]) hx hb dX12_paysOfAll_1 rfl hl (by decide) rfl (fun ls hl => ?_)
  refine lv_iconst (v := 0) hx hb dX12_paysOfAll_2 (by decide) ?_
  refine lv_istore_n (lv' := [(2, .int (0 : Int32)), (1, .int (0 : Int32)), (0, .ref a0)]) hx hb dX12_paysOfAll_3 rfl hl (by decide) rfl (fun ls hl => ?_)
  have Lp4 : ∀ (n : Nat) (x2_4 : Int32) (x1_4 : Int32) (H_4 : Heap) (L_4 : List Loc) (ls : Array Slot), (Sd D G [(38, 0)] s.heap H_4 L_4) → (0 ≤ x2_4.toInt ∧ x2_4.toInt ≤ 2147483647) → 2147483648 - x2_4.toInt ≤ (n : Int) → lv_has ls 3 [(2, .int x2_4), (1, .int x1_4), (0, .ref a0)] → W p l e (rmU 10 0 0) s m args below meth c H_4 L_4 0 0 Q (F0 m 4 ls []) := by
    intro n
    induction n with
    | zero =>
      intro x2_4 x1_4 H_4 L_4 ls S_4 j4_0 hn hl
      exact absurd hn (by omega)
    | succ n ih4 =>
      intro x2_4 x1_4 H_4 L_4 ls S_4 j4_0 hn hl
      refine lv_iload_n hx hb dX12_paysOfAll_4 rfl (lv_at hl 0 rfl) ?_
      refine lv_aload_n hx hb dX12_paysOfAll_5 rfl (lv_at hl 2 rfl) ?_
      refine callV_Pi C S_4.1 S_4.2.1.2.1 (c_X12_houses l D G a0 ga0) kV_X12_59 ga0 (trivial) dX12_paysOfAll_6 hl.1 rfl rfl (by decide) cd_X12_houses ⟨Nat.le_of_ble_eq_true rfl, Nat.le_of_ble_eq_true rfl, Nat.le_of_ble_eq_true rfl, Nat.le_of_ble_eq_true rfl, Nat.le_of_ble_eq_true rfl⟩ (fun v1 q1 => ?_)
      have r3 := i_rng x2_4
      refine lv_icmp_ge (tgt := 26) hx hb dX12_paysOfAll_9 (by decide) (fun c2 => ?_) (fun c2 => ?_)
      · have b2 : v1.toInt ≤ x2_4.toInt := i_le.mp c2
        refine lv_iload_n hx hb dX12_paysOfAll_26 rfl (lv_at hl 1 rfl) ?_
        exact retE_i hQ C S_4 hr dX12_paysOfAll_27 (trivial)
      · have b2 : ¬ v1.toInt ≤ x2_4.toInt := fun z9 => c2 (i_le.mpr z9)
        refine lv_iload_n hx hb dX12_paysOfAll_12 rfl (lv_at hl 1 rfl) ?_
        refine lv_aload_n hx hb dX12_paysOfAll_13 rfl (lv_at hl 2 rfl) ?_
        refine lv_iload_n hx hb dX12_paysOfAll_14 rfl (lv_at hl 0 rfl) ?_
        refine callV_Ei C S_4 (c_X12_paysOf l D G a0 x2_4 ga0) kV_X12_293 ga0 (trivial) (by decide +kernel) dX12_paysOfAll_15 hl.1 rfl rfl (by decide) cd_X12_paysOf ⟨Nat.le_of_ble_eq_true rfl, Nat.le_of_ble_eq_true rfl, Nat.le_of_ble_eq_true rfl, Nat.le_of_ble_eq_true rfl, Nat.le_of_ble_eq_true rfl⟩ (fun v4 H4 L4 S4 K4 q4 => ?_)
        refine lv_iadd hx hb dX12_paysOfAll_18 ?_
        refine lv_topi (fun v5 ev5 => ?_)
        refine lv_istore_n (lv' := [(1, .int v5), (2, .int x2_4), (0, .ref a0)]) hx hb dX12_paysOfAll_19 rfl hl (by decide) rfl (fun ls hl => ?_)
        obtain ⟨v6, ev6⟩ : ∃ y : Int32, y = x2_4 + (1) := ⟨_, rfl⟩
        have k_1 : (1 : Int32).toInt = 1 := by decide
        have f7 : v6.toInt = x2_4.toInt + (1) := by rw [ev6]; exact i_addc k_1 (by omega) (by omega)
        refine lv_iinc (v := v6) (lv' := [(2, .int v6), (1, .int v5), (0, .ref a0)]) hx hb dX12_paysOfAll_20 hl (k := 1) rfl (by rw [ev6]; rfl) (by decide) rfl (fun ls hl => ?_)
        refine lv_goto (tgt := 4) hx hb dX12_paysOfAll_23 (by decide) ?_
        exact ih4 v6 v5 H4 L4 ls S4 (by omega) (by omega) (lv_sub hl [0, 1, 2] rfl)
  have k_0 : (0 : Int32).toInt = 0 := by decide
  exact Lp4 2147483648 (0 : Int32) (0 : Int32) s.heap [] ls S (by omega)  (by omega) (lv_sub hl [0, 1, 2] rfl)

set_option maxRecDepth 100000 in
set_option maxHeartbeats 4000000 in
theorem c_X12_shareOf (l : Launch) (D : DD) (G : Nat → Nat) (a0 : Nat) (x1 : Int32) (ga0 : G a0 = 30) : CE l D G yX12_shareOf cX12_shareOf 3 (some .int) 11 [.ref a0, .int x1] (fun _ => True) [(38, 0)] (xI (fun H r H1 => True)) := by
  refine enter (by decide) (Nat.le_of_ble_eq_true rfl) ?_
  intro p e s m args below meth c ls Q hA hQ C hr hO hpre hl
  have hx := C.1
  have hb := C.2.1
  have S : Sd D G [(38, 0)] s.heap s.heap [] := Sd.start hO
  have hl : lv_has ls 3 [(0, .ref a0), (1, .int x1)] := hl
  refine lv_aload_n hx hb dX12_shareOf_0 rfl (lv_at hl 0 rfl) ?_
  refine callV_Ei C S (c_X12_paysOfAll l D G a0 ga0) kV_X12_296 ga0 (trivial) (by decide +kernel) dX12_shareOf_1 hl.1 rfl rfl (by decide) cd_X12_paysOfAll ⟨Nat.le_of_ble_eq_true rfl, Nat.le_of_ble_eq_true rfl, Nat.le_of_ble_eq_true rfl, Nat.le_of_ble_eq_true rfl, Nat.le_of_ble_eq_true rfl⟩ (fun v1 H1 L1 S1 K1 q1 => ?_)
  refine lv_istore_n (lv' := [(2, .int v1), (0, .ref a0), (1, .int x1)]) hx hb dX12_shareOf_4 rfl hl (by decide) rfl (fun ls hl => ?_)
  refine lv_iload_n hx hb dX12_shareOf_5 rfl (lv_at hl 0 rfl) ?_
  have k_0 : (0 : Int32).toInt = 0 := by decide
  refine lv_if_ne (tgt := 13) hx hb dX12_shareOf_6 (by decide) (fun c2 => ?_) (fun c2 => ?_)
  · have b2 : ¬ v1.toInt = (0 : Int32).toInt := fun z9 => c2 (i_eq.mpr z9)
    refine lv_bipush (v := 100) hx hb dX12_shareOf_13 (by decide) ?_
    refine lv_aload_n hx hb dX12_shareOf_15 rfl (lv_at hl 1 rfl) ?_
    refine lv_iload_n hx hb dX12_shareOf_16 rfl (lv_at hl 2 rfl) ?_
    refine callV_Ei C S1 (c_X12_paysOf l D G a0 x1 ga0) kV_X12_293 ga0 (trivial) (by decide +kernel) dX12_shareOf_17 hl.1 rfl rfl (by decide) cd_X12_paysOf ⟨Nat.le_of_ble_eq_true rfl, Nat.le_of_ble_eq_true rfl, Nat.le_of_ble_eq_true rfl, Nat.le_of_ble_eq_true rfl, Nat.le_of_ble_eq_true rfl⟩ (fun v3 H3 L3 S3 K3 q3 => ?_)
    have k_100 : (100 : Int32).toInt = 100 := by decide
    refine lv_imul hx hb dX12_shareOf_20 ?_
    refine lv_topi (fun v4 ev4 => ?_)
    refine lv_iload_n hx hb dX12_shareOf_21 rfl (lv_at hl 0 rfl) ?_
    refine lv_idiv hx hb dX12_shareOf_22 (by first | decide | (intro z9; have := i_eq.mp z9; simp at this; omega) | assumption) ?_
    refine lv_topi (fun v5 ev5 => ?_)
    exact retE_i hQ C S3 hr dX12_shareOf_23 (trivial)
  · have b2 : v1.toInt = (0 : Int32).toInt := i_eq.mp c2
    refine lv_iconst (v := 0) hx hb dX12_shareOf_9 (by decide) ?_
    refine lv_goto (tgt := 23) hx hb dX12_shareOf_10 (by decide) ?_
    exact retE_i hQ C S1 hr dX12_shareOf_23 (trivial)

set_option maxRecDepth 100000 in
set_option maxHeartbeats 4000000 in
theorem c_X12_house (l : Launch) (D : DD) (G : Nat → Nat) (a0 : Nat) (x1 : Int32) (x2 : Int32) (ga0 : G a0 = 30) : CE l D G yX12_house cX12_house 3 (some .int) 12 [.ref a0, .int x1, .int x2] (fun _ => True) [(30, 0), (38, 0)] (xI (fun H r H1 => True)) := by
  refine enter (by decide) (Nat.le_of_ble_eq_true rfl) ?_
  intro p e s m args below meth c ls Q hA hQ C hr hO hpre hl
  have hx := C.1
  have hb := C.2.1
  have S : Sd D G [(30, 0), (38, 0)] s.heap s.heap [] := Sd.start hO
  have hl : lv_has ls 3 [(0, .ref a0), (1, .int x1), (2, .int x2)] := hl
  refine lv_aload_n hx hb dX12_house_0 rfl (lv_at hl 0 rfl) ?_
  refine lv_iconst (v := 0) hx hb dX12_house_1 (by decide) ?_
  have k_0 : (0 : Int32).toInt = 0 := by decide
  refine q_put (T := TX12) C S ga0 0 kF_X12_3 dX12_house_2 rfl rfl (by decide) (by decide) rfl rfl rfl rfl rfl (vok_a rfl) (by decide +kernel) (fun H1 L1 S1 P1 => ?_)
  refine lv_aload_n hx hb dX12_house_5 rfl (lv_at hl 0 rfl) ?_
  refine lv_aload_n hx hb dX12_house_6 rfl (lv_at hl 0 rfl) ?_
  refine lv_iload_n hx hb dX12_house_7 rfl (lv_at hl 1 rfl) ?_
  refine callV_Pi C S1.1 S1.2.1.2.1 (c_X12_noHouse l D G a0 x1 ga0) kV_X12_299 ga0 (trivial) dX12_house_8 hl.1 rfl rfl (by decide) cd_X12_noHouse ⟨Nat.le_of_ble_eq_true rfl, Nat.le_of_ble_eq_true rfl, Nat.le_of_ble_eq_true rfl, Nat.le_of_ble_eq_true rfl, Nat.le_of_ble_eq_true rfl⟩ (fun v2 q2 => ?_)
  rcases q2 with q2 | q2
  · skip
    refine lv_iconst (v := 1) hx hb dX12_house_11 (by decide) ?_
    have k_1 : (1 : Int32).toInt = 1 := by decide
    refine callV_Ei C S1 (c_X12_throwsIf l D G a0 v2 (1 : Int32) ga0 (by omega)) kV_X12_246 ga0 (trivial) (by decide +kernel) dX12_house_12 hl.1 rfl rfl (by decide) cd_X12_throwsIf ⟨Nat.le_of_ble_eq_true rfl, Nat.le_of_ble_eq_true rfl, Nat.le_of_ble_eq_true rfl, Nat.le_of_ble_eq_true rfl, Nat.le_of_ble_eq_true rfl⟩ (fun v3 H3 L3 S3 K3 q3 => ?_)
    refine lv_if_ne (tgt := 41) hx hb dX12_house_15 (by decide) (fun c4 => ?_) (fun c4 => ?_)
    · have b4 : ¬ v3.toInt = (0 : Int32).toInt := fun z9 => c4 (i_eq.mpr z9)
      exact absurd b4 (by omega)
    · have b4 : v3.toInt = (0 : Int32).toInt := i_eq.mp c4
      refine lv_aload_n hx hb dX12_house_18 rfl (lv_at hl 0 rfl) ?_
      refine lv_iload_n hx hb dX12_house_19 rfl (lv_at hl 2 rfl) ?_
      refine lv_iconst (v := 0) hx hb dX12_house_20 (by decide) ?_
      refine lv_bipush (v := 10) hx hb dX12_house_21 (by decide) ?_
      have k_10 : (10 : Int32).toInt = 10 := by decide
      refine callS_Pi C S3.1 S3.2.1.2.1 (c_X12_in l D G x2 (0 : Int32) (10 : Int32)) kS_X12_63 (trivial) dX12_house_23 hl.1 cd_X12_in ⟨Nat.le_of_ble_eq_true rfl, Nat.le_of_ble_eq_true rfl, Nat.le_of_ble_eq_true rfl, Nat.le_of_ble_eq_true rfl, Nat.le_of_ble_eq_true rfl⟩ (fun v5 q5 => ?_)
      rcases q5 with q5 | q5
      · skip
        refine lv_if_ne (tgt := 33) hx hb dX12_house_26 (by decide) (fun c6 => ?_) (fun c6 => ?_)
        · have b6 : ¬ v5.toInt = (0 : Int32).toInt := fun z9 => c6 (i_eq.mpr z9)
          refine lv_iconst (v := 0) hx hb dX12_house_33 (by decide) ?_
          refine lv_iconst (v := 2) hx hb dX12_house_34 (by decide) ?_
          have k_2 : (2 : Int32).toInt = 2 := by decide
          refine callV_Ei C S3 (c_X12_throwsIf l D G a0 (0 : Int32) (2 : Int32) ga0 (by omega)) kV_X12_246 ga0 (trivial) (by decide +kernel) dX12_house_35 hl.1 rfl rfl (by decide) cd_X12_throwsIf ⟨Nat.le_of_ble_eq_true rfl, Nat.le_of_ble_eq_true rfl, Nat.le_of_ble_eq_true rfl, Nat.le_of_ble_eq_true rfl, Nat.le_of_ble_eq_true rfl⟩ (fun v7 H7 L7 S7 K7 q7 => ?_)
          refine lv_if_eq (tgt := 43) hx hb dX12_house_38 (by decide) (fun c8 => ?_) (fun c8 => ?_)
          · have b8 : v7.toInt = (0 : Int32).toInt := i_eq.mp c8
            refine lv_iload_n hx hb dX12_house_43 rfl (lv_at hl 2 rfl) ?_
            by_cases w9 : x2.toInt = (5)
            · refine lv_tableIn (tgt := 84) (off := 40) hx hb dX12_house_44 (by omega) (by omega) (by rw [w9]; rfl) (by decide) ?_
              refine lv_aload_n hx hb dX12_house_84 rfl (lv_at hl 0 rfl) ?_
              refine lv_iload_n hx hb dX12_house_85 rfl (lv_at hl 1 rfl) ?_
              refine callV_Ei C S7 (c_X12_paysOf l D G a0 x1 ga0) kV_X12_293 ga0 (trivial) (by decide +kernel) dX12_house_86 hl.1 rfl rfl (by decide) cd_X12_paysOf ⟨Nat.le_of_ble_eq_true rfl, Nat.le_of_ble_eq_true rfl, Nat.le_of_ble_eq_true rfl, Nat.le_of_ble_eq_true rfl, Nat.le_of_ble_eq_true rfl⟩ (fun v10 H10 L10 S10 K10 q10 => ?_)
              exact retE_i hQ C S10 hr dX12_house_89 (trivial)
            by_cases w11 : x2.toInt = (6)
            · refine lv_tableIn (tgt := 90) (off := 46) hx hb dX12_house_44 (by omega) (by omega) (by rw [w11]; rfl) (by decide) ?_
              refine lv_aload_n hx hb dX12_house_90 rfl (lv_at hl 0 rfl) ?_
              refine lv_iload_n hx hb dX12_house_91 rfl (lv_at hl 1 rfl) ?_
              refine callV_Ei C S7 (c_X12_hopesOf l D G a0 x1 ga0) kV_X12_302 ga0 (trivial) (by decide +kernel) dX12_house_92 hl.1 rfl rfl (by decide) cd_X12_hopesOf ⟨Nat.le_of_ble_eq_true rfl, Nat.le_of_ble_eq_true rfl, Nat.le_of_ble_eq_true rfl, Nat.le_of_ble_eq_true rfl, Nat.le_of_ble_eq_true rfl⟩ (fun v12 H12 L12 S12 K12 q12 => ?_)
              exact retE_i hQ C S12 hr dX12_house_95 (trivial)
            by_cases w13 : x2.toInt = (7)
            · refine lv_tableIn (tgt := 96) (off := 52) hx hb dX12_house_44 (by omega) (by omega) (by rw [w13]; rfl) (by decide) ?_
              refine lv_aload_n hx hb dX12_house_96 rfl (lv_at hl 0 rfl) ?_
              refine lv_iload_n hx hb dX12_house_97 rfl (lv_at hl 1 rfl) ?_
              refine callV_Pi C S7.1 S7.2.1.2.1 (c_X12_warmthOf l D G a0 x1 ga0) kV_X12_305 ga0 (trivial) dX12_house_98 hl.1 rfl rfl (by decide) cd_X12_warmthOf ⟨Nat.le_of_ble_eq_true rfl, Nat.le_of_ble_eq_true rfl, Nat.le_of_ble_eq_true rfl, Nat.le_of_ble_eq_true rfl, Nat.le_of_ble_eq_true rfl⟩ (fun v14 q14 => ?_)
              exact retE_i hQ C S7 hr dX12_house_101 (trivial)
            by_cases w15 : x2.toInt = (8)
            · refine lv_tableIn (tgt := 102) (off := 58) hx hb dX12_house_44 (by omega) (by omega) (by rw [w15]; rfl) (by decide) ?_
              refine lv_aload_n hx hb dX12_house_102 rfl (lv_at hl 0 rfl) ?_
              refine lv_iload_n hx hb dX12_house_103 rfl (lv_at hl 1 rfl) ?_
              refine callV_Pi C S7.1 S7.2.1.2.1 (c_X12_smokeOf l D G a0 x1 ga0) kV_X12_308 ga0 (trivial) dX12_house_104 hl.1 rfl rfl (by decide) cd_X12_smokeOf ⟨Nat.le_of_ble_eq_true rfl, Nat.le_of_ble_eq_true rfl, Nat.le_of_ble_eq_true rfl, Nat.le_of_ble_eq_true rfl, Nat.le_of_ble_eq_true rfl⟩ (fun v16 q16 => ?_)
              exact retE_i hQ C S7 hr dX12_house_107 (trivial)
            by_cases w17 : x2.toInt = (9)
            · refine lv_tableIn (tgt := 108) (off := 64) hx hb dX12_house_44 (by omega) (by omega) (by rw [w17]; rfl) (by decide) ?_
              refine lv_aload_n hx hb dX12_house_108 rfl (lv_at hl 0 rfl) ?_
              refine lv_iload_n hx hb dX12_house_109 rfl (lv_at hl 1 rfl) ?_
              refine callV_Ei C S7 (c_X12_shareOf l D G a0 x1 ga0) kV_X12_311 ga0 (trivial) (by decide +kernel) dX12_house_110 hl.1 rfl rfl (by decide) cd_X12_shareOf ⟨Nat.le_of_ble_eq_true rfl, Nat.le_of_ble_eq_true rfl, Nat.le_of_ble_eq_true rfl, Nat.le_of_ble_eq_true rfl, Nat.le_of_ble_eq_true rfl⟩ (fun v18 H18 L18 S18 K18 q18 => ?_)
              exact retE_i hQ C S18 hr dX12_house_113 (trivial)
            by_cases w19 : x2.toInt = (10)
            · refine lv_tableIn (tgt := 114) (off := 70) hx hb dX12_house_44 (by omega) (by omega) (by rw [w19]; rfl) (by decide) ?_
              refine lv_aload_n hx hb dX12_house_114 rfl (lv_at hl 0 rfl) ?_
              refine lv_iload_n hx hb dX12_house_115 rfl (lv_at hl 1 rfl) ?_
              refine callV_Pi C S7.1 S7.2.1.2.1 (c_X12_hearthsOf l D G a0 x1 ga0) kV_X12_138 ga0 (trivial) dX12_house_116 hl.1 rfl rfl (by decide) cd_X12_hearthsOf ⟨Nat.le_of_ble_eq_true rfl, Nat.le_of_ble_eq_true rfl, Nat.le_of_ble_eq_true rfl, Nat.le_of_ble_eq_true rfl, Nat.le_of_ble_eq_true rfl⟩ (fun v20 q20 => ?_)
              exact retE_i hQ C S7 hr dX12_house_119 (trivial)
            refine lv_tableOut (tgt := 120) hx hb dX12_house_44 (by omega) (by decide) ?_
            refine lv_aload_n hx hb dX12_house_120 rfl (lv_at hl 0 rfl) ?_
            refine lv_iload_n hx hb dX12_house_121 rfl (lv_at hl 1 rfl) ?_
            refine lv_iload_n hx hb dX12_house_122 rfl (lv_at hl 2 rfl) ?_
            refine callV_Pi C S7.1 S7.2.1.2.1 (c_X12_of l D G a0 x1 x2 ga0 (by omega) (by omega)) kV_X12_255 ga0 (trivial) dX12_house_123 hl.1 rfl rfl (by decide) cd_X12_of ⟨Nat.le_of_ble_eq_true rfl, Nat.le_of_ble_eq_true rfl, Nat.le_of_ble_eq_true rfl, Nat.le_of_ble_eq_true rfl, Nat.le_of_ble_eq_true rfl⟩ (fun v21 q21 => ?_)
            exact retE_i hQ C S7 hr dX12_house_126 (trivial)
          · have b8 : ¬ v7.toInt = (0 : Int32).toInt := fun z9 => c8 (i_eq.mpr z9)
            exact absurd b8 (by omega)
        · have b6 : v5.toInt = (0 : Int32).toInt := i_eq.mp c6
          exact absurd b6 (by omega)
      · skip
        refine lv_if_ne (tgt := 33) hx hb dX12_house_26 (by decide) (fun c22 => ?_) (fun c22 => ?_)
        · have b22 : ¬ v5.toInt = (0 : Int32).toInt := fun z9 => c22 (i_eq.mpr z9)
          exact absurd b22 (by omega)
        · have b22 : v5.toInt = (0 : Int32).toInt := i_eq.mp c22
          refine lv_iconst (v := 1) hx hb dX12_house_29 (by decide) ?_
          refine lv_goto (tgt := 34) hx hb dX12_house_30 (by decide) ?_
          refine lv_iconst (v := 2) hx hb dX12_house_34 (by decide) ?_
          have k_2 : (2 : Int32).toInt = 2 := by decide
          refine callV_Ei C S3 (c_X12_throwsIf l D G a0 (1 : Int32) (2 : Int32) ga0 (by omega)) kV_X12_246 ga0 (trivial) (by decide +kernel) dX12_house_35 hl.1 rfl rfl (by decide) cd_X12_throwsIf ⟨Nat.le_of_ble_eq_true rfl, Nat.le_of_ble_eq_true rfl, Nat.le_of_ble_eq_true rfl, Nat.le_of_ble_eq_true rfl, Nat.le_of_ble_eq_true rfl⟩ (fun v23 H23 L23 S23 K23 q23 => ?_)
          refine lv_if_eq (tgt := 43) hx hb dX12_house_38 (by decide) (fun c24 => ?_) (fun c24 => ?_)
          · have b24 : v23.toInt = (0 : Int32).toInt := i_eq.mp c24
            exact absurd b24 (by omega)
          · have b24 : ¬ v23.toInt = (0 : Int32).toInt := fun z9 => c24 (i_eq.mpr z9)
            refine lv_iconst (v := 0) hx hb dX12_house_41 (by decide) ?_
            exact retE_i hQ C S23 hr dX12_house_42 (trivial)
  · skip
    refine lv_iconst (v := 1) hx hb dX12_house_11 (by decide) ?_
    have k_1 : (1 : Int32).toInt = 1 := by decide
    refine callV_Ei C S1 (c_X12_throwsIf l D G a0 v2 (1 : Int32) ga0 (by omega)) kV_X12_246 ga0 (trivial) (by decide +kernel) dX12_house_12 hl.1 rfl rfl (by decide) cd_X12_throwsIf ⟨Nat.le_of_ble_eq_true rfl, Nat.le_of_ble_eq_true rfl, Nat.le_of_ble_eq_true rfl, Nat.le_of_ble_eq_true rfl, Nat.le_of_ble_eq_true rfl⟩ (fun v25 H25 L25 S25 K25 q25 => ?_)
    refine lv_if_ne (tgt := 41) hx hb dX12_house_15 (by decide) (fun c26 => ?_) (fun c26 => ?_)
    · have b26 : ¬ v25.toInt = (0 : Int32).toInt := fun z9 => c26 (i_eq.mpr z9)
      refine lv_iconst (v := 0) hx hb dX12_house_41 (by decide) ?_
      exact retE_i hQ C S25 hr dX12_house_42 (trivial)
    · have b26 : v25.toInt = (0 : Int32).toInt := i_eq.mp c26
      exact absurd b26 (by omega)

set_option maxRecDepth 100000 in
set_option maxHeartbeats 4000000 in
theorem c_X12_hearth (l : Launch) (D : DD) (G : Nat → Nat) (a0 : Nat) (x1 : Int32) (x2 : Int32) (ga0 : G a0 = 30) : CE l D G yX12_hearth cX12_hearth 3 (some .int) 9 [.ref a0, .int x1, .int x2] (fun _ => True) [(30, 0), (38, 0)] (xI (fun H r H1 => True)) := by
  refine enter (by decide) (Nat.le_of_ble_eq_true rfl) ?_
  intro p e s m args below meth c ls Q hA hQ C hr hO hpre hl
  have hx := C.1
  have hb := C.2.1
  have S : Sd D G [(30, 0), (38, 0)] s.heap s.heap [] := Sd.start hO
  have hl : lv_has ls 3 [(0, .ref a0), (1, .int x1), (2, .int x2)] := hl
  refine lv_aload_n hx hb dX12_hearth_0 rfl (lv_at hl 0 rfl) ?_
  refine lv_iconst (v := 0) hx hb dX12_hearth_1 (by decide) ?_
  have k_0 : (0 : Int32).toInt = 0 := by decide
  refine q_put (T := TX12) C S ga0 0 kF_X12_3 dX12_hearth_2 rfl rfl (by decide) (by decide) rfl rfl rfl rfl rfl (vok_a rfl) (by decide +kernel) (fun H1 L1 S1 P1 => ?_)
  refine lv_aload_n hx hb dX12_hearth_5 rfl (lv_at hl 0 rfl) ?_
  refine lv_aload_n hx hb dX12_hearth_6 rfl (lv_at hl 0 rfl) ?_
  refine lv_iload_n hx hb dX12_hearth_7 rfl (lv_at hl 1 rfl) ?_
  refine callV_Pi C S1.1 S1.2.1.2.1 (c_X12_noHearth l D G a0 x1 ga0) kV_X12_314 ga0 (trivial) dX12_hearth_8 hl.1 rfl rfl (by decide) cd_X12_noHearth ⟨Nat.le_of_ble_eq_true rfl, Nat.le_of_ble_eq_true rfl, Nat.le_of_ble_eq_true rfl, Nat.le_of_ble_eq_true rfl, Nat.le_of_ble_eq_true rfl⟩ (fun v2 q2 => ?_)
  rcases q2 with q2 | q2
  · skip
    refine lv_iconst (v := 1) hx hb dX12_hearth_11 (by decide) ?_
    have k_1 : (1 : Int32).toInt = 1 := by decide
    refine callV_Ei C S1 (c_X12_throwsIf l D G a0 v2 (1 : Int32) ga0 (by omega)) kV_X12_246 ga0 (trivial) (by decide +kernel) dX12_hearth_12 hl.1 rfl rfl (by decide) cd_X12_throwsIf ⟨Nat.le_of_ble_eq_true rfl, Nat.le_of_ble_eq_true rfl, Nat.le_of_ble_eq_true rfl, Nat.le_of_ble_eq_true rfl, Nat.le_of_ble_eq_true rfl⟩ (fun v3 H3 L3 S3 K3 q3 => ?_)
    refine lv_if_ne (tgt := 41) hx hb dX12_hearth_15 (by decide) (fun c4 => ?_) (fun c4 => ?_)
    · have b4 : ¬ v3.toInt = (0 : Int32).toInt := fun z9 => c4 (i_eq.mpr z9)
      exact absurd b4 (by omega)
    · have b4 : v3.toInt = (0 : Int32).toInt := i_eq.mp c4
      refine lv_aload_n hx hb dX12_hearth_18 rfl (lv_at hl 0 rfl) ?_
      refine lv_iload_n hx hb dX12_hearth_19 rfl (lv_at hl 2 rfl) ?_
      refine lv_iconst (v := 0) hx hb dX12_hearth_20 (by decide) ?_
      refine lv_bipush (v := 7) hx hb dX12_hearth_21 (by decide) ?_
      have k_7 : (7 : Int32).toInt = 7 := by decide
      refine callS_Pi C S3.1 S3.2.1.2.1 (c_X12_in l D G x2 (0 : Int32) (7 : Int32)) kS_X12_63 (trivial) dX12_hearth_23 hl.1 cd_X12_in ⟨Nat.le_of_ble_eq_true rfl, Nat.le_of_ble_eq_true rfl, Nat.le_of_ble_eq_true rfl, Nat.le_of_ble_eq_true rfl, Nat.le_of_ble_eq_true rfl⟩ (fun v5 q5 => ?_)
      rcases q5 with q5 | q5
      · skip
        refine lv_if_ne (tgt := 33) hx hb dX12_hearth_26 (by decide) (fun c6 => ?_) (fun c6 => ?_)
        · have b6 : ¬ v5.toInt = (0 : Int32).toInt := fun z9 => c6 (i_eq.mpr z9)
          refine lv_iconst (v := 0) hx hb dX12_hearth_33 (by decide) ?_
          refine lv_iconst (v := 2) hx hb dX12_hearth_34 (by decide) ?_
          have k_2 : (2 : Int32).toInt = 2 := by decide
          refine callV_Ei C S3 (c_X12_throwsIf l D G a0 (0 : Int32) (2 : Int32) ga0 (by omega)) kV_X12_246 ga0 (trivial) (by decide +kernel) dX12_hearth_35 hl.1 rfl rfl (by decide) cd_X12_throwsIf ⟨Nat.le_of_ble_eq_true rfl, Nat.le_of_ble_eq_true rfl, Nat.le_of_ble_eq_true rfl, Nat.le_of_ble_eq_true rfl, Nat.le_of_ble_eq_true rfl⟩ (fun v7 H7 L7 S7 K7 q7 => ?_)
          refine lv_if_eq (tgt := 43) hx hb dX12_hearth_38 (by decide) (fun c8 => ?_) (fun c8 => ?_)
          · have b8 : v7.toInt = (0 : Int32).toInt := i_eq.mp c8
            refine lv_iload_n hx hb dX12_hearth_43 rfl (lv_at hl 2 rfl) ?_
            refine lv_bipush (v := 6) hx hb dX12_hearth_44 (by decide) ?_
            have k_6 : (6 : Int32).toInt = 6 := by decide
            refine lv_icmp_ne (tgt := 57) hx hb dX12_hearth_46 (by decide) (fun c9 => ?_) (fun c9 => ?_)
            · have b9 : ¬ x2.toInt = (6 : Int32).toInt := fun z9 => c9 (i_eq.mpr z9)
              refine lv_iload_n hx hb dX12_hearth_57 rfl (lv_at hl 2 rfl) ?_
              refine lv_bipush (v := 7) hx hb dX12_hearth_58 (by decide) ?_
              refine lv_icmp_ne (tgt := 71) hx hb dX12_hearth_60 (by decide) (fun c10 => ?_) (fun c10 => ?_)
              · have b10 : ¬ x2.toInt = (7 : Int32).toInt := fun z9 => c10 (i_eq.mpr z9)
                refine lv_aload_n hx hb dX12_hearth_71 rfl (lv_at hl 0 rfl) ?_
                refine lv_iload_n hx hb dX12_hearth_72 rfl (lv_at hl 1 rfl) ?_
                refine lv_iload_n hx hb dX12_hearth_73 rfl (lv_at hl 2 rfl) ?_
                refine callV_Pi C S7.1 S7.2.1.2.1 (c_X12_ofHearth l D G a0 x1 x2 ga0 (by omega) (by omega)) kV_X12_56 ga0 (trivial) dX12_hearth_74 hl.1 rfl rfl (by decide) cd_X12_ofHearth ⟨Nat.le_of_ble_eq_true rfl, Nat.le_of_ble_eq_true rfl, Nat.le_of_ble_eq_true rfl, Nat.le_of_ble_eq_true rfl, Nat.le_of_ble_eq_true rfl⟩ (fun v11 q11 => ?_)
                exact retE_i hQ C S7 hr dX12_hearth_77 (trivial)
              · have b10 : x2.toInt = (7 : Int32).toInt := i_eq.mp c10
                refine lv_aload_n hx hb dX12_hearth_63 rfl (lv_at hl 0 rfl) ?_
                refine lv_iload_n hx hb dX12_hearth_64 rfl (lv_at hl 1 rfl) ?_
                refine callV_Ei C S7 (c_X12_foundBy l D G a0 x1 ga0 (by omega)) kV_X12_284 ga0 (trivial) (by decide +kernel) dX12_hearth_65 hl.1 rfl rfl (by decide) cd_X12_foundBy ⟨Nat.le_of_ble_eq_true rfl, Nat.le_of_ble_eq_true rfl, Nat.le_of_ble_eq_true rfl, Nat.le_of_ble_eq_true rfl, Nat.le_of_ble_eq_true rfl⟩ (fun v12 H12 L12 S12 K12 q12 => ?_)
                refine lv_goto (tgt := 77) hx hb dX12_hearth_68 (by decide) ?_
                exact retE_i hQ C S12 hr dX12_hearth_77 (trivial)
            · have b9 : x2.toInt = (6 : Int32).toInt := i_eq.mp c9
              refine lv_aload_n hx hb dX12_hearth_49 rfl (lv_at hl 0 rfl) ?_
              refine lv_iload_n hx hb dX12_hearth_50 rfl (lv_at hl 1 rfl) ?_
              refine callV_Ei C S7 (c_X12_taxOf l D G a0 x1 ga0 (by omega)) kV_X12_278 ga0 (trivial) (by decide +kernel) dX12_hearth_51 hl.1 rfl rfl (by decide) cd_X12_taxOf ⟨Nat.le_of_ble_eq_true rfl, Nat.le_of_ble_eq_true rfl, Nat.le_of_ble_eq_true rfl, Nat.le_of_ble_eq_true rfl, Nat.le_of_ble_eq_true rfl⟩ (fun v13 H13 L13 S13 K13 q13 => ?_)
              refine lv_goto (tgt := 77) hx hb dX12_hearth_54 (by decide) ?_
              exact retE_i hQ C S13 hr dX12_hearth_77 (trivial)
          · have b8 : ¬ v7.toInt = (0 : Int32).toInt := fun z9 => c8 (i_eq.mpr z9)
            exact absurd b8 (by omega)
        · have b6 : v5.toInt = (0 : Int32).toInt := i_eq.mp c6
          exact absurd b6 (by omega)
      · skip
        refine lv_if_ne (tgt := 33) hx hb dX12_hearth_26 (by decide) (fun c14 => ?_) (fun c14 => ?_)
        · have b14 : ¬ v5.toInt = (0 : Int32).toInt := fun z9 => c14 (i_eq.mpr z9)
          exact absurd b14 (by omega)
        · have b14 : v5.toInt = (0 : Int32).toInt := i_eq.mp c14
          refine lv_iconst (v := 1) hx hb dX12_hearth_29 (by decide) ?_
          refine lv_goto (tgt := 34) hx hb dX12_hearth_30 (by decide) ?_
          refine lv_iconst (v := 2) hx hb dX12_hearth_34 (by decide) ?_
          have k_2 : (2 : Int32).toInt = 2 := by decide
          refine callV_Ei C S3 (c_X12_throwsIf l D G a0 (1 : Int32) (2 : Int32) ga0 (by omega)) kV_X12_246 ga0 (trivial) (by decide +kernel) dX12_hearth_35 hl.1 rfl rfl (by decide) cd_X12_throwsIf ⟨Nat.le_of_ble_eq_true rfl, Nat.le_of_ble_eq_true rfl, Nat.le_of_ble_eq_true rfl, Nat.le_of_ble_eq_true rfl, Nat.le_of_ble_eq_true rfl⟩ (fun v15 H15 L15 S15 K15 q15 => ?_)
          refine lv_if_eq (tgt := 43) hx hb dX12_hearth_38 (by decide) (fun c16 => ?_) (fun c16 => ?_)
          · have b16 : v15.toInt = (0 : Int32).toInt := i_eq.mp c16
            exact absurd b16 (by omega)
          · have b16 : ¬ v15.toInt = (0 : Int32).toInt := fun z9 => c16 (i_eq.mpr z9)
            refine lv_iconst (v := 0) hx hb dX12_hearth_41 (by decide) ?_
            exact retE_i hQ C S15 hr dX12_hearth_42 (trivial)
  · skip
    refine lv_iconst (v := 1) hx hb dX12_hearth_11 (by decide) ?_
    have k_1 : (1 : Int32).toInt = 1 := by decide
    refine callV_Ei C S1 (c_X12_throwsIf l D G a0 v2 (1 : Int32) ga0 (by omega)) kV_X12_246 ga0 (trivial) (by decide +kernel) dX12_hearth_12 hl.1 rfl rfl (by decide) cd_X12_throwsIf ⟨Nat.le_of_ble_eq_true rfl, Nat.le_of_ble_eq_true rfl, Nat.le_of_ble_eq_true rfl, Nat.le_of_ble_eq_true rfl, Nat.le_of_ble_eq_true rfl⟩ (fun v17 H17 L17 S17 K17 q17 => ?_)
    refine lv_if_ne (tgt := 41) hx hb dX12_hearth_15 (by decide) (fun c18 => ?_) (fun c18 => ?_)
    · have b18 : ¬ v17.toInt = (0 : Int32).toInt := fun z9 => c18 (i_eq.mpr z9)
      refine lv_iconst (v := 0) hx hb dX12_hearth_41 (by decide) ?_
      exact retE_i hQ C S17 hr dX12_hearth_42 (trivial)
    · have b18 : v17.toInt = (0 : Int32).toInt := i_eq.mp c18
      exact absurd b18 (by omega)

set_option maxRecDepth 100000 in
set_option maxHeartbeats 4000000 in
theorem c_X12_is (l : Launch) (D : DD) (G : Nat → Nat) (a0 : Nat) (x1 : Int32) (x2 : Int32) (x3 : Int32) (ga0 : G a0 = 30) (ix1 : 0 ≤ x1.toInt ∧ x1.toInt ≤ 11) : CE l D G yX12_is cX12_is 5 (some .int) 2 [.ref a0, .int x1, .int x2, .int x3] (fun _ => True) [(31, 0), (35, 0), (30, 7)] (xI (fun H r H1 => (True) ∧ (∀ Vv Kv : Sg, MI D H a0 Vv Kv → MI D H1 a0 Vv Kv))) := by
  refine enter (by decide) (Nat.le_of_ble_eq_true rfl) ?_
  intro p e s m args below meth c ls Q hA hQ C hr hO hpre hl
  have hx := C.1
  have hb := C.2.1
  have S : Sd D G [(31, 0), (35, 0), (30, 7)] s.heap s.heap [] := Sd.start hO
  have hl : lv_has ls 5 [(0, .ref a0), (1, .int x1), (2, .int x2), (3, .int x3)] := hl
  have rk0 : ∀ Vv Kv : Sg, MI D s.heap a0 Vv Kv → MI D s.heap a0 Vv Kv := fun Vv Kv hv => hv
  refine lv_aload_n hx hb dX12_is_0 rfl (lv_at hl 0 rfl) ?_
  refine callV_Ev C S (c_X12_remembers l D G a0 ga0) kV_X12_317 ga0 (trivial) (by decide +kernel) dX12_is_1 hl.1 rfl rfl (by decide) cd_X12_remembers ⟨Nat.le_of_ble_eq_true rfl, Nat.le_of_ble_eq_true rfl, Nat.le_of_ble_eq_true rfl, Nat.le_of_ble_eq_true rfl, Nat.le_of_ble_eq_true rfl⟩ (fun H1 L1 S1 K1 q1 => ?_)
  obtain ⟨q1, rq1⟩ := q1
  have rk1 : ∀ Vv Kv : Sg, MI D s.heap a0 Vv Kv → MI D H1 a0 Vv Kv := fun Vv Kv hv => rq1 Vv Kv (rk0 Vv Kv hv)
  refine lv_aload_n hx hb dX12_is_4 rfl (lv_at hl 0 rfl) ?_
  refine lv_iload_n hx hb dX12_is_5 rfl (lv_at hl 1 rfl) ?_
  refine lv_iconst (v := 0) hx hb dX12_is_6 (by decide) ?_
  have k_0 : (0 : Int32).toInt = 0 := by decide
  refine callV_Pi C S1.1 S1.2.1.2.1 (c_X12_ofHearth l D G a0 x1 (0 : Int32) ga0 (by omega) (by omega)) kV_X12_56 ga0 (trivial) dX12_is_7 hl.1 rfl rfl (by decide) cd_X12_ofHearth ⟨Nat.le_of_ble_eq_true rfl, Nat.le_of_ble_eq_true rfl, Nat.le_of_ble_eq_true rfl, Nat.le_of_ble_eq_true rfl, Nat.le_of_ble_eq_true rfl⟩ (fun v2 q2 => ?_)
  refine lv_iconst (v := 0) hx hb dX12_is_10 (by decide) ?_
  refine callS_Pi C S1.1 S1.2.1.2.1 (c_X12_houseAt l D G v2 (0 : Int32) (by omega) (by omega)) kS_X12_49 (trivial) dX12_is_11 hl.1 cd_X12_houseAt ⟨Nat.le_of_ble_eq_true rfl, Nat.le_of_ble_eq_true rfl, Nat.le_of_ble_eq_true rfl, Nat.le_of_ble_eq_true rfl, Nat.le_of_ble_eq_true rfl⟩ (fun v3 q3 => ?_)
  refine lv_istore (lv' := [(4, .int v3), (0, .ref a0), (1, .int x1), (2, .int x2), (3, .int x3)]) hx hb dX12_is_14 hl (by decide) rfl (fun ls hl => ?_)
  refine lv_aload_n hx hb dX12_is_16 rfl (lv_at hl 1 rfl) ?_
  refine q_gr (T := TX12) C S1.1 ga0 1 kF_X12_13 dX12_is_17 rfl rfl (by decide) rfl (by decide) rfl (fun g4 => ?_)
  refine lv_iload_n hx hb dX12_is_20 rfl (lv_at hl 2 rfl) ?_
  refine lv_iconst (v := 5) hx hb dX12_is_21 (by decide) ?_
  have k_5 : (5 : Int32).toInt = 5 := by decide
  refine callS_Pi C S1.1 S1.2.1.2.1 (c_X12_hearthAt l D G x1 (5 : Int32) (by omega) (by omega)) kS_X12_53 (trivial) dX12_is_22 hl.1 cd_X12_hearthAt ⟨Nat.le_of_ble_eq_true rfl, Nat.le_of_ble_eq_true rfl, Nat.le_of_ble_eq_true rfl, Nat.le_of_ble_eq_true rfl, Nat.le_of_ble_eq_true rfl⟩ (fun v5 q5 => ?_)
  refine lv_iload_n hx hb dX12_is_25 rfl (lv_at hl 3 rfl) ?_
  have n6 : aN H1 (fR D H1 11 a0 1) = 2052 := len_31 S1.1 g4
  refine q_iast C S1 g4 (by omega) (by omega) dX12_is_26 rfl (by decide) (by decide +kernel) (fun _ _ h => wk_low _ _ (by omega) (fun h9 => by omega) (fun h9 => by omega) (fun h9 => by omega) (fun j hj h9 => by omega) h) (fun H7 L7 S7 P7 => ?_) (hs := fun _ => Or.inr (vy_no (by omega) (by omega) (by omega) (by omega) (fun h9 hh9 => by omega) (fun j9 hj9 => by omega)))
  have rk7 : ∀ Vv Kv : Sg, MI D s.heap a0 Vv Kv → MI D H7 a0 Vv Kv := fun Vv Kv hv => (rk1 Vv Kv hv).keep S1.1 ga0 (Pa.keep g4 rfl (by decide) P7 (fun _ => ⟨len_31 S1.1 g4, vy_no (by omega) (by omega) (by omega) (by omega) (fun h9 hh9 => by omega) (fun j9 hj9 => by omega)⟩)) (by decide)
  refine lv_aload_n hx hb dX12_is_27 rfl (lv_at hl 1 rfl) ?_
  refine q_gr (T := TX12) C S7.1 ga0 1 kF_X12_13 dX12_is_28 rfl rfl (by decide) rfl (by decide) rfl (fun g8 => ?_)
  refine lv_iload hx hb dX12_is_31 (lv_at hl 0 rfl) ?_
  refine lv_dup2_11 hx hb dX12_is_33 rfl rfl ?_
  have n9 : aN H7 (fR D H7 11 a0 1) = 2052 := len_31 S7.1 g8
  refine q_iald C S7.1 g8 (by omega) (by omega) dX12_is_34 rfl (by decide) ?_
  refine lv_topi (fun v10 ev10 => ?_)
  refine lv_iload_n hx hb dX12_is_35 rfl (lv_at hl 4 rfl) ?_
  refine lv_isub hx hb dX12_is_36 ?_
  refine lv_topi (fun v11 ev11 => ?_)
  refine q_iast C S7 g8 (by omega) (by omega) dX12_is_37 rfl (by decide) (by decide +kernel) (fun _ _ h => wk_low _ _ (by omega) (fun h9 => by omega) (fun h9 => by omega) (fun h9 => by omega) (fun j hj h9 => by omega) h) (fun H12 L12 S12 P12 => ?_) (hs := fun _ => Or.inr (vy_no (by omega) (by omega) (by omega) (by omega) (fun h9 hh9 => by omega) (fun j9 hj9 => by omega)))
  have rk12 : ∀ Vv Kv : Sg, MI D s.heap a0 Vv Kv → MI D H12 a0 Vv Kv := fun Vv Kv hv => (rk7 Vv Kv hv).keep S7.1 ga0 (Pa.keep g8 rfl (by decide) P12 (fun _ => ⟨len_31 S7.1 g8, vy_no (by omega) (by omega) (by omega) (by omega) (fun h9 hh9 => by omega) (fun j9 hj9 => by omega)⟩)) (by decide)
  refine lv_aload_n hx hb dX12_is_38 rfl (lv_at hl 1 rfl) ?_
  refine q_gr (T := TX12) C S12.1 ga0 1 kF_X12_13 dX12_is_39 rfl rfl (by decide) rfl (by decide) rfl (fun g13 => ?_)
  refine lv_iload hx hb dX12_is_42 (lv_at hl 0 rfl) ?_
  have n14 : aN H12 (fR D H12 11 a0 1) = 2052 := len_31 S12.1 g13
  refine q_iald C S12.1 g13 (by omega) (by omega) dX12_is_44 rfl (by decide) ?_
  refine lv_topi (fun v15 ev15 => ?_)
  exact retE_i hQ C S12 hr dX12_is_45 (⟨trivial, rk12⟩)

set_option maxRecDepth 100000 in
set_option maxHeartbeats 4000000 in
theorem c_X12_wall (l : Launch) (D : DD) (G : Nat → Nat) (a0 : Nat) (x1 : Int32) (ga0 : G a0 = 30) : CE l D G yX12_wall cX12_wall 3 (some .int) 3 [.ref a0, .int x1] (fun _ => True) [(30, 0), (31, 0), (35, 0), (30, 7)] (xI (fun H r H1 => (True) ∧ (∀ Vv Kv : Sg, MI D H a0 Vv Kv → MI D H1 a0 Vv Kv))) := by
  refine enter (by decide) (Nat.le_of_ble_eq_true rfl) ?_
  intro p e s m args below meth c ls Q hA hQ C hr hO hpre hl
  have hx := C.1
  have hb := C.2.1
  have S : Sd D G [(30, 0), (31, 0), (35, 0), (30, 7)] s.heap s.heap [] := Sd.start hO
  have hl : lv_has ls 3 [(0, .ref a0), (1, .int x1)] := hl
  have rk0 : ∀ Vv Kv : Sg, MI D s.heap a0 Vv Kv → MI D s.heap a0 Vv Kv := fun Vv Kv hv => hv
  refine lv_aload_n hx hb dX12_wall_0 rfl (lv_at hl 0 rfl) ?_
  refine lv_iconst (v := 0) hx hb dX12_wall_1 (by decide) ?_
  have k_0 : (0 : Int32).toInt = 0 := by decide
  refine q_put (T := TX12) C S ga0 0 kF_X12_3 dX12_wall_2 rfl rfl (by decide) (by decide) rfl rfl rfl rfl rfl (vok_a rfl) (by decide +kernel) (fun H1 L1 S1 P1 => ?_)
  have rk1 : ∀ Vv Kv : Sg, MI D s.heap a0 Vv Kv → MI D H1 a0 Vv Kv := fun Vv Kv hv => (rk0 Vv Kv hv).keep S.1 ga0 (Pt.keep ga0 rfl (by decide) P1) (by decide)
  refine lv_aload_n hx hb dX12_wall_5 rfl (lv_at hl 0 rfl) ?_
  refine lv_aload_n hx hb dX12_wall_6 rfl (lv_at hl 0 rfl) ?_
  refine lv_iload_n hx hb dX12_wall_7 rfl (lv_at hl 1 rfl) ?_
  refine callV_Pi C S1.1 S1.2.1.2.1 (c_X12_noHearth l D G a0 x1 ga0) kV_X12_314 ga0 (trivial) dX12_wall_8 hl.1 rfl rfl (by decide) cd_X12_noHearth ⟨Nat.le_of_ble_eq_true rfl, Nat.le_of_ble_eq_true rfl, Nat.le_of_ble_eq_true rfl, Nat.le_of_ble_eq_true rfl, Nat.le_of_ble_eq_true rfl⟩ (fun v2 q2 => ?_)
  rcases q2 with q2 | q2
  · skip
    refine lv_iconst (v := 1) hx hb dX12_wall_11 (by decide) ?_
    have k_1 : (1 : Int32).toInt = 1 := by decide
    refine callV_Ei C S1 (c_X12_throwsIf l D G a0 v2 (1 : Int32) ga0 (by omega)) kV_X12_246 ga0 (trivial) (by decide +kernel) dX12_wall_12 hl.1 rfl rfl (by decide) cd_X12_throwsIf ⟨Nat.le_of_ble_eq_true rfl, Nat.le_of_ble_eq_true rfl, Nat.le_of_ble_eq_true rfl, Nat.le_of_ble_eq_true rfl, Nat.le_of_ble_eq_true rfl⟩ (fun v3 H3 L3 S3 K3 q3 => ?_)
    have rk3 : ∀ Vv Kv : Sg, MI D s.heap a0 Vv Kv → MI D H3 a0 Vv Kv := fun Vv Kv hv => (rk1 Vv Kv hv).keep S1.1 ga0 K3 (by decide +kernel)
    refine lv_if_eq (tgt := 20) hx hb dX12_wall_15 (by decide) (fun c4 => ?_) (fun c4 => ?_)
    · have b4 : v3.toInt = (0 : Int32).toInt := i_eq.mp c4
      refine lv_aload_n hx hb dX12_wall_20 rfl (lv_at hl 0 rfl) ?_
      refine lv_iload_n hx hb dX12_wall_21 rfl (lv_at hl 1 rfl) ?_
      refine lv_iconst (v := 4) hx hb dX12_wall_22 (by decide) ?_
      have k_4 : (4 : Int32).toInt = 4 := by decide
      refine callV_Pi C S3.1 S3.2.1.2.1 (c_X12_ofHearth l D G a0 x1 (4 : Int32) ga0 (by omega) (by omega)) kV_X12_56 ga0 (trivial) dX12_wall_23 hl.1 rfl rfl (by decide) cd_X12_ofHearth ⟨Nat.le_of_ble_eq_true rfl, Nat.le_of_ble_eq_true rfl, Nat.le_of_ble_eq_true rfl, Nat.le_of_ble_eq_true rfl, Nat.le_of_ble_eq_true rfl⟩ (fun v5 q5 => ?_)
      refine lv_istore_n (lv' := [(2, .int v5), (0, .ref a0), (1, .int x1)]) hx hb dX12_wall_26 rfl hl (by decide) rfl (fun ls hl => ?_)
      refine lv_aload_n hx hb dX12_wall_27 rfl (lv_at hl 1 rfl) ?_
      refine lv_aload_n hx hb dX12_wall_28 rfl (lv_at hl 1 rfl) ?_
      refine lv_iload_n hx hb dX12_wall_29 rfl (lv_at hl 2 rfl) ?_
      refine callV_Pi C S3.1 S3.2.1.2.1 (c_X12_isWalled l D G a0 x1 ga0 (by omega)) kV_X12_264 ga0 (trivial) dX12_wall_30 hl.1 rfl rfl (by decide) cd_X12_isWalled ⟨Nat.le_of_ble_eq_true rfl, Nat.le_of_ble_eq_true rfl, Nat.le_of_ble_eq_true rfl, Nat.le_of_ble_eq_true rfl, Nat.le_of_ble_eq_true rfl⟩ (fun v6 q6 => ?_)
      refine lv_if_ne (tgt := 45) hx hb dX12_wall_33 (by decide) (fun c7 => ?_) (fun c7 => ?_)
      · have b7 : ¬ v6.toInt = (0 : Int32).toInt := fun z9 => c7 (i_eq.mpr z9)
        refine lv_iconst (v := 1) hx hb dX12_wall_45 (by decide) ?_
        refine lv_goto (tgt := 50) hx hb dX12_wall_46 (by decide) ?_
        refine lv_iconst (v := 2) hx hb dX12_wall_50 (by decide) ?_
        have k_2 : (2 : Int32).toInt = 2 := by decide
        refine callV_Ei C S3 (c_X12_throwsIf l D G a0 (1 : Int32) (2 : Int32) ga0 (by omega)) kV_X12_246 ga0 (trivial) (by decide +kernel) dX12_wall_51 hl.1 rfl rfl (by decide) cd_X12_throwsIf ⟨Nat.le_of_ble_eq_true rfl, Nat.le_of_ble_eq_true rfl, Nat.le_of_ble_eq_true rfl, Nat.le_of_ble_eq_true rfl, Nat.le_of_ble_eq_true rfl⟩ (fun v8 H8 L8 S8 K8 q8 => ?_)
        have rk8 : ∀ Vv Kv : Sg, MI D s.heap a0 Vv Kv → MI D H8 a0 Vv Kv := fun Vv Kv hv => (rk3 Vv Kv hv).keep S3.1 ga0 K8 (by decide +kernel)
        refine lv_if_eq (tgt := 59) hx hb dX12_wall_54 (by decide) (fun c9 => ?_) (fun c9 => ?_)
        · have b9 : v8.toInt = (0 : Int32).toInt := i_eq.mp c9
          exact absurd b9 (by omega)
        · have b9 : ¬ v8.toInt = (0 : Int32).toInt := fun z9 => c9 (i_eq.mpr z9)
          refine lv_iconst (v := 0) hx hb dX12_wall_57 (by decide) ?_
          exact retE_i hQ C S8 hr dX12_wall_58 (⟨trivial, rk8⟩)
      · have b7 : v6.toInt = (0 : Int32).toInt := i_eq.mp c7
        refine lv_aload_n hx hb dX12_wall_36 rfl (lv_at hl 1 rfl) ?_
        refine lv_iload_n hx hb dX12_wall_37 rfl (lv_at hl 2 rfl) ?_
        refine lv_iload_n hx hb dX12_wall_38 rfl (lv_at hl 0 rfl) ?_
        refine callV_Pi C S3.1 S3.2.1.2.1 (c_X12_canPay l D G a0 x1 v5 ga0 (by omega)) kV_X12_320 ga0 (trivial) dX12_wall_39 hl.1 rfl rfl (by decide) cd_X12_canPay ⟨Nat.le_of_ble_eq_true rfl, Nat.le_of_ble_eq_true rfl, Nat.le_of_ble_eq_true rfl, Nat.le_of_ble_eq_true rfl, Nat.le_of_ble_eq_true rfl⟩ (fun v10 q10 => ?_)
        refine lv_if_ne (tgt := 49) hx hb dX12_wall_42 (by decide) (fun c11 => ?_) (fun c11 => ?_)
        · have b11 : ¬ v10.toInt = (0 : Int32).toInt := fun z9 => c11 (i_eq.mpr z9)
          refine lv_iconst (v := 0) hx hb dX12_wall_49 (by decide) ?_
          refine lv_iconst (v := 2) hx hb dX12_wall_50 (by decide) ?_
          have k_2 : (2 : Int32).toInt = 2 := by decide
          refine callV_Ei C S3 (c_X12_throwsIf l D G a0 (0 : Int32) (2 : Int32) ga0 (by omega)) kV_X12_246 ga0 (trivial) (by decide +kernel) dX12_wall_51 hl.1 rfl rfl (by decide) cd_X12_throwsIf ⟨Nat.le_of_ble_eq_true rfl, Nat.le_of_ble_eq_true rfl, Nat.le_of_ble_eq_true rfl, Nat.le_of_ble_eq_true rfl, Nat.le_of_ble_eq_true rfl⟩ (fun v12 H12 L12 S12 K12 q12 => ?_)
          have rk12 : ∀ Vv Kv : Sg, MI D s.heap a0 Vv Kv → MI D H12 a0 Vv Kv := fun Vv Kv hv => (rk3 Vv Kv hv).keep S3.1 ga0 K12 (by decide +kernel)
          refine lv_if_eq (tgt := 59) hx hb dX12_wall_54 (by decide) (fun c13 => ?_) (fun c13 => ?_)
          · have b13 : v12.toInt = (0 : Int32).toInt := i_eq.mp c13
            refine lv_aload_n hx hb dX12_wall_59 rfl (lv_at hl 1 rfl) ?_
            refine lv_iload_n hx hb dX12_wall_60 rfl (lv_at hl 2 rfl) ?_
            refine lv_iconst (v := 1) hx hb dX12_wall_61 (by decide) ?_
            refine lv_iload_n hx hb dX12_wall_62 rfl (lv_at hl 0 rfl) ?_
            refine callV_Ei C S12 (c_X12_is l D G a0 x1 (1 : Int32) v5 ga0 (by omega)) kV_X12_323 ga0 (trivial) (by decide +kernel) dX12_wall_63 hl.1 rfl rfl (by decide) cd_X12_is ⟨Nat.le_of_ble_eq_true rfl, Nat.le_of_ble_eq_true rfl, Nat.le_of_ble_eq_true rfl, Nat.le_of_ble_eq_true rfl, Nat.le_of_ble_eq_true rfl⟩ (fun v14 H14 L14 S14 K14 q14 => ?_)
            obtain ⟨q14, rq14⟩ := q14
            have rk14 : ∀ Vv Kv : Sg, MI D s.heap a0 Vv Kv → MI D H14 a0 Vv Kv := fun Vv Kv hv => rq14 Vv Kv (rk12 Vv Kv hv)
            exact retE_i hQ C S14 hr dX12_wall_66 (⟨trivial, rk14⟩)
          · have b13 : ¬ v12.toInt = (0 : Int32).toInt := fun z9 => c13 (i_eq.mpr z9)
            exact absurd b13 (by omega)
        · have b11 : v10.toInt = (0 : Int32).toInt := i_eq.mp c11
          refine lv_iconst (v := 1) hx hb dX12_wall_45 (by decide) ?_
          refine lv_goto (tgt := 50) hx hb dX12_wall_46 (by decide) ?_
          refine lv_iconst (v := 2) hx hb dX12_wall_50 (by decide) ?_
          have k_2 : (2 : Int32).toInt = 2 := by decide
          refine callV_Ei C S3 (c_X12_throwsIf l D G a0 (1 : Int32) (2 : Int32) ga0 (by omega)) kV_X12_246 ga0 (trivial) (by decide +kernel) dX12_wall_51 hl.1 rfl rfl (by decide) cd_X12_throwsIf ⟨Nat.le_of_ble_eq_true rfl, Nat.le_of_ble_eq_true rfl, Nat.le_of_ble_eq_true rfl, Nat.le_of_ble_eq_true rfl, Nat.le_of_ble_eq_true rfl⟩ (fun v15 H15 L15 S15 K15 q15 => ?_)
          have rk15 : ∀ Vv Kv : Sg, MI D s.heap a0 Vv Kv → MI D H15 a0 Vv Kv := fun Vv Kv hv => (rk3 Vv Kv hv).keep S3.1 ga0 K15 (by decide +kernel)
          refine lv_if_eq (tgt := 59) hx hb dX12_wall_54 (by decide) (fun c16 => ?_) (fun c16 => ?_)
          · have b16 : v15.toInt = (0 : Int32).toInt := i_eq.mp c16
            exact absurd b16 (by omega)
          · have b16 : ¬ v15.toInt = (0 : Int32).toInt := fun z9 => c16 (i_eq.mpr z9)
            refine lv_iconst (v := 0) hx hb dX12_wall_57 (by decide) ?_
            exact retE_i hQ C S15 hr dX12_wall_58 (⟨trivial, rk15⟩)
    · have b4 : ¬ v3.toInt = (0 : Int32).toInt := fun z9 => c4 (i_eq.mpr z9)
      exact absurd b4 (by omega)
  · skip
    refine lv_iconst (v := 1) hx hb dX12_wall_11 (by decide) ?_
    have k_1 : (1 : Int32).toInt = 1 := by decide
    refine callV_Ei C S1 (c_X12_throwsIf l D G a0 v2 (1 : Int32) ga0 (by omega)) kV_X12_246 ga0 (trivial) (by decide +kernel) dX12_wall_12 hl.1 rfl rfl (by decide) cd_X12_throwsIf ⟨Nat.le_of_ble_eq_true rfl, Nat.le_of_ble_eq_true rfl, Nat.le_of_ble_eq_true rfl, Nat.le_of_ble_eq_true rfl, Nat.le_of_ble_eq_true rfl⟩ (fun v17 H17 L17 S17 K17 q17 => ?_)
    have rk17 : ∀ Vv Kv : Sg, MI D s.heap a0 Vv Kv → MI D H17 a0 Vv Kv := fun Vv Kv hv => (rk1 Vv Kv hv).keep S1.1 ga0 K17 (by decide +kernel)
    refine lv_if_eq (tgt := 20) hx hb dX12_wall_15 (by decide) (fun c18 => ?_) (fun c18 => ?_)
    · have b18 : v17.toInt = (0 : Int32).toInt := i_eq.mp c18
      exact absurd b18 (by omega)
    · have b18 : ¬ v17.toInt = (0 : Int32).toInt := fun z9 => c18 (i_eq.mpr z9)
      refine lv_iconst (v := 0) hx hb dX12_wall_18 (by decide) ?_
      exact retE_i hQ C S17 hr dX12_wall_19 (⟨trivial, rk17⟩)

set_option maxRecDepth 100000 in
set_option maxHeartbeats 4000000 in
theorem c_X12_open (l : Launch) (D : DD) (G : Nat → Nat) (a0 : Nat) (x1 : Int32) (ga0 : G a0 = 30) : CE l D G yX12_open cX12_open 3 (some .int) 3 [.ref a0, .int x1] (fun _ => True) [(30, 0), (31, 0), (35, 0), (30, 7)] (xI (fun H r H1 => (True) ∧ (∀ Vv Kv : Sg, MI D H a0 Vv Kv → MI D H1 a0 Vv Kv))) := by
  refine enter (by decide) (Nat.le_of_ble_eq_true rfl) ?_
  intro p e s m args below meth c ls Q hA hQ C hr hO hpre hl
  have hx := C.1
  have hb := C.2.1
  have S : Sd D G [(30, 0), (31, 0), (35, 0), (30, 7)] s.heap s.heap [] := Sd.start hO
  have hl : lv_has ls 3 [(0, .ref a0), (1, .int x1)] := hl
  have rk0 : ∀ Vv Kv : Sg, MI D s.heap a0 Vv Kv → MI D s.heap a0 Vv Kv := fun Vv Kv hv => hv
  refine lv_aload_n hx hb dX12_open_0 rfl (lv_at hl 0 rfl) ?_
  refine lv_iconst (v := 0) hx hb dX12_open_1 (by decide) ?_
  have k_0 : (0 : Int32).toInt = 0 := by decide
  refine q_put (T := TX12) C S ga0 0 kF_X12_3 dX12_open_2 rfl rfl (by decide) (by decide) rfl rfl rfl rfl rfl (vok_a rfl) (by decide +kernel) (fun H1 L1 S1 P1 => ?_)
  have rk1 : ∀ Vv Kv : Sg, MI D s.heap a0 Vv Kv → MI D H1 a0 Vv Kv := fun Vv Kv hv => (rk0 Vv Kv hv).keep S.1 ga0 (Pt.keep ga0 rfl (by decide) P1) (by decide)
  refine lv_aload_n hx hb dX12_open_5 rfl (lv_at hl 0 rfl) ?_
  refine lv_aload_n hx hb dX12_open_6 rfl (lv_at hl 0 rfl) ?_
  refine lv_iload_n hx hb dX12_open_7 rfl (lv_at hl 1 rfl) ?_
  refine callV_Pi C S1.1 S1.2.1.2.1 (c_X12_noHearth l D G a0 x1 ga0) kV_X12_314 ga0 (trivial) dX12_open_8 hl.1 rfl rfl (by decide) cd_X12_noHearth ⟨Nat.le_of_ble_eq_true rfl, Nat.le_of_ble_eq_true rfl, Nat.le_of_ble_eq_true rfl, Nat.le_of_ble_eq_true rfl, Nat.le_of_ble_eq_true rfl⟩ (fun v2 q2 => ?_)
  rcases q2 with q2 | q2
  · skip
    refine lv_iconst (v := 1) hx hb dX12_open_11 (by decide) ?_
    have k_1 : (1 : Int32).toInt = 1 := by decide
    refine callV_Ei C S1 (c_X12_throwsIf l D G a0 v2 (1 : Int32) ga0 (by omega)) kV_X12_246 ga0 (trivial) (by decide +kernel) dX12_open_12 hl.1 rfl rfl (by decide) cd_X12_throwsIf ⟨Nat.le_of_ble_eq_true rfl, Nat.le_of_ble_eq_true rfl, Nat.le_of_ble_eq_true rfl, Nat.le_of_ble_eq_true rfl, Nat.le_of_ble_eq_true rfl⟩ (fun v3 H3 L3 S3 K3 q3 => ?_)
    have rk3 : ∀ Vv Kv : Sg, MI D s.heap a0 Vv Kv → MI D H3 a0 Vv Kv := fun Vv Kv hv => (rk1 Vv Kv hv).keep S1.1 ga0 K3 (by decide +kernel)
    refine lv_if_ne (tgt := 31) hx hb dX12_open_15 (by decide) (fun c4 => ?_) (fun c4 => ?_)
    · have b4 : ¬ v3.toInt = (0 : Int32).toInt := fun z9 => c4 (i_eq.mpr z9)
      exact absurd b4 (by omega)
    · have b4 : v3.toInt = (0 : Int32).toInt := i_eq.mp c4
      refine lv_aload_n hx hb dX12_open_18 rfl (lv_at hl 0 rfl) ?_
      refine lv_aload_n hx hb dX12_open_19 rfl (lv_at hl 0 rfl) ?_
      refine lv_iload_n hx hb dX12_open_20 rfl (lv_at hl 1 rfl) ?_
      refine callV_Pi C S3.1 S3.2.1.2.1 (c_X12_isOpen l D G a0 x1 ga0 (by omega)) kV_X12_275 ga0 (trivial) dX12_open_21 hl.1 rfl rfl (by decide) cd_X12_isOpen ⟨Nat.le_of_ble_eq_true rfl, Nat.le_of_ble_eq_true rfl, Nat.le_of_ble_eq_true rfl, Nat.le_of_ble_eq_true rfl, Nat.le_of_ble_eq_true rfl⟩ (fun v5 q5 => ?_)
      refine lv_iconst (v := 2) hx hb dX12_open_24 (by decide) ?_
      have k_2 : (2 : Int32).toInt = 2 := by decide
      refine callV_Ei C S3 (c_X12_throwsIf l D G a0 v5 (2 : Int32) ga0 (by omega)) kV_X12_246 ga0 (trivial) (by decide +kernel) dX12_open_25 hl.1 rfl rfl (by decide) cd_X12_throwsIf ⟨Nat.le_of_ble_eq_true rfl, Nat.le_of_ble_eq_true rfl, Nat.le_of_ble_eq_true rfl, Nat.le_of_ble_eq_true rfl, Nat.le_of_ble_eq_true rfl⟩ (fun v6 H6 L6 S6 K6 q6 => ?_)
      have rk6 : ∀ Vv Kv : Sg, MI D s.heap a0 Vv Kv → MI D H6 a0 Vv Kv := fun Vv Kv hv => (rk3 Vv Kv hv).keep S3.1 ga0 K6 (by decide +kernel)
      refine lv_if_eq (tgt := 33) hx hb dX12_open_28 (by decide) (fun c7 => ?_) (fun c7 => ?_)
      · have b7 : v6.toInt = (0 : Int32).toInt := i_eq.mp c7
        refine lv_aload_n hx hb dX12_open_33 rfl (lv_at hl 0 rfl) ?_
        refine lv_iload_n hx hb dX12_open_34 rfl (lv_at hl 1 rfl) ?_
        refine lv_iconst (v := 5) hx hb dX12_open_35 (by decide) ?_
        have k_5 : (5 : Int32).toInt = 5 := by decide
        refine callV_Pi C S6.1 S6.2.1.2.1 (c_X12_ofHearth l D G a0 x1 (5 : Int32) ga0 (by omega) (by omega)) kV_X12_56 ga0 (trivial) dX12_open_36 hl.1 rfl rfl (by decide) cd_X12_ofHearth ⟨Nat.le_of_ble_eq_true rfl, Nat.le_of_ble_eq_true rfl, Nat.le_of_ble_eq_true rfl, Nat.le_of_ble_eq_true rfl, Nat.le_of_ble_eq_true rfl⟩ (fun v8 q8 => ?_)
        refine lv_istore_n (lv' := [(2, .int v8), (0, .ref a0), (1, .int x1)]) hx hb dX12_open_39 rfl hl (by decide) rfl (fun ls hl => ?_)
        refine lv_aload_n hx hb dX12_open_40 rfl (lv_at hl 1 rfl) ?_
        refine lv_iload_n hx hb dX12_open_41 rfl (lv_at hl 2 rfl) ?_
        refine lv_iconst (v := 0) hx hb dX12_open_42 (by decide) ?_
        refine lv_iconst (v := 0) hx hb dX12_open_43 (by decide) ?_
        refine callV_Ei C S6 (c_X12_is l D G a0 x1 (0 : Int32) (0 : Int32) ga0 (by omega)) kV_X12_323 ga0 (trivial) (by decide +kernel) dX12_open_44 hl.1 rfl rfl (by decide) cd_X12_is ⟨Nat.le_of_ble_eq_true rfl, Nat.le_of_ble_eq_true rfl, Nat.le_of_ble_eq_true rfl, Nat.le_of_ble_eq_true rfl, Nat.le_of_ble_eq_true rfl⟩ (fun v9 H9 L9 S9 K9 q9 => ?_)
        obtain ⟨q9, rq9⟩ := q9
        have rk9 : ∀ Vv Kv : Sg, MI D s.heap a0 Vv Kv → MI D H9 a0 Vv Kv := fun Vv Kv hv => rq9 Vv Kv (rk6 Vv Kv hv)
        refine lv_pop hx hb dX12_open_47 rfl ?_
        refine lv_iload_n hx hb dX12_open_48 rfl (lv_at hl 0 rfl) ?_
        exact retE_i hQ C S9 hr dX12_open_49 (⟨trivial, rk9⟩)
      · have b7 : ¬ v6.toInt = (0 : Int32).toInt := fun z9 => c7 (i_eq.mpr z9)
        refine lv_iconst (v := 0) hx hb dX12_open_31 (by decide) ?_
        exact retE_i hQ C S6 hr dX12_open_32 (⟨trivial, rk6⟩)
  · skip
    refine lv_iconst (v := 1) hx hb dX12_open_11 (by decide) ?_
    have k_1 : (1 : Int32).toInt = 1 := by decide
    refine callV_Ei C S1 (c_X12_throwsIf l D G a0 v2 (1 : Int32) ga0 (by omega)) kV_X12_246 ga0 (trivial) (by decide +kernel) dX12_open_12 hl.1 rfl rfl (by decide) cd_X12_throwsIf ⟨Nat.le_of_ble_eq_true rfl, Nat.le_of_ble_eq_true rfl, Nat.le_of_ble_eq_true rfl, Nat.le_of_ble_eq_true rfl, Nat.le_of_ble_eq_true rfl⟩ (fun v10 H10 L10 S10 K10 q10 => ?_)
    have rk10 : ∀ Vv Kv : Sg, MI D s.heap a0 Vv Kv → MI D H10 a0 Vv Kv := fun Vv Kv hv => (rk1 Vv Kv hv).keep S1.1 ga0 K10 (by decide +kernel)
    refine lv_if_ne (tgt := 31) hx hb dX12_open_15 (by decide) (fun c11 => ?_) (fun c11 => ?_)
    · have b11 : ¬ v10.toInt = (0 : Int32).toInt := fun z9 => c11 (i_eq.mpr z9)
      refine lv_iconst (v := 0) hx hb dX12_open_31 (by decide) ?_
      exact retE_i hQ C S10 hr dX12_open_32 (⟨trivial, rk10⟩)
    · have b11 : v10.toInt = (0 : Int32).toInt := i_eq.mp c11
      exact absurd b11 (by omega)

set_option maxRecDepth 100000 in
set_option maxHeartbeats 4000000 in
theorem c_X12_hide (l : Launch) (D : DD) (G : Nat → Nat) (a0 : Nat) (x1 : Int32) (ga0 : G a0 = 30) : CE l D G yX12_hide cX12_hide 2 (some .int) 3 [.ref a0, .int x1] (fun _ => True) [(30, 0), (31, 0), (35, 0), (30, 7)] (xI (fun H r H1 => (True) ∧ (∀ Vv Kv : Sg, MI D H a0 Vv Kv → MI D H1 a0 Vv Kv))) := by
  refine enter (by decide) (Nat.le_of_ble_eq_true rfl) ?_
  intro p e s m args below meth c ls Q hA hQ C hr hO hpre hl
  have hx := C.1
  have hb := C.2.1
  have S : Sd D G [(30, 0), (31, 0), (35, 0), (30, 7)] s.heap s.heap [] := Sd.start hO
  have hl : lv_has ls 2 [(0, .ref a0), (1, .int x1)] := hl
  have rk0 : ∀ Vv Kv : Sg, MI D s.heap a0 Vv Kv → MI D s.heap a0 Vv Kv := fun Vv Kv hv => hv
  refine lv_aload_n hx hb dX12_hide_0 rfl (lv_at hl 0 rfl) ?_
  refine lv_iconst (v := 0) hx hb dX12_hide_1 (by decide) ?_
  have k_0 : (0 : Int32).toInt = 0 := by decide
  refine q_put (T := TX12) C S ga0 0 kF_X12_3 dX12_hide_2 rfl rfl (by decide) (by decide) rfl rfl rfl rfl rfl (vok_a rfl) (by decide +kernel) (fun H1 L1 S1 P1 => ?_)
  have rk1 : ∀ Vv Kv : Sg, MI D s.heap a0 Vv Kv → MI D H1 a0 Vv Kv := fun Vv Kv hv => (rk0 Vv Kv hv).keep S.1 ga0 (Pt.keep ga0 rfl (by decide) P1) (by decide)
  refine lv_aload_n hx hb dX12_hide_5 rfl (lv_at hl 0 rfl) ?_
  refine lv_aload_n hx hb dX12_hide_6 rfl (lv_at hl 0 rfl) ?_
  refine lv_iload_n hx hb dX12_hide_7 rfl (lv_at hl 1 rfl) ?_
  refine callV_Pi C S1.1 S1.2.1.2.1 (c_X12_noHearth l D G a0 x1 ga0) kV_X12_314 ga0 (trivial) dX12_hide_8 hl.1 rfl rfl (by decide) cd_X12_noHearth ⟨Nat.le_of_ble_eq_true rfl, Nat.le_of_ble_eq_true rfl, Nat.le_of_ble_eq_true rfl, Nat.le_of_ble_eq_true rfl, Nat.le_of_ble_eq_true rfl⟩ (fun v2 q2 => ?_)
  rcases q2 with q2 | q2
  · skip
    refine lv_iconst (v := 1) hx hb dX12_hide_11 (by decide) ?_
    have k_1 : (1 : Int32).toInt = 1 := by decide
    refine callV_Ei C S1 (c_X12_throwsIf l D G a0 v2 (1 : Int32) ga0 (by omega)) kV_X12_246 ga0 (trivial) (by decide +kernel) dX12_hide_12 hl.1 rfl rfl (by decide) cd_X12_throwsIf ⟨Nat.le_of_ble_eq_true rfl, Nat.le_of_ble_eq_true rfl, Nat.le_of_ble_eq_true rfl, Nat.le_of_ble_eq_true rfl, Nat.le_of_ble_eq_true rfl⟩ (fun v3 H3 L3 S3 K3 q3 => ?_)
    have rk3 : ∀ Vv Kv : Sg, MI D s.heap a0 Vv Kv → MI D H3 a0 Vv Kv := fun Vv Kv hv => (rk1 Vv Kv hv).keep S1.1 ga0 K3 (by decide +kernel)
    refine lv_if_ne (tgt := 54) hx hb dX12_hide_15 (by decide) (fun c4 => ?_) (fun c4 => ?_)
    · have b4 : ¬ v3.toInt = (0 : Int32).toInt := fun z9 => c4 (i_eq.mpr z9)
      exact absurd b4 (by omega)
    · have b4 : v3.toInt = (0 : Int32).toInt := i_eq.mp c4
      refine lv_aload_n hx hb dX12_hide_18 rfl (lv_at hl 0 rfl) ?_
      refine lv_aload_n hx hb dX12_hide_19 rfl (lv_at hl 0 rfl) ?_
      refine lv_iload_n hx hb dX12_hide_20 rfl (lv_at hl 1 rfl) ?_
      refine callV_Pi C S3.1 S3.2.1.2.1 (c_X12_isOpen l D G a0 x1 ga0 (by omega)) kV_X12_275 ga0 (trivial) dX12_hide_21 hl.1 rfl rfl (by decide) cd_X12_isOpen ⟨Nat.le_of_ble_eq_true rfl, Nat.le_of_ble_eq_true rfl, Nat.le_of_ble_eq_true rfl, Nat.le_of_ble_eq_true rfl, Nat.le_of_ble_eq_true rfl⟩ (fun v5 q5 => ?_)
      refine lv_if_eq (tgt := 42) hx hb dX12_hide_24 (by decide) (fun c6 => ?_) (fun c6 => ?_)
      · have b6 : v5.toInt = (0 : Int32).toInt := i_eq.mp c6
        refine lv_iconst (v := 1) hx hb dX12_hide_42 (by decide) ?_
        refine lv_goto (tgt := 47) hx hb dX12_hide_43 (by decide) ?_
        refine lv_iconst (v := 2) hx hb dX12_hide_47 (by decide) ?_
        have k_2 : (2 : Int32).toInt = 2 := by decide
        refine callV_Ei C S3 (c_X12_throwsIf l D G a0 (1 : Int32) (2 : Int32) ga0 (by omega)) kV_X12_246 ga0 (trivial) (by decide +kernel) dX12_hide_48 hl.1 rfl rfl (by decide) cd_X12_throwsIf ⟨Nat.le_of_ble_eq_true rfl, Nat.le_of_ble_eq_true rfl, Nat.le_of_ble_eq_true rfl, Nat.le_of_ble_eq_true rfl, Nat.le_of_ble_eq_true rfl⟩ (fun v7 H7 L7 S7 K7 q7 => ?_)
        have rk7 : ∀ Vv Kv : Sg, MI D s.heap a0 Vv Kv → MI D H7 a0 Vv Kv := fun Vv Kv hv => (rk3 Vv Kv hv).keep S3.1 ga0 K7 (by decide +kernel)
        refine lv_if_eq (tgt := 56) hx hb dX12_hide_51 (by decide) (fun c8 => ?_) (fun c8 => ?_)
        · have b8 : v7.toInt = (0 : Int32).toInt := i_eq.mp c8
          exact absurd b8 (by omega)
        · have b8 : ¬ v7.toInt = (0 : Int32).toInt := fun z9 => c8 (i_eq.mpr z9)
          refine lv_iconst (v := 0) hx hb dX12_hide_54 (by decide) ?_
          exact retE_i hQ C S7 hr dX12_hide_55 (⟨trivial, rk7⟩)
      · have b6 : ¬ v5.toInt = (0 : Int32).toInt := fun z9 => c6 (i_eq.mpr z9)
        refine lv_aload_n hx hb dX12_hide_27 rfl (lv_at hl 0 rfl) ?_
        refine lv_iload_n hx hb dX12_hide_28 rfl (lv_at hl 1 rfl) ?_
        refine lv_aload_n hx hb dX12_hide_29 rfl (lv_at hl 0 rfl) ?_
        refine q_gr (T := TX12) C S3.1 ga0 1 kF_X12_13 dX12_hide_30 rfl rfl (by decide) rfl (by decide) rfl (fun g9 => ?_)
        refine lv_bipush (v := 8) hx hb dX12_hide_33 (by decide) ?_
        have n10 : aN H3 (fR D H3 11 a0 1) = 2052 := len_31 S3.1 g9
        have k_8 : (8 : Int32).toInt = 8 := by decide
        refine q_iald C S3.1 g9 (by omega) (by omega) dX12_hide_35 rfl (by decide) ?_
        refine lv_topi (fun v11 ev11 => ?_)
        refine callV_Pi C S3.1 S3.2.1.2.1 (c_X12_canPay l D G a0 x1 v11 ga0 (by omega)) kV_X12_320 ga0 (trivial) dX12_hide_36 hl.1 rfl rfl (by decide) cd_X12_canPay ⟨Nat.le_of_ble_eq_true rfl, Nat.le_of_ble_eq_true rfl, Nat.le_of_ble_eq_true rfl, Nat.le_of_ble_eq_true rfl, Nat.le_of_ble_eq_true rfl⟩ (fun v12 q12 => ?_)
        refine lv_if_ne (tgt := 46) hx hb dX12_hide_39 (by decide) (fun c13 => ?_) (fun c13 => ?_)
        · have b13 : ¬ v12.toInt = (0 : Int32).toInt := fun z9 => c13 (i_eq.mpr z9)
          refine lv_iconst (v := 0) hx hb dX12_hide_46 (by decide) ?_
          refine lv_iconst (v := 2) hx hb dX12_hide_47 (by decide) ?_
          have k_2 : (2 : Int32).toInt = 2 := by decide
          refine callV_Ei C S3 (c_X12_throwsIf l D G a0 (0 : Int32) (2 : Int32) ga0 (by omega)) kV_X12_246 ga0 (trivial) (by decide +kernel) dX12_hide_48 hl.1 rfl rfl (by decide) cd_X12_throwsIf ⟨Nat.le_of_ble_eq_true rfl, Nat.le_of_ble_eq_true rfl, Nat.le_of_ble_eq_true rfl, Nat.le_of_ble_eq_true rfl, Nat.le_of_ble_eq_true rfl⟩ (fun v14 H14 L14 S14 K14 q14 => ?_)
          have rk14 : ∀ Vv Kv : Sg, MI D s.heap a0 Vv Kv → MI D H14 a0 Vv Kv := fun Vv Kv hv => (rk3 Vv Kv hv).keep S3.1 ga0 K14 (by decide +kernel)
          refine lv_if_eq (tgt := 56) hx hb dX12_hide_51 (by decide) (fun c15 => ?_) (fun c15 => ?_)
          · have b15 : v14.toInt = (0 : Int32).toInt := i_eq.mp c15
            refine lv_aload_n hx hb dX12_hide_56 rfl (lv_at hl 0 rfl) ?_
            refine lv_iload_n hx hb dX12_hide_57 rfl (lv_at hl 1 rfl) ?_
            refine lv_iconst (v := 2) hx hb dX12_hide_58 (by decide) ?_
            refine lv_aload_n hx hb dX12_hide_59 rfl (lv_at hl 0 rfl) ?_
            refine q_gr (T := TX12) C S14.1 ga0 1 kF_X12_13 dX12_hide_60 rfl rfl (by decide) rfl (by decide) rfl (fun g16 => ?_)
            refine lv_bipush (v := 8) hx hb dX12_hide_63 (by decide) ?_
            have n17 : aN H14 (fR D H14 11 a0 1) = 2052 := len_31 S14.1 g16
            refine q_iald C S14.1 g16 (by omega) (by omega) dX12_hide_65 rfl (by decide) ?_
            refine lv_topi (fun v18 ev18 => ?_)
            refine callV_Ei C S14 (c_X12_is l D G a0 x1 (2 : Int32) v18 ga0 (by omega)) kV_X12_323 ga0 (trivial) (by decide +kernel) dX12_hide_66 hl.1 rfl rfl (by decide) cd_X12_is ⟨Nat.le_of_ble_eq_true rfl, Nat.le_of_ble_eq_true rfl, Nat.le_of_ble_eq_true rfl, Nat.le_of_ble_eq_true rfl, Nat.le_of_ble_eq_true rfl⟩ (fun v19 H19 L19 S19 K19 q19 => ?_)
            obtain ⟨q19, rq19⟩ := q19
            have rk19 : ∀ Vv Kv : Sg, MI D s.heap a0 Vv Kv → MI D H19 a0 Vv Kv := fun Vv Kv hv => rq19 Vv Kv (rk14 Vv Kv hv)
            exact retE_i hQ C S19 hr dX12_hide_69 (⟨trivial, rk19⟩)
          · have b15 : ¬ v14.toInt = (0 : Int32).toInt := fun z9 => c15 (i_eq.mpr z9)
            exact absurd b15 (by omega)
        · have b13 : v12.toInt = (0 : Int32).toInt := i_eq.mp c13
          refine lv_iconst (v := 1) hx hb dX12_hide_42 (by decide) ?_
          refine lv_goto (tgt := 47) hx hb dX12_hide_43 (by decide) ?_
          refine lv_iconst (v := 2) hx hb dX12_hide_47 (by decide) ?_
          have k_2 : (2 : Int32).toInt = 2 := by decide
          refine callV_Ei C S3 (c_X12_throwsIf l D G a0 (1 : Int32) (2 : Int32) ga0 (by omega)) kV_X12_246 ga0 (trivial) (by decide +kernel) dX12_hide_48 hl.1 rfl rfl (by decide) cd_X12_throwsIf ⟨Nat.le_of_ble_eq_true rfl, Nat.le_of_ble_eq_true rfl, Nat.le_of_ble_eq_true rfl, Nat.le_of_ble_eq_true rfl, Nat.le_of_ble_eq_true rfl⟩ (fun v20 H20 L20 S20 K20 q20 => ?_)
          have rk20 : ∀ Vv Kv : Sg, MI D s.heap a0 Vv Kv → MI D H20 a0 Vv Kv := fun Vv Kv hv => (rk3 Vv Kv hv).keep S3.1 ga0 K20 (by decide +kernel)
          refine lv_if_eq (tgt := 56) hx hb dX12_hide_51 (by decide) (fun c21 => ?_) (fun c21 => ?_)
          · have b21 : v20.toInt = (0 : Int32).toInt := i_eq.mp c21
            exact absurd b21 (by omega)
          · have b21 : ¬ v20.toInt = (0 : Int32).toInt := fun z9 => c21 (i_eq.mpr z9)
            refine lv_iconst (v := 0) hx hb dX12_hide_54 (by decide) ?_
            exact retE_i hQ C S20 hr dX12_hide_55 (⟨trivial, rk20⟩)
  · skip
    refine lv_iconst (v := 1) hx hb dX12_hide_11 (by decide) ?_
    have k_1 : (1 : Int32).toInt = 1 := by decide
    refine callV_Ei C S1 (c_X12_throwsIf l D G a0 v2 (1 : Int32) ga0 (by omega)) kV_X12_246 ga0 (trivial) (by decide +kernel) dX12_hide_12 hl.1 rfl rfl (by decide) cd_X12_throwsIf ⟨Nat.le_of_ble_eq_true rfl, Nat.le_of_ble_eq_true rfl, Nat.le_of_ble_eq_true rfl, Nat.le_of_ble_eq_true rfl, Nat.le_of_ble_eq_true rfl⟩ (fun v22 H22 L22 S22 K22 q22 => ?_)
    have rk22 : ∀ Vv Kv : Sg, MI D s.heap a0 Vv Kv → MI D H22 a0 Vv Kv := fun Vv Kv hv => (rk1 Vv Kv hv).keep S1.1 ga0 K22 (by decide +kernel)
    refine lv_if_ne (tgt := 54) hx hb dX12_hide_15 (by decide) (fun c23 => ?_) (fun c23 => ?_)
    · have b23 : ¬ v22.toInt = (0 : Int32).toInt := fun z9 => c23 (i_eq.mpr z9)
      refine lv_iconst (v := 0) hx hb dX12_hide_54 (by decide) ?_
      exact retE_i hQ C S22 hr dX12_hide_55 (⟨trivial, rk22⟩)
    · have b23 : v22.toInt = (0 : Int32).toInt := i_eq.mp c23
      exact absurd b23 (by omega)

set_option maxRecDepth 100000 in
set_option maxHeartbeats 4000000 in
theorem c_X12_paper (l : Launch) (D : DD) (G : Nat → Nat) (a0 : Nat) (x1 : Int32) (x2 : Int32) (ga0 : G a0 = 30) (ix2 : 0 ≤ x2.toInt ∧ x2.toInt ≤ 1) : CE l D G yX12_paper cX12_paper 4 (some .boolean) 2 [.ref a0, .int x1, .int x2] (fun _ => True) [(30, 0), (31, 0), (35, 0), (30, 7)] (xI (fun H r H1 => (0 ≤ r.toInt ∧ r.toInt ≤ 1) ∧ (∀ Vv Kv : Sg, MI D H a0 Vv Kv → MI D H1 a0 Vv Kv))) := by
  refine enter (by decide) (Nat.le_of_ble_eq_true rfl) ?_
  intro p e s m args below meth c ls Q hA hQ C hr hO hpre hl
  have hx := C.1
  have hb := C.2.1
  have S : Sd D G [(30, 0), (31, 0), (35, 0), (30, 7)] s.heap s.heap [] := Sd.start hO
  have hl : lv_has ls 4 [(0, .ref a0), (1, .int x1), (2, .int x2)] := hl
  have rk0 : ∀ Vv Kv : Sg, MI D s.heap a0 Vv Kv → MI D s.heap a0 Vv Kv := fun Vv Kv hv => hv
  refine lv_aload_n hx hb dX12_paper_0 rfl (lv_at hl 0 rfl) ?_
  refine lv_iconst (v := 0) hx hb dX12_paper_1 (by decide) ?_
  have k_0 : (0 : Int32).toInt = 0 := by decide
  refine q_put (T := TX12) C S ga0 0 kF_X12_3 dX12_paper_2 rfl rfl (by decide) (by decide) rfl rfl rfl rfl rfl (vok_a rfl) (by decide +kernel) (fun H1 L1 S1 P1 => ?_)
  have rk1 : ∀ Vv Kv : Sg, MI D s.heap a0 Vv Kv → MI D H1 a0 Vv Kv := fun Vv Kv hv => (rk0 Vv Kv hv).keep S.1 ga0 (Pt.keep ga0 rfl (by decide) P1) (by decide)
  refine lv_aload_n hx hb dX12_paper_5 rfl (lv_at hl 0 rfl) ?_
  refine lv_aload_n hx hb dX12_paper_6 rfl (lv_at hl 0 rfl) ?_
  refine lv_iload_n hx hb dX12_paper_7 rfl (lv_at hl 1 rfl) ?_
  refine callV_Pi C S1.1 S1.2.1.2.1 (c_X12_noHouse l D G a0 x1 ga0) kV_X12_299 ga0 (trivial) dX12_paper_8 hl.1 rfl rfl (by decide) cd_X12_noHouse ⟨Nat.le_of_ble_eq_true rfl, Nat.le_of_ble_eq_true rfl, Nat.le_of_ble_eq_true rfl, Nat.le_of_ble_eq_true rfl, Nat.le_of_ble_eq_true rfl⟩ (fun v2 q2 => ?_)
  rcases q2 with q2 | q2
  · skip
    refine lv_iconst (v := 1) hx hb dX12_paper_11 (by decide) ?_
    have k_1 : (1 : Int32).toInt = 1 := by decide
    refine callV_Ei C S1 (c_X12_throwsIf l D G a0 v2 (1 : Int32) ga0 (by omega)) kV_X12_246 ga0 (trivial) (by decide +kernel) dX12_paper_12 hl.1 rfl rfl (by decide) cd_X12_throwsIf ⟨Nat.le_of_ble_eq_true rfl, Nat.le_of_ble_eq_true rfl, Nat.le_of_ble_eq_true rfl, Nat.le_of_ble_eq_true rfl, Nat.le_of_ble_eq_true rfl⟩ (fun v3 H3 L3 S3 K3 q3 => ?_)
    have rk3 : ∀ Vv Kv : Sg, MI D s.heap a0 Vv Kv → MI D H3 a0 Vv Kv := fun Vv Kv hv => (rk1 Vv Kv hv).keep S1.1 ga0 K3 (by decide +kernel)
    refine lv_if_eq (tgt := 20) hx hb dX12_paper_15 (by decide) (fun c4 => ?_) (fun c4 => ?_)
    · have b4 : v3.toInt = (0 : Int32).toInt := i_eq.mp c4
      refine lv_aload_n hx hb dX12_paper_20 rfl (lv_at hl 0 rfl) ?_
      refine callV_Ev C S3 (c_X12_remembers l D G a0 ga0) kV_X12_317 ga0 (trivial) (by decide +kernel) dX12_paper_21 hl.1 rfl rfl (by decide) cd_X12_remembers ⟨Nat.le_of_ble_eq_true rfl, Nat.le_of_ble_eq_true rfl, Nat.le_of_ble_eq_true rfl, Nat.le_of_ble_eq_true rfl, Nat.le_of_ble_eq_true rfl⟩ (fun H5 L5 S5 K5 q5 => ?_)
      obtain ⟨q5, rq5⟩ := q5
      have rk5 : ∀ Vv Kv : Sg, MI D s.heap a0 Vv Kv → MI D H5 a0 Vv Kv := fun Vv Kv hv => rq5 Vv Kv (rk3 Vv Kv hv)
      refine lv_aload_n hx hb dX12_paper_24 rfl (lv_at hl 0 rfl) ?_
      refine lv_iload_n hx hb dX12_paper_25 rfl (lv_at hl 1 rfl) ?_
      refine lv_iconst (v := 1) hx hb dX12_paper_26 (by decide) ?_
      refine callV_Pi C S5.1 S5.2.1.2.1 (c_X12_of l D G a0 x1 (1 : Int32) ga0 (by omega) (by omega)) kV_X12_255 ga0 (trivial) dX12_paper_27 hl.1 rfl rfl (by decide) cd_X12_of ⟨Nat.le_of_ble_eq_true rfl, Nat.le_of_ble_eq_true rfl, Nat.le_of_ble_eq_true rfl, Nat.le_of_ble_eq_true rfl, Nat.le_of_ble_eq_true rfl⟩ (fun v6 q6 => ?_)
      refine lv_iconst (v := 1) hx hb dX12_paper_30 (by decide) ?_
      refine lv_icmp_ne (tgt := 38) hx hb dX12_paper_31 (by decide) (fun c7 => ?_) (fun c7 => ?_)
      · have b7 : ¬ v6.toInt = (1 : Int32).toInt := fun z9 => c7 (i_eq.mpr z9)
        refine lv_iconst (v := 0) hx hb dX12_paper_38 (by decide) ?_
        refine lv_istore_n (lv' := [(3, .int (0 : Int32)), (0, .ref a0), (1, .int x1), (2, .int x2)]) hx hb dX12_paper_39 rfl hl (by decide) rfl (fun ls hl => ?_)
        refine lv_aload_n hx hb dX12_paper_40 rfl (lv_at hl 1 rfl) ?_
        refine q_gr (T := TX12) C S5.1 ga0 1 kF_X12_13 dX12_paper_41 rfl rfl (by decide) rfl (by decide) rfl (fun g8 => ?_)
        refine lv_iload_n hx hb dX12_paper_44 rfl (lv_at hl 2 rfl) ?_
        refine lv_iconst (v := 1) hx hb dX12_paper_45 (by decide) ?_
        refine callS_Pi C S5.1 S5.2.1.2.1 (c_X12_houseAt l D G x1 (1 : Int32) (by omega) (by omega)) kS_X12_49 (trivial) dX12_paper_46 hl.1 cd_X12_houseAt ⟨Nat.le_of_ble_eq_true rfl, Nat.le_of_ble_eq_true rfl, Nat.le_of_ble_eq_true rfl, Nat.le_of_ble_eq_true rfl, Nat.le_of_ble_eq_true rfl⟩ (fun v9 q9 => ?_)
        refine lv_iload_n hx hb dX12_paper_49 rfl (lv_at hl 3 rfl) ?_
        refine lv_if_eq (tgt := 57) hx hb dX12_paper_50 (by decide) (fun c10 => ?_) (fun c10 => ?_)
        · have b10 : x2.toInt = (0 : Int32).toInt := i_eq.mp c10
          refine lv_iconst (v := 0) hx hb dX12_paper_57 (by decide) ?_
          have n11 : aN H5 (fR D H5 11 a0 1) = 2052 := len_31 S5.1 g8
          refine q_iast C S5 g8 (by omega) (by omega) dX12_paper_58 rfl (by decide) (by decide +kernel) (fun _ _ h => wk_low _ _ (by omega) (fun h9 => by omega) (fun h9 => by omega) (fun h9 => by omega) (fun j hj h9 => by omega) h) (fun H12 L12 S12 P12 => ?_) (hs := fun _ => Or.inr (vy_no (by omega) (by omega) (by omega) (by omega) (fun h9 hh9 => by omega) (fun j9 hj9 => by omega)))
          have rk12 : ∀ Vv Kv : Sg, MI D s.heap a0 Vv Kv → MI D H12 a0 Vv Kv := fun Vv Kv hv => (rk5 Vv Kv hv).keep S5.1 ga0 (Pa.keep g8 rfl (by decide) P12 (fun _ => ⟨len_31 S5.1 g8, vy_no (by omega) (by omega) (by omega) (by omega) (fun h9 hh9 => by omega) (fun j9 hj9 => by omega)⟩)) (by decide)
          refine lv_iload_n hx hb dX12_paper_59 rfl (lv_at hl 0 rfl) ?_
          refine lv_iload_n hx hb dX12_paper_60 rfl (lv_at hl 3 rfl) ?_
          refine lv_icmp_eq (tgt := 68) hx hb dX12_paper_61 (by decide) (fun c13 => ?_) (fun c13 => ?_)
          · have b13 : (0 : Int32).toInt = x2.toInt := i_eq.mp c13
            refine lv_iconst (v := 0) hx hb dX12_paper_68 (by decide) ?_
            exact retE_z hQ C S12 hr dX12_paper_69 (z01 (by omega) (by omega)) (⟨by omega, rk12⟩)
          · have b13 : ¬ (0 : Int32).toInt = x2.toInt := fun z9 => c13 (i_eq.mpr z9)
            exact absurd b13 (by omega)
        · have b10 : ¬ x2.toInt = (0 : Int32).toInt := fun z9 => c10 (i_eq.mpr z9)
          refine lv_iconst (v := 1) hx hb dX12_paper_53 (by decide) ?_
          refine lv_goto (tgt := 58) hx hb dX12_paper_54 (by decide) ?_
          have n14 : aN H5 (fR D H5 11 a0 1) = 2052 := len_31 S5.1 g8
          refine q_iast C S5 g8 (by omega) (by omega) dX12_paper_58 rfl (by decide) (by decide +kernel) (fun _ _ h => wk_low _ _ (by omega) (fun h9 => by omega) (fun h9 => by omega) (fun h9 => by omega) (fun j hj h9 => by omega) h) (fun H15 L15 S15 P15 => ?_) (hs := fun _ => Or.inr (vy_no (by omega) (by omega) (by omega) (by omega) (fun h9 hh9 => by omega) (fun j9 hj9 => by omega)))
          have rk15 : ∀ Vv Kv : Sg, MI D s.heap a0 Vv Kv → MI D H15 a0 Vv Kv := fun Vv Kv hv => (rk5 Vv Kv hv).keep S5.1 ga0 (Pa.keep g8 rfl (by decide) P15 (fun _ => ⟨len_31 S5.1 g8, vy_no (by omega) (by omega) (by omega) (by omega) (fun h9 hh9 => by omega) (fun j9 hj9 => by omega)⟩)) (by decide)
          refine lv_iload_n hx hb dX12_paper_59 rfl (lv_at hl 0 rfl) ?_
          refine lv_iload_n hx hb dX12_paper_60 rfl (lv_at hl 3 rfl) ?_
          refine lv_icmp_eq (tgt := 68) hx hb dX12_paper_61 (by decide) (fun c16 => ?_) (fun c16 => ?_)
          · have b16 : (0 : Int32).toInt = x2.toInt := i_eq.mp c16
            exact absurd b16 (by omega)
          · have b16 : ¬ (0 : Int32).toInt = x2.toInt := fun z9 => c16 (i_eq.mpr z9)
            refine lv_iconst (v := 1) hx hb dX12_paper_64 (by decide) ?_
            refine lv_goto (tgt := 69) hx hb dX12_paper_65 (by decide) ?_
            exact retE_z hQ C S15 hr dX12_paper_69 (z01 (by omega) (by omega)) (⟨by omega, rk15⟩)
      · have b7 : v6.toInt = (1 : Int32).toInt := i_eq.mp c7
        refine lv_iconst (v := 1) hx hb dX12_paper_34 (by decide) ?_
        refine lv_goto (tgt := 39) hx hb dX12_paper_35 (by decide) ?_
        refine lv_istore_n (lv' := [(3, .int (1 : Int32)), (0, .ref a0), (1, .int x1), (2, .int x2)]) hx hb dX12_paper_39 rfl hl (by decide) rfl (fun ls hl => ?_)
        refine lv_aload_n hx hb dX12_paper_40 rfl (lv_at hl 1 rfl) ?_
        refine q_gr (T := TX12) C S5.1 ga0 1 kF_X12_13 dX12_paper_41 rfl rfl (by decide) rfl (by decide) rfl (fun g17 => ?_)
        refine lv_iload_n hx hb dX12_paper_44 rfl (lv_at hl 2 rfl) ?_
        refine lv_iconst (v := 1) hx hb dX12_paper_45 (by decide) ?_
        refine callS_Pi C S5.1 S5.2.1.2.1 (c_X12_houseAt l D G x1 (1 : Int32) (by omega) (by omega)) kS_X12_49 (trivial) dX12_paper_46 hl.1 cd_X12_houseAt ⟨Nat.le_of_ble_eq_true rfl, Nat.le_of_ble_eq_true rfl, Nat.le_of_ble_eq_true rfl, Nat.le_of_ble_eq_true rfl, Nat.le_of_ble_eq_true rfl⟩ (fun v18 q18 => ?_)
        refine lv_iload_n hx hb dX12_paper_49 rfl (lv_at hl 3 rfl) ?_
        refine lv_if_eq (tgt := 57) hx hb dX12_paper_50 (by decide) (fun c19 => ?_) (fun c19 => ?_)
        · have b19 : x2.toInt = (0 : Int32).toInt := i_eq.mp c19
          refine lv_iconst (v := 0) hx hb dX12_paper_57 (by decide) ?_
          have n20 : aN H5 (fR D H5 11 a0 1) = 2052 := len_31 S5.1 g17
          refine q_iast C S5 g17 (by omega) (by omega) dX12_paper_58 rfl (by decide) (by decide +kernel) (fun _ _ h => wk_low _ _ (by omega) (fun h9 => by omega) (fun h9 => by omega) (fun h9 => by omega) (fun j hj h9 => by omega) h) (fun H21 L21 S21 P21 => ?_) (hs := fun _ => Or.inr (vy_no (by omega) (by omega) (by omega) (by omega) (fun h9 hh9 => by omega) (fun j9 hj9 => by omega)))
          have rk21 : ∀ Vv Kv : Sg, MI D s.heap a0 Vv Kv → MI D H21 a0 Vv Kv := fun Vv Kv hv => (rk5 Vv Kv hv).keep S5.1 ga0 (Pa.keep g17 rfl (by decide) P21 (fun _ => ⟨len_31 S5.1 g17, vy_no (by omega) (by omega) (by omega) (by omega) (fun h9 hh9 => by omega) (fun j9 hj9 => by omega)⟩)) (by decide)
          refine lv_iload_n hx hb dX12_paper_59 rfl (lv_at hl 0 rfl) ?_
          refine lv_iload_n hx hb dX12_paper_60 rfl (lv_at hl 3 rfl) ?_
          refine lv_icmp_eq (tgt := 68) hx hb dX12_paper_61 (by decide) (fun c22 => ?_) (fun c22 => ?_)
          · have b22 : (1 : Int32).toInt = x2.toInt := i_eq.mp c22
            exact absurd b22 (by omega)
          · have b22 : ¬ (1 : Int32).toInt = x2.toInt := fun z9 => c22 (i_eq.mpr z9)
            refine lv_iconst (v := 1) hx hb dX12_paper_64 (by decide) ?_
            refine lv_goto (tgt := 69) hx hb dX12_paper_65 (by decide) ?_
            exact retE_z hQ C S21 hr dX12_paper_69 (z01 (by omega) (by omega)) (⟨by omega, rk21⟩)
        · have b19 : ¬ x2.toInt = (0 : Int32).toInt := fun z9 => c19 (i_eq.mpr z9)
          refine lv_iconst (v := 1) hx hb dX12_paper_53 (by decide) ?_
          refine lv_goto (tgt := 58) hx hb dX12_paper_54 (by decide) ?_
          have n23 : aN H5 (fR D H5 11 a0 1) = 2052 := len_31 S5.1 g17
          refine q_iast C S5 g17 (by omega) (by omega) dX12_paper_58 rfl (by decide) (by decide +kernel) (fun _ _ h => wk_low _ _ (by omega) (fun h9 => by omega) (fun h9 => by omega) (fun h9 => by omega) (fun j hj h9 => by omega) h) (fun H24 L24 S24 P24 => ?_) (hs := fun _ => Or.inr (vy_no (by omega) (by omega) (by omega) (by omega) (fun h9 hh9 => by omega) (fun j9 hj9 => by omega)))
          have rk24 : ∀ Vv Kv : Sg, MI D s.heap a0 Vv Kv → MI D H24 a0 Vv Kv := fun Vv Kv hv => (rk5 Vv Kv hv).keep S5.1 ga0 (Pa.keep g17 rfl (by decide) P24 (fun _ => ⟨len_31 S5.1 g17, vy_no (by omega) (by omega) (by omega) (by omega) (fun h9 hh9 => by omega) (fun j9 hj9 => by omega)⟩)) (by decide)
          refine lv_iload_n hx hb dX12_paper_59 rfl (lv_at hl 0 rfl) ?_
          refine lv_iload_n hx hb dX12_paper_60 rfl (lv_at hl 3 rfl) ?_
          refine lv_icmp_eq (tgt := 68) hx hb dX12_paper_61 (by decide) (fun c25 => ?_) (fun c25 => ?_)
          · have b25 : (1 : Int32).toInt = x2.toInt := i_eq.mp c25
            refine lv_iconst (v := 0) hx hb dX12_paper_68 (by decide) ?_
            exact retE_z hQ C S24 hr dX12_paper_69 (z01 (by omega) (by omega)) (⟨by omega, rk24⟩)
          · have b25 : ¬ (1 : Int32).toInt = x2.toInt := fun z9 => c25 (i_eq.mpr z9)
            exact absurd b25 (by omega)
    · have b4 : ¬ v3.toInt = (0 : Int32).toInt := fun z9 => c4 (i_eq.mpr z9)
      exact absurd b4 (by omega)
  · skip
    refine lv_iconst (v := 1) hx hb dX12_paper_11 (by decide) ?_
    have k_1 : (1 : Int32).toInt = 1 := by decide
    refine callV_Ei C S1 (c_X12_throwsIf l D G a0 v2 (1 : Int32) ga0 (by omega)) kV_X12_246 ga0 (trivial) (by decide +kernel) dX12_paper_12 hl.1 rfl rfl (by decide) cd_X12_throwsIf ⟨Nat.le_of_ble_eq_true rfl, Nat.le_of_ble_eq_true rfl, Nat.le_of_ble_eq_true rfl, Nat.le_of_ble_eq_true rfl, Nat.le_of_ble_eq_true rfl⟩ (fun v26 H26 L26 S26 K26 q26 => ?_)
    have rk26 : ∀ Vv Kv : Sg, MI D s.heap a0 Vv Kv → MI D H26 a0 Vv Kv := fun Vv Kv hv => (rk1 Vv Kv hv).keep S1.1 ga0 K26 (by decide +kernel)
    refine lv_if_eq (tgt := 20) hx hb dX12_paper_15 (by decide) (fun c27 => ?_) (fun c27 => ?_)
    · have b27 : v26.toInt = (0 : Int32).toInt := i_eq.mp c27
      exact absurd b27 (by omega)
    · have b27 : ¬ v26.toInt = (0 : Int32).toInt := fun z9 => c27 (i_eq.mpr z9)
      refine lv_iconst (v := 0) hx hb dX12_paper_18 (by decide) ?_
      exact retE_z hQ C S26 hr dX12_paper_19 (z01 (by omega) (by omega)) (⟨by omega, rk26⟩)

set_option maxRecDepth 100000 in
set_option maxHeartbeats 4000000 in
theorem c_X12_flue (l : Launch) (D : DD) (G : Nat → Nat) (a0 : Nat) (x1 : Int32) (x2 : Int32) (ga0 : G a0 = 30) : CE l D G yX12_flue cX12_flue 4 (some .int) 2 [.ref a0, .int x1, .int x2] (fun _ => True) [(30, 0), (31, 0), (35, 0), (30, 7)] (xI (fun H r H1 => (True) ∧ (∀ Vv Kv : Sg, MI D H a0 Vv Kv → MI D H1 a0 Vv Kv))) := by
  refine enter (by decide) (Nat.le_of_ble_eq_true rfl) ?_
  intro p e s m args below meth c ls Q hA hQ C hr hO hpre hl
  have hx := C.1
  have hb := C.2.1
  have S : Sd D G [(30, 0), (31, 0), (35, 0), (30, 7)] s.heap s.heap [] := Sd.start hO
  have hl : lv_has ls 4 [(0, .ref a0), (1, .int x1), (2, .int x2)] := hl
  have rk0 : ∀ Vv Kv : Sg, MI D s.heap a0 Vv Kv → MI D s.heap a0 Vv Kv := fun Vv Kv hv => hv
  refine lv_aload_n hx hb dX12_flue_0 rfl (lv_at hl 0 rfl) ?_
  refine lv_iconst (v := 0) hx hb dX12_flue_1 (by decide) ?_
  have k_0 : (0 : Int32).toInt = 0 := by decide
  refine q_put (T := TX12) C S ga0 0 kF_X12_3 dX12_flue_2 rfl rfl (by decide) (by decide) rfl rfl rfl rfl rfl (vok_a rfl) (by decide +kernel) (fun H1 L1 S1 P1 => ?_)
  have rk1 : ∀ Vv Kv : Sg, MI D s.heap a0 Vv Kv → MI D H1 a0 Vv Kv := fun Vv Kv hv => (rk0 Vv Kv hv).keep S.1 ga0 (Pt.keep ga0 rfl (by decide) P1) (by decide)
  refine lv_aload_n hx hb dX12_flue_5 rfl (lv_at hl 0 rfl) ?_
  refine lv_aload_n hx hb dX12_flue_6 rfl (lv_at hl 0 rfl) ?_
  refine lv_iload_n hx hb dX12_flue_7 rfl (lv_at hl 1 rfl) ?_
  refine callV_Pi C S1.1 S1.2.1.2.1 (c_X12_noHearth l D G a0 x1 ga0) kV_X12_314 ga0 (trivial) dX12_flue_8 hl.1 rfl rfl (by decide) cd_X12_noHearth ⟨Nat.le_of_ble_eq_true rfl, Nat.le_of_ble_eq_true rfl, Nat.le_of_ble_eq_true rfl, Nat.le_of_ble_eq_true rfl, Nat.le_of_ble_eq_true rfl⟩ (fun v2 q2 => ?_)
  rcases q2 with q2 | q2
  · skip
    refine lv_if_ne (tgt := 24) hx hb dX12_flue_11 (by decide) (fun c3 => ?_) (fun c3 => ?_)
    · have b3 : ¬ v2.toInt = (0 : Int32).toInt := fun z9 => c3 (i_eq.mpr z9)
      exact absurd b3 (by omega)
    · have b3 : v2.toInt = (0 : Int32).toInt := i_eq.mp c3
      refine lv_iload_n hx hb dX12_flue_14 rfl (lv_at hl 2 rfl) ?_
      refine lv_iconst (v := 0) hx hb dX12_flue_15 (by decide) ?_
      refine lv_bipush (v := 9) hx hb dX12_flue_16 (by decide) ?_
      have k_9 : (9 : Int32).toInt = 9 := by decide
      refine callS_Pi C S1.1 S1.2.1.2.1 (c_X12_in l D G x2 (0 : Int32) (9 : Int32)) kS_X12_63 (trivial) dX12_flue_18 hl.1 cd_X12_in ⟨Nat.le_of_ble_eq_true rfl, Nat.le_of_ble_eq_true rfl, Nat.le_of_ble_eq_true rfl, Nat.le_of_ble_eq_true rfl, Nat.le_of_ble_eq_true rfl⟩ (fun v4 q4 => ?_)
      rcases q4 with q4 | q4
      · skip
        refine lv_if_ne (tgt := 28) hx hb dX12_flue_21 (by decide) (fun c5 => ?_) (fun c5 => ?_)
        · have b5 : ¬ v4.toInt = (0 : Int32).toInt := fun z9 => c5 (i_eq.mpr z9)
          refine lv_iconst (v := 0) hx hb dX12_flue_28 (by decide) ?_
          refine lv_iconst (v := 1) hx hb dX12_flue_29 (by decide) ?_
          have k_1 : (1 : Int32).toInt = 1 := by decide
          refine callV_Ei C S1 (c_X12_throwsIf l D G a0 (0 : Int32) (1 : Int32) ga0 (by omega)) kV_X12_246 ga0 (trivial) (by decide +kernel) dX12_flue_30 hl.1 rfl rfl (by decide) cd_X12_throwsIf ⟨Nat.le_of_ble_eq_true rfl, Nat.le_of_ble_eq_true rfl, Nat.le_of_ble_eq_true rfl, Nat.le_of_ble_eq_true rfl, Nat.le_of_ble_eq_true rfl⟩ (fun v6 H6 L6 S6 K6 q6 => ?_)
          have rk6 : ∀ Vv Kv : Sg, MI D s.heap a0 Vv Kv → MI D H6 a0 Vv Kv := fun Vv Kv hv => (rk1 Vv Kv hv).keep S1.1 ga0 K6 (by decide +kernel)
          refine lv_if_eq (tgt := 38) hx hb dX12_flue_33 (by decide) (fun c7 => ?_) (fun c7 => ?_)
          · have b7 : v6.toInt = (0 : Int32).toInt := i_eq.mp c7
            refine lv_aload_n hx hb dX12_flue_38 rfl (lv_at hl 0 rfl) ?_
            refine callV_Ev C S6 (c_X12_remembers l D G a0 ga0) kV_X12_317 ga0 (trivial) (by decide +kernel) dX12_flue_39 hl.1 rfl rfl (by decide) cd_X12_remembers ⟨Nat.le_of_ble_eq_true rfl, Nat.le_of_ble_eq_true rfl, Nat.le_of_ble_eq_true rfl, Nat.le_of_ble_eq_true rfl, Nat.le_of_ble_eq_true rfl⟩ (fun H8 L8 S8 K8 q8 => ?_)
            obtain ⟨q8, rq8⟩ := q8
            have rk8 : ∀ Vv Kv : Sg, MI D s.heap a0 Vv Kv → MI D H8 a0 Vv Kv := fun Vv Kv hv => rq8 Vv Kv (rk6 Vv Kv hv)
            refine lv_aload_n hx hb dX12_flue_42 rfl (lv_at hl 0 rfl) ?_
            refine lv_iload_n hx hb dX12_flue_43 rfl (lv_at hl 1 rfl) ?_
            refine lv_iconst (v := 2) hx hb dX12_flue_44 (by decide) ?_
            have k_2 : (2 : Int32).toInt = 2 := by decide
            refine callV_Pi C S8.1 S8.2.1.2.1 (c_X12_ofHearth l D G a0 x1 (2 : Int32) ga0 (by omega) (by omega)) kV_X12_56 ga0 (trivial) dX12_flue_45 hl.1 rfl rfl (by decide) cd_X12_ofHearth ⟨Nat.le_of_ble_eq_true rfl, Nat.le_of_ble_eq_true rfl, Nat.le_of_ble_eq_true rfl, Nat.le_of_ble_eq_true rfl, Nat.le_of_ble_eq_true rfl⟩ (fun v9 q9 => ?_)
            refine lv_istore_n (lv' := [(3, .int v9), (0, .ref a0), (1, .int x1), (2, .int x2)]) hx hb dX12_flue_48 rfl hl (by decide) rfl (fun ls hl => ?_)
            refine lv_aload_n hx hb dX12_flue_49 rfl (lv_at hl 1 rfl) ?_
            refine q_gr (T := TX12) C S8.1 ga0 1 kF_X12_13 dX12_flue_50 rfl rfl (by decide) rfl (by decide) rfl (fun g10 => ?_)
            refine lv_iload_n hx hb dX12_flue_53 rfl (lv_at hl 2 rfl) ?_
            refine lv_iconst (v := 2) hx hb dX12_flue_54 (by decide) ?_
            refine callS_Pi C S8.1 S8.2.1.2.1 (c_X12_hearthAt l D G x1 (2 : Int32) (by omega) (by omega)) kS_X12_53 (trivial) dX12_flue_55 hl.1 cd_X12_hearthAt ⟨Nat.le_of_ble_eq_true rfl, Nat.le_of_ble_eq_true rfl, Nat.le_of_ble_eq_true rfl, Nat.le_of_ble_eq_true rfl, Nat.le_of_ble_eq_true rfl⟩ (fun v11 q11 => ?_)
            refine lv_iload_n hx hb dX12_flue_58 rfl (lv_at hl 3 rfl) ?_
            have n12 : aN H8 (fR D H8 11 a0 1) = 2052 := len_31 S8.1 g10
            refine q_iast C S8 g10 (by omega) (by omega) dX12_flue_59 rfl (by decide) (by decide +kernel) (fun _ _ h => wk_low _ _ (by omega) (fun h9 => by omega) (fun h9 => by omega) (fun h9 => by omega) (fun j hj h9 => by omega) h) (fun H13 L13 S13 P13 => ?_) (hs := fun _ => Or.inr (vy_no (by omega) (by omega) (by omega) (by omega) (fun h9 hh9 => by omega) (fun j9 hj9 => by omega)))
            have rk13 : ∀ Vv Kv : Sg, MI D s.heap a0 Vv Kv → MI D H13 a0 Vv Kv := fun Vv Kv hv => (rk8 Vv Kv hv).keep S8.1 ga0 (Pa.keep g10 rfl (by decide) P13 (fun _ => ⟨len_31 S8.1 g10, vy_no (by omega) (by omega) (by omega) (by omega) (fun h9 hh9 => by omega) (fun j9 hj9 => by omega)⟩)) (by decide)
            refine lv_iload_n hx hb dX12_flue_60 rfl (lv_at hl 0 rfl) ?_
            exact retE_i hQ C S13 hr dX12_flue_61 (⟨trivial, rk13⟩)
          · have b7 : ¬ v6.toInt = (0 : Int32).toInt := fun z9 => c7 (i_eq.mpr z9)
            exact absurd b7 (by omega)
        · have b5 : v4.toInt = (0 : Int32).toInt := i_eq.mp c5
          exact absurd b5 (by omega)
      · skip
        refine lv_if_ne (tgt := 28) hx hb dX12_flue_21 (by decide) (fun c14 => ?_) (fun c14 => ?_)
        · have b14 : ¬ v4.toInt = (0 : Int32).toInt := fun z9 => c14 (i_eq.mpr z9)
          exact absurd b14 (by omega)
        · have b14 : v4.toInt = (0 : Int32).toInt := i_eq.mp c14
          refine lv_iconst (v := 1) hx hb dX12_flue_24 (by decide) ?_
          refine lv_goto (tgt := 29) hx hb dX12_flue_25 (by decide) ?_
          refine lv_iconst (v := 1) hx hb dX12_flue_29 (by decide) ?_
          have k_1 : (1 : Int32).toInt = 1 := by decide
          refine callV_Ei C S1 (c_X12_throwsIf l D G a0 (1 : Int32) (1 : Int32) ga0 (by omega)) kV_X12_246 ga0 (trivial) (by decide +kernel) dX12_flue_30 hl.1 rfl rfl (by decide) cd_X12_throwsIf ⟨Nat.le_of_ble_eq_true rfl, Nat.le_of_ble_eq_true rfl, Nat.le_of_ble_eq_true rfl, Nat.le_of_ble_eq_true rfl, Nat.le_of_ble_eq_true rfl⟩ (fun v15 H15 L15 S15 K15 q15 => ?_)
          have rk15 : ∀ Vv Kv : Sg, MI D s.heap a0 Vv Kv → MI D H15 a0 Vv Kv := fun Vv Kv hv => (rk1 Vv Kv hv).keep S1.1 ga0 K15 (by decide +kernel)
          refine lv_if_eq (tgt := 38) hx hb dX12_flue_33 (by decide) (fun c16 => ?_) (fun c16 => ?_)
          · have b16 : v15.toInt = (0 : Int32).toInt := i_eq.mp c16
            exact absurd b16 (by omega)
          · have b16 : ¬ v15.toInt = (0 : Int32).toInt := fun z9 => c16 (i_eq.mpr z9)
            refine lv_iconst (v := 0) hx hb dX12_flue_36 (by decide) ?_
            exact retE_i hQ C S15 hr dX12_flue_37 (⟨trivial, rk15⟩)
  · skip
    refine lv_if_ne (tgt := 24) hx hb dX12_flue_11 (by decide) (fun c17 => ?_) (fun c17 => ?_)
    · have b17 : ¬ v2.toInt = (0 : Int32).toInt := fun z9 => c17 (i_eq.mpr z9)
      refine lv_iconst (v := 1) hx hb dX12_flue_24 (by decide) ?_
      refine lv_goto (tgt := 29) hx hb dX12_flue_25 (by decide) ?_
      refine lv_iconst (v := 1) hx hb dX12_flue_29 (by decide) ?_
      have k_1 : (1 : Int32).toInt = 1 := by decide
      refine callV_Ei C S1 (c_X12_throwsIf l D G a0 (1 : Int32) (1 : Int32) ga0 (by omega)) kV_X12_246 ga0 (trivial) (by decide +kernel) dX12_flue_30 hl.1 rfl rfl (by decide) cd_X12_throwsIf ⟨Nat.le_of_ble_eq_true rfl, Nat.le_of_ble_eq_true rfl, Nat.le_of_ble_eq_true rfl, Nat.le_of_ble_eq_true rfl, Nat.le_of_ble_eq_true rfl⟩ (fun v18 H18 L18 S18 K18 q18 => ?_)
      have rk18 : ∀ Vv Kv : Sg, MI D s.heap a0 Vv Kv → MI D H18 a0 Vv Kv := fun Vv Kv hv => (rk1 Vv Kv hv).keep S1.1 ga0 K18 (by decide +kernel)
      refine lv_if_eq (tgt := 38) hx hb dX12_flue_33 (by decide) (fun c19 => ?_) (fun c19 => ?_)
      · have b19 : v18.toInt = (0 : Int32).toInt := i_eq.mp c19
        exact absurd b19 (by omega)
      · have b19 : ¬ v18.toInt = (0 : Int32).toInt := fun z9 => c19 (i_eq.mpr z9)
        refine lv_iconst (v := 0) hx hb dX12_flue_36 (by decide) ?_
        exact retE_i hQ C S18 hr dX12_flue_37 (⟨trivial, rk18⟩)
    · have b17 : v2.toInt = (0 : Int32).toInt := i_eq.mp c17
      exact absurd b17 (by omega)

set_option maxRecDepth 100000 in
set_option maxHeartbeats 4000000 in
theorem c_X12_rate (l : Launch) (D : DD) (G : Nat → Nat) (a0 : Nat) (x1 : Int32) (ga0 : G a0 = 30) : CE l D G yX12_rate cX12_rate 3 (some .int) 2 [.ref a0, .int x1] (fun _ => True) [(30, 0), (31, 0), (35, 0), (30, 7)] (xI (fun H r H1 => (True) ∧ (∀ Vv Kv : Sg, MI D H a0 Vv Kv → MI D H1 a0 Vv Kv))) := by
  refine enter (by decide) (Nat.le_of_ble_eq_true rfl) ?_
  intro p e s m args below meth c ls Q hA hQ C hr hO hpre hl
  have hx := C.1
  have hb := C.2.1
  have S : Sd D G [(30, 0), (31, 0), (35, 0), (30, 7)] s.heap s.heap [] := Sd.start hO
  have hl : lv_has ls 3 [(0, .ref a0), (1, .int x1)] := hl
  have rk0 : ∀ Vv Kv : Sg, MI D s.heap a0 Vv Kv → MI D s.heap a0 Vv Kv := fun Vv Kv hv => hv
  refine lv_aload_n hx hb dX12_rate_0 rfl (lv_at hl 0 rfl) ?_
  refine lv_iconst (v := 0) hx hb dX12_rate_1 (by decide) ?_
  have k_0 : (0 : Int32).toInt = 0 := by decide
  refine q_put (T := TX12) C S ga0 0 kF_X12_3 dX12_rate_2 rfl rfl (by decide) (by decide) rfl rfl rfl rfl rfl (vok_a rfl) (by decide +kernel) (fun H1 L1 S1 P1 => ?_)
  have rk1 : ∀ Vv Kv : Sg, MI D s.heap a0 Vv Kv → MI D H1 a0 Vv Kv := fun Vv Kv hv => (rk0 Vv Kv hv).keep S.1 ga0 (Pt.keep ga0 rfl (by decide) P1) (by decide)
  refine lv_aload_n hx hb dX12_rate_5 rfl (lv_at hl 0 rfl) ?_
  refine lv_iload_n hx hb dX12_rate_6 rfl (lv_at hl 1 rfl) ?_
  refine callS_Pi C S1.1 S1.2.1.2.1 (c_X12_noRate l D G x1) kS_X12_326 (trivial) dX12_rate_7 hl.1 cd_X12_noRate ⟨Nat.le_of_ble_eq_true rfl, Nat.le_of_ble_eq_true rfl, Nat.le_of_ble_eq_true rfl, Nat.le_of_ble_eq_true rfl, Nat.le_of_ble_eq_true rfl⟩ (fun v2 q2 => ?_)
  rcases q2 with q2 | q2
  · skip
    refine lv_iconst (v := 1) hx hb dX12_rate_10 (by decide) ?_
    have k_1 : (1 : Int32).toInt = 1 := by decide
    refine callV_Ei C S1 (c_X12_throwsIf l D G a0 v2 (1 : Int32) ga0 (by omega)) kV_X12_246 ga0 (trivial) (by decide +kernel) dX12_rate_11 hl.1 rfl rfl (by decide) cd_X12_throwsIf ⟨Nat.le_of_ble_eq_true rfl, Nat.le_of_ble_eq_true rfl, Nat.le_of_ble_eq_true rfl, Nat.le_of_ble_eq_true rfl, Nat.le_of_ble_eq_true rfl⟩ (fun v3 H3 L3 S3 K3 q3 => ?_)
    have rk3 : ∀ Vv Kv : Sg, MI D s.heap a0 Vv Kv → MI D H3 a0 Vv Kv := fun Vv Kv hv => (rk1 Vv Kv hv).keep S1.1 ga0 K3 (by decide +kernel)
    refine lv_if_eq (tgt := 19) hx hb dX12_rate_14 (by decide) (fun c4 => ?_) (fun c4 => ?_)
    · have b4 : v3.toInt = (0 : Int32).toInt := i_eq.mp c4
      refine lv_aload_n hx hb dX12_rate_19 rfl (lv_at hl 0 rfl) ?_
      refine callV_Ev C S3 (c_X12_remembers l D G a0 ga0) kV_X12_317 ga0 (trivial) (by decide +kernel) dX12_rate_20 hl.1 rfl rfl (by decide) cd_X12_remembers ⟨Nat.le_of_ble_eq_true rfl, Nat.le_of_ble_eq_true rfl, Nat.le_of_ble_eq_true rfl, Nat.le_of_ble_eq_true rfl, Nat.le_of_ble_eq_true rfl⟩ (fun H5 L5 S5 K5 q5 => ?_)
      obtain ⟨q5, rq5⟩ := q5
      have rk5 : ∀ Vv Kv : Sg, MI D s.heap a0 Vv Kv → MI D H5 a0 Vv Kv := fun Vv Kv hv => rq5 Vv Kv (rk3 Vv Kv hv)
      refine lv_aload_n hx hb dX12_rate_23 rfl (lv_at hl 0 rfl) ?_
      refine q_gr (T := TX12) C S5.1 ga0 1 kF_X12_13 dX12_rate_24 rfl rfl (by decide) rfl (by decide) rfl (fun g6 => ?_)
      refine lv_iconst (v := 5) hx hb dX12_rate_27 (by decide) ?_
      have n7 : aN H5 (fR D H5 11 a0 1) = 2052 := len_31 S5.1 g6
      have k_5 : (5 : Int32).toInt = 5 := by decide
      refine q_iald C S5.1 g6 (by omega) (by omega) dX12_rate_28 rfl (by decide) ?_
      refine lv_topi (fun v8 ev8 => ?_)
      refine lv_istore_n (lv' := [(2, .int v8), (0, .ref a0), (1, .int x1)]) hx hb dX12_rate_29 rfl hl (by decide) rfl (fun ls hl => ?_)
      refine lv_aload_n hx hb dX12_rate_30 rfl (lv_at hl 1 rfl) ?_
      refine q_gr (T := TX12) C S5.1 ga0 1 kF_X12_13 dX12_rate_31 rfl rfl (by decide) rfl (by decide) rfl (fun g9 => ?_)
      refine lv_iconst (v := 5) hx hb dX12_rate_34 (by decide) ?_
      refine lv_iload_n hx hb dX12_rate_35 rfl (lv_at hl 2 rfl) ?_
      refine q_iast C S5 g9 (by omega) (by omega) dX12_rate_36 rfl (by decide) (by decide +kernel) (fun _ _ h => wk_low _ _ (by omega) (fun h9 => by omega) (fun h9 => by omega) (fun h9 => by omega) (fun j hj h9 => by omega) h) (fun H10 L10 S10 P10 => ?_) (hs := fun _ => Or.inr (vy_no (by omega) (by omega) (by omega) (by omega) (fun h9 hh9 => by omega) (fun j9 hj9 => by omega)))
      have rk10 : ∀ Vv Kv : Sg, MI D s.heap a0 Vv Kv → MI D H10 a0 Vv Kv := fun Vv Kv hv => (rk5 Vv Kv hv).keep S5.1 ga0 (Pa.keep g9 rfl (by decide) P10 (fun _ => ⟨len_31 S5.1 g9, vy_no (by omega) (by omega) (by omega) (by omega) (fun h9 hh9 => by omega) (fun j9 hj9 => by omega)⟩)) (by decide)
      refine lv_iload_n hx hb dX12_rate_37 rfl (lv_at hl 0 rfl) ?_
      exact retE_i hQ C S10 hr dX12_rate_38 (⟨trivial, rk10⟩)
    · have b4 : ¬ v3.toInt = (0 : Int32).toInt := fun z9 => c4 (i_eq.mpr z9)
      exact absurd b4 (by omega)
  · skip
    refine lv_iconst (v := 1) hx hb dX12_rate_10 (by decide) ?_
    have k_1 : (1 : Int32).toInt = 1 := by decide
    refine callV_Ei C S1 (c_X12_throwsIf l D G a0 v2 (1 : Int32) ga0 (by omega)) kV_X12_246 ga0 (trivial) (by decide +kernel) dX12_rate_11 hl.1 rfl rfl (by decide) cd_X12_throwsIf ⟨Nat.le_of_ble_eq_true rfl, Nat.le_of_ble_eq_true rfl, Nat.le_of_ble_eq_true rfl, Nat.le_of_ble_eq_true rfl, Nat.le_of_ble_eq_true rfl⟩ (fun v11 H11 L11 S11 K11 q11 => ?_)
    have rk11 : ∀ Vv Kv : Sg, MI D s.heap a0 Vv Kv → MI D H11 a0 Vv Kv := fun Vv Kv hv => (rk1 Vv Kv hv).keep S1.1 ga0 K11 (by decide +kernel)
    refine lv_if_eq (tgt := 19) hx hb dX12_rate_14 (by decide) (fun c12 => ?_) (fun c12 => ?_)
    · have b12 : v11.toInt = (0 : Int32).toInt := i_eq.mp c12
      exact absurd b12 (by omega)
    · have b12 : ¬ v11.toInt = (0 : Int32).toInt := fun z9 => c12 (i_eq.mpr z9)
      refine lv_iconst (v := 0) hx hb dX12_rate_17 (by decide) ?_
      exact retE_i hQ C S11 hr dX12_rate_18 (⟨trivial, rk11⟩)

set_option maxRecDepth 100000 in
set_option maxHeartbeats 4000000 in
theorem c_X12_give (l : Launch) (D : DD) (G : Nat → Nat) (a0 : Nat) (x1 : Int32) (x2 : Int32) (ga0 : G a0 = 30) : CE l D G yX12_give cX12_give 3 (some .int) 2 [.ref a0, .int x1, .int x2] (fun _ => True) [(30, 0), (31, 0), (35, 0), (30, 7)] (xI (fun H r H1 => (True) ∧ (∀ Vv Kv : Sg, MI D H a0 Vv Kv → MI D H1 a0 Vv Kv))) := by
  refine enter (by decide) (Nat.le_of_ble_eq_true rfl) ?_
  intro p e s m args below meth c ls Q hA hQ C hr hO hpre hl
  have hx := C.1
  have hb := C.2.1
  have S : Sd D G [(30, 0), (31, 0), (35, 0), (30, 7)] s.heap s.heap [] := Sd.start hO
  have hl : lv_has ls 3 [(0, .ref a0), (1, .int x1), (2, .int x2)] := hl
  have rk0 : ∀ Vv Kv : Sg, MI D s.heap a0 Vv Kv → MI D s.heap a0 Vv Kv := fun Vv Kv hv => hv
  refine lv_aload_n hx hb dX12_give_0 rfl (lv_at hl 0 rfl) ?_
  refine lv_iconst (v := 0) hx hb dX12_give_1 (by decide) ?_
  have k_0 : (0 : Int32).toInt = 0 := by decide
  refine q_put (T := TX12) C S ga0 0 kF_X12_3 dX12_give_2 rfl rfl (by decide) (by decide) rfl rfl rfl rfl rfl (vok_a rfl) (by decide +kernel) (fun H1 L1 S1 P1 => ?_)
  have rk1 : ∀ Vv Kv : Sg, MI D s.heap a0 Vv Kv → MI D H1 a0 Vv Kv := fun Vv Kv hv => (rk0 Vv Kv hv).keep S.1 ga0 (Pt.keep ga0 rfl (by decide) P1) (by decide)
  refine lv_aload_n hx hb dX12_give_5 rfl (lv_at hl 0 rfl) ?_
  refine lv_aload_n hx hb dX12_give_6 rfl (lv_at hl 0 rfl) ?_
  refine lv_iload_n hx hb dX12_give_7 rfl (lv_at hl 1 rfl) ?_
  refine callV_Pi C S1.1 S1.2.1.2.1 (c_X12_noHouse l D G a0 x1 ga0) kV_X12_299 ga0 (trivial) dX12_give_8 hl.1 rfl rfl (by decide) cd_X12_noHouse ⟨Nat.le_of_ble_eq_true rfl, Nat.le_of_ble_eq_true rfl, Nat.le_of_ble_eq_true rfl, Nat.le_of_ble_eq_true rfl, Nat.le_of_ble_eq_true rfl⟩ (fun v2 q2 => ?_)
  rcases q2 with q2 | q2
  · skip
    refine lv_iconst (v := 1) hx hb dX12_give_11 (by decide) ?_
    have k_1 : (1 : Int32).toInt = 1 := by decide
    refine callV_Ei C S1 (c_X12_throwsIf l D G a0 v2 (1 : Int32) ga0 (by omega)) kV_X12_246 ga0 (trivial) (by decide +kernel) dX12_give_12 hl.1 rfl rfl (by decide) cd_X12_throwsIf ⟨Nat.le_of_ble_eq_true rfl, Nat.le_of_ble_eq_true rfl, Nat.le_of_ble_eq_true rfl, Nat.le_of_ble_eq_true rfl, Nat.le_of_ble_eq_true rfl⟩ (fun v3 H3 L3 S3 K3 q3 => ?_)
    have rk3 : ∀ Vv Kv : Sg, MI D s.heap a0 Vv Kv → MI D H3 a0 Vv Kv := fun Vv Kv hv => (rk1 Vv Kv hv).keep S1.1 ga0 K3 (by decide +kernel)
    refine lv_if_ne (tgt := 42) hx hb dX12_give_15 (by decide) (fun c4 => ?_) (fun c4 => ?_)
    · have b4 : ¬ v3.toInt = (0 : Int32).toInt := fun z9 => c4 (i_eq.mpr z9)
      exact absurd b4 (by omega)
    · have b4 : v3.toInt = (0 : Int32).toInt := i_eq.mp c4
      refine lv_aload_n hx hb dX12_give_18 rfl (lv_at hl 0 rfl) ?_
      refine lv_iload_n hx hb dX12_give_19 rfl (lv_at hl 2 rfl) ?_
      refine lv_iconst (v := 1) hx hb dX12_give_20 (by decide) ?_
      refine lv_sipush (v := 999) hx hb dX12_give_21 (by decide) ?_
      have k_999 : (999 : Int32).toInt = 999 := by decide
      refine callS_Pi C S3.1 S3.2.1.2.1 (c_X12_in l D G x2 (1 : Int32) (999 : Int32)) kS_X12_63 (trivial) dX12_give_24 hl.1 cd_X12_in ⟨Nat.le_of_ble_eq_true rfl, Nat.le_of_ble_eq_true rfl, Nat.le_of_ble_eq_true rfl, Nat.le_of_ble_eq_true rfl, Nat.le_of_ble_eq_true rfl⟩ (fun v5 q5 => ?_)
      rcases q5 with q5 | q5
      · skip
        refine lv_if_ne (tgt := 34) hx hb dX12_give_27 (by decide) (fun c6 => ?_) (fun c6 => ?_)
        · have b6 : ¬ v5.toInt = (0 : Int32).toInt := fun z9 => c6 (i_eq.mpr z9)
          refine lv_iconst (v := 0) hx hb dX12_give_34 (by decide) ?_
          refine lv_iconst (v := 2) hx hb dX12_give_35 (by decide) ?_
          have k_2 : (2 : Int32).toInt = 2 := by decide
          refine callV_Ei C S3 (c_X12_throwsIf l D G a0 (0 : Int32) (2 : Int32) ga0 (by omega)) kV_X12_246 ga0 (trivial) (by decide +kernel) dX12_give_36 hl.1 rfl rfl (by decide) cd_X12_throwsIf ⟨Nat.le_of_ble_eq_true rfl, Nat.le_of_ble_eq_true rfl, Nat.le_of_ble_eq_true rfl, Nat.le_of_ble_eq_true rfl, Nat.le_of_ble_eq_true rfl⟩ (fun v7 H7 L7 S7 K7 q7 => ?_)
          have rk7 : ∀ Vv Kv : Sg, MI D s.heap a0 Vv Kv → MI D H7 a0 Vv Kv := fun Vv Kv hv => (rk3 Vv Kv hv).keep S3.1 ga0 K7 (by decide +kernel)
          refine lv_if_eq (tgt := 44) hx hb dX12_give_39 (by decide) (fun c8 => ?_) (fun c8 => ?_)
          · have b8 : v7.toInt = (0 : Int32).toInt := i_eq.mp c8
            refine lv_aload_n hx hb dX12_give_44 rfl (lv_at hl 0 rfl) ?_
            refine callV_Ev C S7 (c_X12_remembers l D G a0 ga0) kV_X12_317 ga0 (trivial) (by decide +kernel) dX12_give_45 hl.1 rfl rfl (by decide) cd_X12_remembers ⟨Nat.le_of_ble_eq_true rfl, Nat.le_of_ble_eq_true rfl, Nat.le_of_ble_eq_true rfl, Nat.le_of_ble_eq_true rfl, Nat.le_of_ble_eq_true rfl⟩ (fun H9 L9 S9 K9 q9 => ?_)
            obtain ⟨q9, rq9⟩ := q9
            have rk9 : ∀ Vv Kv : Sg, MI D s.heap a0 Vv Kv → MI D H9 a0 Vv Kv := fun Vv Kv hv => rq9 Vv Kv (rk7 Vv Kv hv)
            refine lv_aload_n hx hb dX12_give_48 rfl (lv_at hl 0 rfl) ?_
            refine q_gr (T := TX12) C S9.1 ga0 1 kF_X12_13 dX12_give_49 rfl rfl (by decide) rfl (by decide) rfl (fun g10 => ?_)
            refine lv_iload_n hx hb dX12_give_52 rfl (lv_at hl 1 rfl) ?_
            refine lv_iconst (v := 0) hx hb dX12_give_53 (by decide) ?_
            refine callS_Pi C S9.1 S9.2.1.2.1 (c_X12_houseAt l D G x1 (0 : Int32) (by omega) (by omega)) kS_X12_49 (trivial) dX12_give_54 hl.1 cd_X12_houseAt ⟨Nat.le_of_ble_eq_true rfl, Nat.le_of_ble_eq_true rfl, Nat.le_of_ble_eq_true rfl, Nat.le_of_ble_eq_true rfl, Nat.le_of_ble_eq_true rfl⟩ (fun v11 q11 => ?_)
            refine lv_sipush (v := 9999) hx hb dX12_give_57 (by decide) ?_
            refine lv_aload_n hx hb dX12_give_60 rfl (lv_at hl 0 rfl) ?_
            refine lv_iload_n hx hb dX12_give_61 rfl (lv_at hl 1 rfl) ?_
            refine lv_iconst (v := 0) hx hb dX12_give_62 (by decide) ?_
            refine callV_Pi C S9.1 S9.2.1.2.1 (c_X12_of l D G a0 x1 (0 : Int32) ga0 (by omega) (by omega)) kV_X12_255 ga0 (trivial) dX12_give_63 hl.1 rfl rfl (by decide) cd_X12_of ⟨Nat.le_of_ble_eq_true rfl, Nat.le_of_ble_eq_true rfl, Nat.le_of_ble_eq_true rfl, Nat.le_of_ble_eq_true rfl, Nat.le_of_ble_eq_true rfl⟩ (fun v12 q12 => ?_)
            refine lv_iload_n hx hb dX12_give_66 rfl (lv_at hl 2 rfl) ?_
            refine lv_iadd hx hb dX12_give_67 ?_
            refine lv_topi (fun v13 ev13 => ?_)
            have k_9999 : (9999 : Int32).toInt = 9999 := by decide
            refine q_min C kN_X12_270 dX12_give_68 hl.1 ⟨Nat.le_of_ble_eq_true rfl, Nat.le_of_ble_eq_true rfl, Nat.le_of_ble_eq_true rfl, Nat.le_of_ble_eq_true rfl⟩ (fun v14 fv14 => ?_)
            have n15 : aN H9 (fR D H9 11 a0 1) = 2052 := len_31 S9.1 g10
            refine q_iast C S9 g10 (by omega) (by omega) dX12_give_71 rfl (by decide) (by decide +kernel) (fun _ _ h => wk_low _ _ (by omega) (fun h9 => by omega) (fun h9 => by omega) (fun h9 => by omega) (fun j hj h9 => by omega) h) (fun H16 L16 S16 P16 => ?_) (hs := fun _ => Or.inr (vy_no (by omega) (by omega) (by omega) (by omega) (fun h9 hh9 => by omega) (fun j9 hj9 => by omega)))
            have rk16 : ∀ Vv Kv : Sg, MI D s.heap a0 Vv Kv → MI D H16 a0 Vv Kv := fun Vv Kv hv => (rk9 Vv Kv hv).keep S9.1 ga0 (Pa.keep g10 rfl (by decide) P16 (fun _ => ⟨len_31 S9.1 g10, vy_no (by omega) (by omega) (by omega) (by omega) (fun h9 hh9 => by omega) (fun j9 hj9 => by omega)⟩)) (by decide)
            refine lv_aload_n hx hb dX12_give_72 rfl (lv_at hl 0 rfl) ?_
            refine lv_iload_n hx hb dX12_give_73 rfl (lv_at hl 1 rfl) ?_
            refine lv_iconst (v := 0) hx hb dX12_give_74 (by decide) ?_
            refine callV_Pi C S16.1 S16.2.1.2.1 (c_X12_of l D G a0 x1 (0 : Int32) ga0 (by omega) (by omega)) kV_X12_255 ga0 (trivial) dX12_give_75 hl.1 rfl rfl (by decide) cd_X12_of ⟨Nat.le_of_ble_eq_true rfl, Nat.le_of_ble_eq_true rfl, Nat.le_of_ble_eq_true rfl, Nat.le_of_ble_eq_true rfl, Nat.le_of_ble_eq_true rfl⟩ (fun v17 q17 => ?_)
            exact retE_i hQ C S16 hr dX12_give_78 (⟨trivial, rk16⟩)
          · have b8 : ¬ v7.toInt = (0 : Int32).toInt := fun z9 => c8 (i_eq.mpr z9)
            exact absurd b8 (by omega)
        · have b6 : v5.toInt = (0 : Int32).toInt := i_eq.mp c6
          exact absurd b6 (by omega)
      · skip
        refine lv_if_ne (tgt := 34) hx hb dX12_give_27 (by decide) (fun c18 => ?_) (fun c18 => ?_)
        · have b18 : ¬ v5.toInt = (0 : Int32).toInt := fun z9 => c18 (i_eq.mpr z9)
          exact absurd b18 (by omega)
        · have b18 : v5.toInt = (0 : Int32).toInt := i_eq.mp c18
          refine lv_iconst (v := 1) hx hb dX12_give_30 (by decide) ?_
          refine lv_goto (tgt := 35) hx hb dX12_give_31 (by decide) ?_
          refine lv_iconst (v := 2) hx hb dX12_give_35 (by decide) ?_
          have k_2 : (2 : Int32).toInt = 2 := by decide
          refine callV_Ei C S3 (c_X12_throwsIf l D G a0 (1 : Int32) (2 : Int32) ga0 (by omega)) kV_X12_246 ga0 (trivial) (by decide +kernel) dX12_give_36 hl.1 rfl rfl (by decide) cd_X12_throwsIf ⟨Nat.le_of_ble_eq_true rfl, Nat.le_of_ble_eq_true rfl, Nat.le_of_ble_eq_true rfl, Nat.le_of_ble_eq_true rfl, Nat.le_of_ble_eq_true rfl⟩ (fun v19 H19 L19 S19 K19 q19 => ?_)
          have rk19 : ∀ Vv Kv : Sg, MI D s.heap a0 Vv Kv → MI D H19 a0 Vv Kv := fun Vv Kv hv => (rk3 Vv Kv hv).keep S3.1 ga0 K19 (by decide +kernel)
          refine lv_if_eq (tgt := 44) hx hb dX12_give_39 (by decide) (fun c20 => ?_) (fun c20 => ?_)
          · have b20 : v19.toInt = (0 : Int32).toInt := i_eq.mp c20
            exact absurd b20 (by omega)
          · have b20 : ¬ v19.toInt = (0 : Int32).toInt := fun z9 => c20 (i_eq.mpr z9)
            refine lv_iconst (v := 0) hx hb dX12_give_42 (by decide) ?_
            exact retE_i hQ C S19 hr dX12_give_43 (⟨trivial, rk19⟩)
  · skip
    refine lv_iconst (v := 1) hx hb dX12_give_11 (by decide) ?_
    have k_1 : (1 : Int32).toInt = 1 := by decide
    refine callV_Ei C S1 (c_X12_throwsIf l D G a0 v2 (1 : Int32) ga0 (by omega)) kV_X12_246 ga0 (trivial) (by decide +kernel) dX12_give_12 hl.1 rfl rfl (by decide) cd_X12_throwsIf ⟨Nat.le_of_ble_eq_true rfl, Nat.le_of_ble_eq_true rfl, Nat.le_of_ble_eq_true rfl, Nat.le_of_ble_eq_true rfl, Nat.le_of_ble_eq_true rfl⟩ (fun v21 H21 L21 S21 K21 q21 => ?_)
    have rk21 : ∀ Vv Kv : Sg, MI D s.heap a0 Vv Kv → MI D H21 a0 Vv Kv := fun Vv Kv hv => (rk1 Vv Kv hv).keep S1.1 ga0 K21 (by decide +kernel)
    refine lv_if_ne (tgt := 42) hx hb dX12_give_15 (by decide) (fun c22 => ?_) (fun c22 => ?_)
    · have b22 : ¬ v21.toInt = (0 : Int32).toInt := fun z9 => c22 (i_eq.mpr z9)
      refine lv_iconst (v := 0) hx hb dX12_give_42 (by decide) ?_
      exact retE_i hQ C S21 hr dX12_give_43 (⟨trivial, rk21⟩)
    · have b22 : v21.toInt = (0 : Int32).toInt := i_eq.mp c22
      exact absurd b22 (by omega)
