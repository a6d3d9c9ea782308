set_option maxRecDepth 100000 in
set_option maxHeartbeats 4000000 in
theorem c_X12_game (l : Launch) (D : DD) (G : Nat → Nat) (a0 : Nat) (x1 : Int32) (ga0 : G a0 = 30) : CE l D G yX12_game cX12_game 6 (some .int) 11 [.ref a0, .int x1] (fun _ => True) [(30, 0), (38, 0)] (xI (fun H r H1 => True)) := by
  refine enter (by decide) (Nat.le_of_ble_eq_true rfl) ?_
  intro p e s m args below meth c ls Q hA hQ C hr hO hpre hl
  have hx := C.1
  have hb := C.2.1
  have S : Sd D G [(30, 0), (38, 0)] s.heap s.heap [] := Sd.start hO
  have hl : lv_has ls 6 [(0, .ref a0), (1, .int x1)] := hl
  refine lv_aload_n hx hb dX12_game_0 rfl (lv_at hl 0 rfl) ?_
  refine lv_iconst (v := 0) hx hb dX12_game_1 (by decide) ?_
  have k_0 : (0 : Int32).toInt = 0 := by decide
  refine q_put (T := TX12) C S ga0 0 kF_X12_3 dX12_game_2 rfl rfl (by decide) (by decide) rfl rfl rfl rfl rfl (vok_a rfl) (by decide +kernel) (fun H1 L1 S1 P1 => ?_)
  refine lv_aload_n hx hb dX12_game_5 rfl (lv_at hl 0 rfl) ?_
  refine lv_aload_n hx hb dX12_game_6 rfl (lv_at hl 0 rfl) ?_
  refine lv_iload_n hx hb dX12_game_7 rfl (lv_at hl 1 rfl) ?_
  refine callV_Pi C S1.1 S1.2.1.2.1 (c_X12_noHearth l D G a0 x1 ga0) kV_X12_314 ga0 (trivial) dX12_game_8 hl.1 rfl rfl (by decide) cd_X12_noHearth ⟨Nat.le_of_ble_eq_true rfl, Nat.le_of_ble_eq_true rfl, Nat.le_of_ble_eq_true rfl, Nat.le_of_ble_eq_true rfl, Nat.le_of_ble_eq_true rfl⟩ (fun v2 q2 => ?_)
  rcases q2 with q2 | q2
  · skip
    refine lv_iconst (v := 1) hx hb dX12_game_11 (by decide) ?_
    have k_1 : (1 : Int32).toInt = 1 := by decide
    refine callV_Ei C S1 (c_X12_throwsIf l D G a0 v2 (1 : Int32) ga0 (by omega)) kV_X12_246 ga0 (trivial) (by decide +kernel) dX12_game_12 hl.1 rfl rfl (by decide) cd_X12_throwsIf ⟨Nat.le_of_ble_eq_true rfl, Nat.le_of_ble_eq_true rfl, Nat.le_of_ble_eq_true rfl, Nat.le_of_ble_eq_true rfl, Nat.le_of_ble_eq_true rfl⟩ (fun v3 H3 L3 S3 K3 q3 => ?_)
    refine lv_if_eq (tgt := 20) hx hb dX12_game_15 (by decide) (fun c4 => ?_) (fun c4 => ?_)
    · have b4 : v3.toInt = (0 : Int32).toInt := i_eq.mp c4
      refine lv_aload_n hx hb dX12_game_20 rfl (lv_at hl 0 rfl) ?_
      refine lv_iload_n hx hb dX12_game_21 rfl (lv_at hl 1 rfl) ?_
      refine callV_Pi C S3.1 S3.2.1.2.1 (c_X12_isWalled l D G a0 x1 ga0 (by omega)) kV_X12_264 ga0 (trivial) dX12_game_22 hl.1 rfl rfl (by decide) cd_X12_isWalled ⟨Nat.le_of_ble_eq_true rfl, Nat.le_of_ble_eq_true rfl, Nat.le_of_ble_eq_true rfl, Nat.le_of_ble_eq_true rfl, Nat.le_of_ble_eq_true rfl⟩ (fun v5 q5 => ?_)
      refine lv_if_eq (tgt := 30) hx hb dX12_game_25 (by decide) (fun c6 => ?_) (fun c6 => ?_)
      · have b6 : v5.toInt = (0 : Int32).toInt := i_eq.mp c6
        refine lv_iconst (v := 0) hx hb dX12_game_30 (by decide) ?_
        refine lv_istore_n (lv' := [(2, .int (0 : Int32)), (0, .ref a0), (1, .int x1)]) hx hb dX12_game_31 rfl hl (by decide) rfl (fun ls hl => ?_)
        refine lv_iconst (v := 0) hx hb dX12_game_32 (by decide) ?_
        refine lv_istore_n (lv' := [(3, .int (0 : Int32)), (2, .int (0 : Int32)), (0, .ref a0), (1, .int x1)]) hx hb dX12_game_33 rfl hl (by decide) rfl (fun ls hl => ?_)
        have Lp34 : ∀ (n : Nat) (x3_34 : Int32) (x2_34 : Int32) (H_34 : Heap) (L_34 : List Loc) (ls : Array Slot), (Sd D G [(30, 0), (38, 0)] s.heap H_34 L_34) → (0 ≤ x3_34.toInt ∧ x3_34.toInt ≤ 2147483647) → 2147483648 - x3_34.toInt ≤ (n : Int) → lv_has ls 6 [(3, .int x3_34), (2, .int x2_34), (0, .ref a0), (1, .int x1)] → W p l e (rmU 11 0 0) s m args below meth c H_34 L_34 0 0 Q (F0 m 34 ls []) := by
          intro n
          induction n with
          | zero =>
            intro x3_34 x2_34 H_34 L_34 ls S_34 j34_0 hn hl
            exact absurd hn (by omega)
          | succ n ih34 =>
            intro x3_34 x2_34 H_34 L_34 ls S_34 j34_0 hn hl
            refine lv_iload_n hx hb dX12_game_34 rfl (lv_at hl 0 rfl) ?_
            refine lv_iconst (v := 2) hx hb dX12_game_35 (by decide) ?_
            have k_2 : (2 : Int32).toInt = 2 := by decide
            refine lv_icmp_ge (tgt := 129) hx hb dX12_game_36 (by decide) (fun c7 => ?_) (fun c7 => ?_)
            · have b7 : (2 : Int32).toInt ≤ x3_34.toInt := i_le.mp c7
              refine lv_iload_n hx hb dX12_game_129 rfl (lv_at hl 1 rfl) ?_
              exact retE_i hQ C S_34 hr dX12_game_130 (trivial)
            · have b7 : ¬ (2 : Int32).toInt ≤ x3_34.toInt := fun z9 => c7 (i_le.mpr z9)
              refine lv_iconst (v := 0) hx hb dX12_game_39 (by decide) ?_
              refine lv_istore (lv' := [(4, .int (0 : Int32)), (3, .int x3_34), (2, .int x2_34), (0, .ref a0), (1, .int x1)]) hx hb dX12_game_40 hl (by decide) rfl (fun ls hl => ?_)
              have Lp42 : ∀ (n : Nat) (x4_42 : Int32) (x2_42 : Int32) (H_42 : Heap) (L_42 : List Loc) (ls : Array Slot), (Sd D G [(30, 0), (38, 0)] s.heap H_42 L_42) → (0 ≤ x4_42.toInt ∧ x4_42.toInt ≤ 2147483647) → 2147483648 - x4_42.toInt ≤ (n : Int) → lv_has ls 6 [(4, .int x4_42), (3, .int x3_34), (2, .int x2_42), (0, .ref a0), (1, .int x1)] → W p l e (rmU 11 0 0) s m args below meth c H_42 L_42 0 0 Q (F0 m 42 ls []) := by
                intro n
                induction n with
                | zero =>
                  intro x4_42 x2_42 H_42 L_42 ls S_42 j42_0 hn hl
                  exact absurd hn (by omega)
                | succ n ih42 =>
                  intro x4_42 x2_42 H_42 L_42 ls S_42 j42_0 hn hl
                  refine lv_iload hx hb dX12_game_42 (lv_at hl 0 rfl) ?_
                  refine lv_iconst (v := 2) hx hb dX12_game_44 (by decide) ?_
                  refine lv_icmp_ge (tgt := 123) hx hb dX12_game_45 (by decide) (fun c8 => ?_) (fun c8 => ?_)
                  · have b8 : (2 : Int32).toInt ≤ x4_42.toInt := i_le.mp c8
                    obtain ⟨v9, ev9⟩ : ∃ y : Int32, y = x3_34 + (1) := ⟨_, rfl⟩
                    have f10 : v9.toInt = x3_34.toInt + (1) := by rw [ev9]; exact i_addc k_1 (by omega) (by omega)
                    refine lv_iinc (v := v9) (lv' := [(3, .int v9), (4, .int x4_42), (2, .int x2_42), (0, .ref a0), (1, .int x1)]) hx hb dX12_game_123 hl (k := 1) rfl (by rw [ev9]; rfl) (by decide) rfl (fun ls hl => ?_)
                    refine lv_goto (tgt := 34) hx hb dX12_game_126 (by decide) ?_
                    exact ih34 v9 x2_42 H_42 L_42 ls S_42 (by omega) (by omega) (lv_sub hl [0, 2, 3, 4] rfl)
                  · have b8 : ¬ (2 : Int32).toInt ≤ x4_42.toInt := fun z9 => c8 (i_le.mpr z9)
                    refine lv_aload_n hx hb dX12_game_48 rfl (lv_at hl 3 rfl) ?_
                    refine lv_iload_n hx hb dX12_game_49 rfl (lv_at hl 4 rfl) ?_
                    refine lv_iload_n hx hb dX12_game_50 rfl (lv_at hl 1 rfl) ?_
                    refine lv_iload hx hb dX12_game_51 (lv_at hl 0 rfl) ?_
                    refine callV_Ei C S_42 (c_X12_paysBy l D G a0 x1 x3_34 x4_42 ga0 (by omega)) kV_X12_400 ga0 (trivial) (by decide +kernel) dX12_game_53 hl.1 rfl rfl (by decide) cd_X12_paysBy ⟨Nat.le_of_ble_eq_true rfl, Nat.le_of_ble_eq_true rfl, Nat.le_of_ble_eq_true rfl, Nat.le_of_ble_eq_true rfl, Nat.le_of_ble_eq_true rfl⟩ (fun v11 H11 L11 S11 K11 q11 => ?_)
                    refine lv_aload_n hx hb dX12_game_56 rfl (lv_at hl 3 rfl) ?_
                    refine lv_iload_n hx hb dX12_game_57 rfl (lv_at hl 4 rfl) ?_
                    refine lv_iconst (v := 1) hx hb dX12_game_58 (by decide) ?_
                    refine lv_iload_n hx hb dX12_game_59 rfl (lv_at hl 1 rfl) ?_
                    refine lv_isub hx hb dX12_game_60 ?_
                    refine lv_topi (fun v12 ev12 => ?_)
                    have f13 : v12.toInt = (1 : Int32).toInt - x3_34.toInt := by rw [ev12]; exact i_sub (by omega) (by omega)
                    refine lv_iload hx hb dX12_game_61 (lv_at hl 0 rfl) ?_
                    refine callV_Ei C S11 (c_X12_paysBy l D G a0 x1 v12 x4_42 ga0 (by omega)) kV_X12_400 ga0 (trivial) (by decide +kernel) dX12_game_63 hl.1 rfl rfl (by decide) cd_X12_paysBy ⟨Nat.le_of_ble_eq_true rfl, Nat.le_of_ble_eq_true rfl, Nat.le_of_ble_eq_true rfl, Nat.le_of_ble_eq_true rfl, Nat.le_of_ble_eq_true rfl⟩ (fun v14 H14 L14 S14 K14 q14 => ?_)
                    refine lv_icmp_gt (tgt := 94) hx hb dX12_game_66 (by decide) (fun c15 => ?_) (fun c15 => ?_)
                    · have b15 : v14.toInt < v11.toInt := i_lt.mp c15
                      refine lv_iconst (v := 0) hx hb dX12_game_94 (by decide) ?_
                      refine lv_istore (lv' := [(5, .int (0 : Int32)), (4, .int x4_42), (3, .int x3_34), (2, .int x2_42), (0, .ref a0), (1, .int x1)]) hx hb dX12_game_95 hl (by decide) rfl (fun ls hl => ?_)
                      refine lv_iload_n hx hb dX12_game_97 rfl (lv_at hl 3 rfl) ?_
                      refine lv_iload hx hb dX12_game_98 (lv_at hl 0 rfl) ?_
                      refine lv_if_eq (tgt := 114) hx hb dX12_game_100 (by decide) (fun c16 => ?_) (fun c16 => ?_)
                      · have b16 : (0 : Int32).toInt = (0 : Int32).toInt := i_eq.mp c16
                        refine lv_iconst (v := 0) hx hb dX12_game_114 (by decide) ?_
                        refine lv_ior hx hb dX12_game_115 ?_
                        refine lv_topi (fun v17 ev17 => ?_)
                        refine lv_istore_n (lv' := [(2, .int v17), (5, .int (0 : Int32)), (4, .int x4_42), (3, .int x3_34), (0, .ref a0), (1, .int x1)]) hx hb dX12_game_116 rfl hl (by decide) rfl (fun ls hl => ?_)
                        obtain ⟨v18, ev18⟩ : ∃ y : Int32, y = x4_42 + (1) := ⟨_, rfl⟩
                        have f19 : v18.toInt = x4_42.toInt + (1) := by rw [ev18]; exact i_addc k_1 (by omega) (by omega)
                        refine lv_iinc (v := v18) (lv' := [(4, .int v18), (2, .int v17), (5, .int (0 : Int32)), (3, .int x3_34), (0, .ref a0), (1, .int x1)]) hx hb dX12_game_117 hl (k := 2) rfl (by rw [ev18]; rfl) (by decide) rfl (fun ls hl => ?_)
                        refine lv_goto (tgt := 42) hx hb dX12_game_120 (by decide) ?_
                        exact ih42 v18 v17 H14 L14 ls S14 (by omega) (by omega) (lv_sub hl [0, 3, 1, 4, 5] rfl)
                      · have b16 : ¬ (0 : Int32).toInt = (0 : Int32).toInt := fun z9 => c16 (i_eq.mpr z9)
                        exact absurd b16 (by omega)
                    · have b15 : ¬ v14.toInt < v11.toInt := fun z9 => c15 (i_lt.mpr z9)
                      refine lv_aload_n hx hb dX12_game_69 rfl (lv_at hl 3 rfl) ?_
                      refine lv_iload_n hx hb dX12_game_70 rfl (lv_at hl 4 rfl) ?_
                      refine lv_iload_n hx hb dX12_game_71 rfl (lv_at hl 1 rfl) ?_
                      refine lv_iload hx hb dX12_game_72 (lv_at hl 0 rfl) ?_
                      refine callV_Ei C S14 (c_X12_manHas l D G a0 x1 x3_34 x4_42 ga0 (by omega)) kV_X12_403 ga0 (trivial) (by decide +kernel) dX12_game_74 hl.1 rfl rfl (by decide) cd_X12_manHas ⟨Nat.le_of_ble_eq_true rfl, Nat.le_of_ble_eq_true rfl, Nat.le_of_ble_eq_true rfl, Nat.le_of_ble_eq_true rfl, Nat.le_of_ble_eq_true rfl⟩ (fun v20 H20 L20 S20 K20 q20 => ?_)
                      refine lv_aload_n hx hb dX12_game_77 rfl (lv_at hl 3 rfl) ?_
                      refine lv_iload_n hx hb dX12_game_78 rfl (lv_at hl 4 rfl) ?_
                      refine lv_iload_n hx hb dX12_game_79 rfl (lv_at hl 1 rfl) ?_
                      refine lv_iconst (v := 1) hx hb dX12_game_80 (by decide) ?_
                      refine lv_iload hx hb dX12_game_81 (lv_at hl 0 rfl) ?_
                      refine lv_isub hx hb dX12_game_83 ?_
                      refine lv_topi (fun v21 ev21 => ?_)
                      have f22 : v21.toInt = (1 : Int32).toInt - x4_42.toInt := by rw [ev21]; exact i_sub (by omega) (by omega)
                      refine callV_Ei C S20 (c_X12_manHas l D G a0 x1 x3_34 v21 ga0 (by omega)) kV_X12_403 ga0 (trivial) (by decide +kernel) dX12_game_84 hl.1 rfl rfl (by decide) cd_X12_manHas ⟨Nat.le_of_ble_eq_true rfl, Nat.le_of_ble_eq_true rfl, Nat.le_of_ble_eq_true rfl, Nat.le_of_ble_eq_true rfl, Nat.le_of_ble_eq_true rfl⟩ (fun v23 H23 L23 S23 K23 q23 => ?_)
                      refine lv_icmp_lt (tgt := 94) hx hb dX12_game_87 (by decide) (fun c24 => ?_) (fun c24 => ?_)
                      · have b24 : v20.toInt < v23.toInt := i_lt.mp c24
                        refine lv_iconst (v := 0) hx hb dX12_game_94 (by decide) ?_
                        refine lv_istore (lv' := [(5, .int (0 : Int32)), (4, .int x4_42), (3, .int x3_34), (2, .int x2_42), (0, .ref a0), (1, .int x1)]) hx hb dX12_game_95 hl (by decide) rfl (fun ls hl => ?_)
                        refine lv_iload_n hx hb dX12_game_97 rfl (lv_at hl 3 rfl) ?_
                        refine lv_iload hx hb dX12_game_98 (lv_at hl 0 rfl) ?_
                        refine lv_if_eq (tgt := 114) hx hb dX12_game_100 (by decide) (fun c25 => ?_) (fun c25 => ?_)
                        · have b25 : (0 : Int32).toInt = (0 : Int32).toInt := i_eq.mp c25
                          refine lv_iconst (v := 0) hx hb dX12_game_114 (by decide) ?_
                          refine lv_ior hx hb dX12_game_115 ?_
                          refine lv_topi (fun v26 ev26 => ?_)
                          refine lv_istore_n (lv' := [(2, .int v26), (5, .int (0 : Int32)), (4, .int x4_42), (3, .int x3_34), (0, .ref a0), (1, .int x1)]) hx hb dX12_game_116 rfl hl (by decide) rfl (fun ls hl => ?_)
                          obtain ⟨v27, ev27⟩ : ∃ y : Int32, y = x4_42 + (1) := ⟨_, rfl⟩
                          have f28 : v27.toInt = x4_42.toInt + (1) := by rw [ev27]; exact i_addc k_1 (by omega) (by omega)
                          refine lv_iinc (v := v27) (lv' := [(4, .int v27), (2, .int v26), (5, .int (0 : Int32)), (3, .int x3_34), (0, .ref a0), (1, .int x1)]) hx hb dX12_game_117 hl (k := 2) rfl (by rw [ev27]; rfl) (by decide) rfl (fun ls hl => ?_)
                          refine lv_goto (tgt := 42) hx hb dX12_game_120 (by decide) ?_
                          exact ih42 v27 v26 H23 L23 ls S23 (by omega) (by omega) (lv_sub hl [0, 3, 1, 4, 5] rfl)
                        · have b25 : ¬ (0 : Int32).toInt = (0 : Int32).toInt := fun z9 => c25 (i_eq.mpr z9)
                          exact absurd b25 (by omega)
                      · have b24 : ¬ v20.toInt < v23.toInt := fun z9 => c24 (i_lt.mpr z9)
                        refine lv_iconst (v := 1) hx hb dX12_game_90 (by decide) ?_
                        refine lv_goto (tgt := 95) hx hb dX12_game_91 (by decide) ?_
                        refine lv_istore (lv' := [(5, .int (1 : Int32)), (4, .int x4_42), (3, .int x3_34), (2, .int x2_42), (0, .ref a0), (1, .int x1)]) hx hb dX12_game_95 hl (by decide) rfl (fun ls hl => ?_)
                        refine lv_iload_n hx hb dX12_game_97 rfl (lv_at hl 3 rfl) ?_
                        refine lv_iload hx hb dX12_game_98 (lv_at hl 0 rfl) ?_
                        refine lv_if_eq (tgt := 114) hx hb dX12_game_100 (by decide) (fun c29 => ?_) (fun c29 => ?_)
                        · have b29 : (1 : Int32).toInt = (0 : Int32).toInt := i_eq.mp c29
                          exact absurd b29 (by omega)
                        · have b29 : ¬ (1 : Int32).toInt = (0 : Int32).toInt := fun z9 => c29 (i_eq.mpr z9)
                          refine lv_iconst (v := 1) hx hb dX12_game_103 (by decide) ?_
                          refine lv_iconst (v := 2) hx hb dX12_game_104 (by decide) ?_
                          refine lv_iload_n hx hb dX12_game_105 rfl (lv_at hl 2 rfl) ?_
                          refine lv_imul hx hb dX12_game_106 ?_
                          refine lv_topi (fun v30 ev30 => ?_)
                          have f31 : v30.toInt = (2) * x3_34.toInt := by rw [ev30]; exact i_cmul k_2 (by omega) (by omega)
                          refine lv_iload hx hb dX12_game_107 (lv_at hl 1 rfl) ?_
                          refine lv_iadd hx hb dX12_game_109 ?_
                          refine lv_topi (fun v32 ev32 => ?_)
                          have f33 : v32.toInt = v30.toInt + x4_42.toInt := by rw [ev32]; exact i_add (by omega) (by omega)
                          refine lv_ishl hx hb dX12_game_110 ?_
                          refine lv_topi (fun v34 ev34 => ?_)
                          have f35 : 1 ≤ v34.toInt ∧ v34.toInt ≤ 8 := by rw [ev34]; exact i_shl1 3 (by omega) (by omega) (by decide)
                          refine lv_goto (tgt := 115) hx hb dX12_game_111 (by decide) ?_
                          refine lv_ior hx hb dX12_game_115 ?_
                          refine lv_topi (fun v36 ev36 => ?_)
                          refine lv_istore_n (lv' := [(2, .int v36), (5, .int (1 : Int32)), (4, .int x4_42), (3, .int x3_34), (0, .ref a0), (1, .int x1)]) hx hb dX12_game_116 rfl hl (by decide) rfl (fun ls hl => ?_)
                          obtain ⟨v37, ev37⟩ : ∃ y : Int32, y = x4_42 + (1) := ⟨_, rfl⟩
                          have f38 : v37.toInt = x4_42.toInt + (1) := by rw [ev37]; exact i_addc k_1 (by omega) (by omega)
                          refine lv_iinc (v := v37) (lv' := [(4, .int v37), (2, .int v36), (5, .int (1 : Int32)), (3, .int x3_34), (0, .ref a0), (1, .int x1)]) hx hb dX12_game_117 hl (k := 2) rfl (by rw [ev37]; rfl) (by decide) rfl (fun ls hl => ?_)
                          refine lv_goto (tgt := 42) hx hb dX12_game_120 (by decide) ?_
                          exact ih42 v37 v36 H23 L23 ls S23 (by omega) (by omega) (lv_sub hl [0, 3, 1, 4, 5] rfl)
              exact Lp42 2147483648 (0 : Int32) x2_34 H_34 L_34 ls S_34 (by omega)  (by omega) (lv_sub hl [0, 1, 2, 3, 4] rfl)
        exact Lp34 2147483648 (0 : Int32) (0 : Int32) H3 L3 ls S3 (by omega)  (by omega) (lv_sub hl [0, 1, 2, 3] rfl)
      · have b6 : ¬ v5.toInt = (0 : Int32).toInt := fun z9 => c6 (i_eq.mpr z9)
        refine lv_iconst (v := -1) hx hb dX12_game_28 (by decide) ?_
        have k_m1 : (-1 : Int32).toInt = -1 := by decide
        exact retE_i hQ C S3 hr dX12_game_29 (trivial)
    · have b4 : ¬ v3.toInt = (0 : Int32).toInt := fun z9 => c4 (i_eq.mpr z9)
      exact absurd b4 (by omega)
  · skip
    refine lv_iconst (v := 1) hx hb dX12_game_11 (by decide) ?_
    have k_1 : (1 : Int32).toInt = 1 := by decide
    refine callV_Ei C S1 (c_X12_throwsIf l D G a0 v2 (1 : Int32) ga0 (by omega)) kV_X12_246 ga0 (trivial) (by decide +kernel) dX12_game_12 hl.1 rfl rfl (by decide) cd_X12_throwsIf ⟨Nat.le_of_ble_eq_true rfl, Nat.le_of_ble_eq_true rfl, Nat.le_of_ble_eq_true rfl, Nat.le_of_ble_eq_true rfl, Nat.le_of_ble_eq_true rfl⟩ (fun v39 H39 L39 S39 K39 q39 => ?_)
    refine lv_if_eq (tgt := 20) hx hb dX12_game_15 (by decide) (fun c40 => ?_) (fun c40 => ?_)
    · have b40 : v39.toInt = (0 : Int32).toInt := i_eq.mp c40
      exact absurd b40 (by omega)
    · have b40 : ¬ v39.toInt = (0 : Int32).toInt := fun z9 => c40 (i_eq.mpr z9)
      refine lv_iconst (v := 0) hx hb dX12_game_18 (by decide) ?_
      exact retE_i hQ C S39 hr dX12_game_19 (trivial)

set_option maxRecDepth 100000 in
set_option maxHeartbeats 4000000 in
theorem c_X12_odds (l : Launch) (D : DD) (G : Nat → Nat) (a0 : Nat) (x1 : Int32) (ga0 : G a0 = 30) : CE l D G yX12_odds cX12_odds 2 (some .int) 2 [.ref a0, .int x1] (fun _ => True) [(30, 0)] (xI (fun H r H1 => True)) := by
  refine enter (by decide) (Nat.le_of_ble_eq_true rfl) ?_
  intro p e s m args below meth c ls Q hA hQ C hr hO hpre hl
  have hx := C.1
  have hb := C.2.1
  have S : Sd D G [(30, 0)] s.heap s.heap [] := Sd.start hO
  have hl : lv_has ls 2 [(0, .ref a0), (1, .int x1)] := hl
  refine lv_aload_n hx hb dX12_odds_0 rfl (lv_at hl 0 rfl) ?_
  refine lv_iconst (v := 0) hx hb dX12_odds_1 (by decide) ?_
  have k_0 : (0 : Int32).toInt = 0 := by decide
  refine q_put (T := TX12) C S ga0 0 kF_X12_3 dX12_odds_2 rfl rfl (by decide) (by decide) rfl rfl rfl rfl rfl (vok_a rfl) (by decide +kernel) (fun H1 L1 S1 P1 => ?_)
  refine lv_aload_n hx hb dX12_odds_5 rfl (lv_at hl 0 rfl) ?_
  refine lv_aload_n hx hb dX12_odds_6 rfl (lv_at hl 0 rfl) ?_
  refine lv_iload_n hx hb dX12_odds_7 rfl (lv_at hl 1 rfl) ?_
  refine callV_Pi C S1.1 S1.2.1.2.1 (c_X12_noHouse l D G a0 x1 ga0) kV_X12_299 ga0 (trivial) dX12_odds_8 hl.1 rfl rfl (by decide) cd_X12_noHouse ⟨Nat.le_of_ble_eq_true rfl, Nat.le_of_ble_eq_true rfl, Nat.le_of_ble_eq_true rfl, Nat.le_of_ble_eq_true rfl, Nat.le_of_ble_eq_true rfl⟩ (fun v2 q2 => ?_)
  rcases q2 with q2 | q2
  · skip
    refine lv_iconst (v := 1) hx hb dX12_odds_11 (by decide) ?_
    have k_1 : (1 : Int32).toInt = 1 := by decide
    refine callV_Ei C S1 (c_X12_throwsIf l D G a0 v2 (1 : Int32) ga0 (by omega)) kV_X12_246 ga0 (trivial) (by decide +kernel) dX12_odds_12 hl.1 rfl rfl (by decide) cd_X12_throwsIf ⟨Nat.le_of_ble_eq_true rfl, Nat.le_of_ble_eq_true rfl, Nat.le_of_ble_eq_true rfl, Nat.le_of_ble_eq_true rfl, Nat.le_of_ble_eq_true rfl⟩ (fun v3 H3 L3 S3 K3 q3 => ?_)
    refine lv_if_eq (tgt := 22) hx hb dX12_odds_15 (by decide) (fun c4 => ?_) (fun c4 => ?_)
    · have b4 : v3.toInt = (0 : Int32).toInt := i_eq.mp c4
      refine lv_bipush (v := 100) hx hb dX12_odds_22 (by decide) ?_
      refine lv_aload_n hx hb dX12_odds_24 rfl (lv_at hl 0 rfl) ?_
      refine q_gr (T := TX12) C S3.1 ga0 1 kF_X12_13 dX12_odds_25 rfl rfl (by decide) rfl (by decide) rfl (fun g5 => ?_)
      refine lv_bipush (v := 7) hx hb dX12_odds_28 (by decide) ?_
      have n6 : aN H3 (fR D H3 11 a0 1) = 2052 := len_31 S3.1 g5
      have k_7 : (7 : Int32).toInt = 7 := by decide
      refine q_iald C S3.1 g5 (by omega) (by omega) dX12_odds_30 rfl (by decide) ?_
      refine lv_topi (fun v7 ev7 => ?_)
      have k_100 : (100 : Int32).toInt = 100 := by decide
      refine lv_imul hx hb dX12_odds_31 ?_
      refine lv_topi (fun v8 ev8 => ?_)
      refine lv_bipush (v := 100) hx hb dX12_odds_32 (by decide) ?_
      refine lv_aload_n hx hb dX12_odds_34 rfl (lv_at hl 0 rfl) ?_
      refine q_gr (T := TX12) C S3.1 ga0 1 kF_X12_13 dX12_odds_35 rfl rfl (by decide) rfl (by decide) rfl (fun g9 => ?_)
      refine lv_bipush (v := 7) hx hb dX12_odds_38 (by decide) ?_
      refine q_iald C S3.1 g9 (by omega) (by omega) dX12_odds_40 rfl (by decide) ?_
      refine lv_topi (fun v10 ev10 => ?_)
      refine lv_isub hx hb dX12_odds_41 ?_
      refine lv_topi (fun v11 ev11 => ?_)
      refine lv_aload_n hx hb dX12_odds_42 rfl (lv_at hl 0 rfl) ?_
      refine lv_iload_n hx hb dX12_odds_43 rfl (lv_at hl 1 rfl) ?_
      refine lv_iconst (v := 4) hx hb dX12_odds_44 (by decide) ?_
      have k_4 : (4 : Int32).toInt = 4 := by decide
      refine callV_Pi C S3.1 S3.2.1.2.1 (c_X12_of l D G a0 x1 (4 : Int32) ga0 (by omega) (by omega)) kV_X12_255 ga0 (trivial) dX12_odds_45 hl.1 rfl rfl (by decide) cd_X12_of ⟨Nat.le_of_ble_eq_true rfl, Nat.le_of_ble_eq_true rfl, Nat.le_of_ble_eq_true rfl, Nat.le_of_ble_eq_true rfl, Nat.le_of_ble_eq_true rfl⟩ (fun v12 q12 => ?_)
      refine lv_imul hx hb dX12_odds_48 ?_
      refine lv_topi (fun v13 ev13 => ?_)
      refine lv_iadd hx hb dX12_odds_49 ?_
      refine lv_topi (fun v14 ev14 => ?_)
      exact retE_i hQ C S3 hr dX12_odds_50 (trivial)
    · have b4 : ¬ v3.toInt = (0 : Int32).toInt := fun z9 => c4 (i_eq.mpr z9)
      exact absurd b4 (by omega)
  · skip
    refine lv_iconst (v := 1) hx hb dX12_odds_11 (by decide) ?_
    have k_1 : (1 : Int32).toInt = 1 := by decide
    refine callV_Ei C S1 (c_X12_throwsIf l D G a0 v2 (1 : Int32) ga0 (by omega)) kV_X12_246 ga0 (trivial) (by decide +kernel) dX12_odds_12 hl.1 rfl rfl (by decide) cd_X12_throwsIf ⟨Nat.le_of_ble_eq_true rfl, Nat.le_of_ble_eq_true rfl, Nat.le_of_ble_eq_true rfl, Nat.le_of_ble_eq_true rfl, Nat.le_of_ble_eq_true rfl⟩ (fun v15 H15 L15 S15 K15 q15 => ?_)
    refine lv_if_eq (tgt := 22) hx hb dX12_odds_15 (by decide) (fun c16 => ?_) (fun c16 => ?_)
    · have b16 : v15.toInt = (0 : Int32).toInt := i_eq.mp c16
      exact absurd b16 (by omega)
    · have b16 : ¬ v15.toInt = (0 : Int32).toInt := fun z9 => c16 (i_eq.mpr z9)
      refine lv_iconst (v := 0) hx hb dX12_odds_18 (by decide) ?_
      refine lv_goto (tgt := 50) hx hb dX12_odds_19 (by decide) ?_
      exact retE_i hQ C S15 hr dX12_odds_50 (trivial)

set_option maxRecDepth 100000 in
set_option maxHeartbeats 4000000 in
theorem c_X12_window (l : Launch) (D : DD) (G : Nat → Nat) (a0 : Nat) (x1 : Int32) (ga0 : G a0 = 30) : CE l D G yX12_window cX12_window 2 (some .int) 10 [.ref a0, .int x1] (fun _ => True) [(30, 0), (38, 0)] (xI (fun H r H1 => True)) := by
  refine enter (by decide) (Nat.le_of_ble_eq_true rfl) ?_
  intro p e s m args below meth c ls Q hA hQ C hr hO hpre hl
  have hx := C.1
  have hb := C.2.1
  have S : Sd D G [(30, 0), (38, 0)] s.heap s.heap [] := Sd.start hO
  have hl : lv_has ls 2 [(0, .ref a0), (1, .int x1)] := hl
  refine lv_aload_n hx hb dX12_window_0 rfl (lv_at hl 0 rfl) ?_
  refine lv_iconst (v := 0) hx hb dX12_window_1 (by decide) ?_
  have k_0 : (0 : Int32).toInt = 0 := by decide
  refine q_put (T := TX12) C S ga0 0 kF_X12_3 dX12_window_2 rfl rfl (by decide) (by decide) rfl rfl rfl rfl rfl (vok_a rfl) (by decide +kernel) (fun H1 L1 S1 P1 => ?_)
  refine lv_aload_n hx hb dX12_window_5 rfl (lv_at hl 0 rfl) ?_
  refine lv_aload_n hx hb dX12_window_6 rfl (lv_at hl 0 rfl) ?_
  refine lv_iload_n hx hb dX12_window_7 rfl (lv_at hl 1 rfl) ?_
  refine callV_Pi C S1.1 S1.2.1.2.1 (c_X12_noHouse l D G a0 x1 ga0) kV_X12_299 ga0 (trivial) dX12_window_8 hl.1 rfl rfl (by decide) cd_X12_noHouse ⟨Nat.le_of_ble_eq_true rfl, Nat.le_of_ble_eq_true rfl, Nat.le_of_ble_eq_true rfl, Nat.le_of_ble_eq_true rfl, Nat.le_of_ble_eq_true rfl⟩ (fun v2 q2 => ?_)
  rcases q2 with q2 | q2
  · skip
    refine lv_iconst (v := 1) hx hb dX12_window_11 (by decide) ?_
    have k_1 : (1 : Int32).toInt = 1 := by decide
    refine callV_Ei C S1 (c_X12_throwsIf l D G a0 v2 (1 : Int32) ga0 (by omega)) kV_X12_246 ga0 (trivial) (by decide +kernel) dX12_window_12 hl.1 rfl rfl (by decide) cd_X12_throwsIf ⟨Nat.le_of_ble_eq_true rfl, Nat.le_of_ble_eq_true rfl, Nat.le_of_ble_eq_true rfl, Nat.le_of_ble_eq_true rfl, Nat.le_of_ble_eq_true rfl⟩ (fun v3 H3 L3 S3 K3 q3 => ?_)
    refine lv_if_eq (tgt := 22) hx hb dX12_window_15 (by decide) (fun c4 => ?_) (fun c4 => ?_)
    · have b4 : v3.toInt = (0 : Int32).toInt := i_eq.mp c4
      refine lv_iconst (v := 0) hx hb dX12_window_22 (by decide) ?_
      refine lv_aload_n hx hb dX12_window_23 rfl (lv_at hl 0 rfl) ?_
      refine lv_iload_n hx hb dX12_window_24 rfl (lv_at hl 1 rfl) ?_
      refine lv_iconst (v := 2) hx hb dX12_window_25 (by decide) ?_
      have k_2 : (2 : Int32).toInt = 2 := by decide
      refine callV_Pi C S3.1 S3.2.1.2.1 (c_X12_of l D G a0 x1 (2 : Int32) ga0 (by omega) (by omega)) kV_X12_255 ga0 (trivial) dX12_window_26 hl.1 rfl rfl (by decide) cd_X12_of ⟨Nat.le_of_ble_eq_true rfl, Nat.le_of_ble_eq_true rfl, Nat.le_of_ble_eq_true rfl, Nat.le_of_ble_eq_true rfl, Nat.le_of_ble_eq_true rfl⟩ (fun v5 q5 => ?_)
      refine lv_bipush (v := 6) hx hb dX12_window_29 (by decide) ?_
      have k_6 : (6 : Int32).toInt = 6 := by decide
      refine lv_isub hx hb dX12_window_31 ?_
      refine lv_topi (fun v6 ev6 => ?_)
      refine q_max C kN_X12_370 dX12_window_32 hl.1 ⟨Nat.le_of_ble_eq_true rfl, Nat.le_of_ble_eq_true rfl, Nat.le_of_ble_eq_true rfl, Nat.le_of_ble_eq_true rfl⟩ (fun v7 fv7 => ?_)
      refine lv_aload_n hx hb dX12_window_35 rfl (lv_at hl 0 rfl) ?_
      refine lv_iload_n hx hb dX12_window_36 rfl (lv_at hl 1 rfl) ?_
      refine callV_Ei C S3 (c_X12_paysOf l D G a0 x1 ga0) kV_X12_293 ga0 (trivial) (by decide +kernel) dX12_window_37 hl.1 rfl rfl (by decide) cd_X12_paysOf ⟨Nat.le_of_ble_eq_true rfl, Nat.le_of_ble_eq_true rfl, Nat.le_of_ble_eq_true rfl, Nat.le_of_ble_eq_true rfl, Nat.le_of_ble_eq_true rfl⟩ (fun v8 H8 L8 S8 K8 q8 => ?_)
      refine lv_isub hx hb dX12_window_40 ?_
      refine lv_topi (fun v9 ev9 => ?_)
      exact retE_i hQ C S8 hr dX12_window_41 (trivial)
    · have b4 : ¬ v3.toInt = (0 : Int32).toInt := fun z9 => c4 (i_eq.mpr z9)
      exact absurd b4 (by omega)
  · skip
    refine lv_iconst (v := 1) hx hb dX12_window_11 (by decide) ?_
    have k_1 : (1 : Int32).toInt = 1 := by decide
    refine callV_Ei C S1 (c_X12_throwsIf l D G a0 v2 (1 : Int32) ga0 (by omega)) kV_X12_246 ga0 (trivial) (by decide +kernel) dX12_window_12 hl.1 rfl rfl (by decide) cd_X12_throwsIf ⟨Nat.le_of_ble_eq_true rfl, Nat.le_of_ble_eq_true rfl, Nat.le_of_ble_eq_true rfl, Nat.le_of_ble_eq_true rfl, Nat.le_of_ble_eq_true rfl⟩ (fun v10 H10 L10 S10 K10 q10 => ?_)
    refine lv_if_eq (tgt := 22) hx hb dX12_window_15 (by decide) (fun c11 => ?_) (fun c11 => ?_)
    · have b11 : v10.toInt = (0 : Int32).toInt := i_eq.mp c11
      exact absurd b11 (by omega)
    · have b11 : ¬ v10.toInt = (0 : Int32).toInt := fun z9 => c11 (i_eq.mpr z9)
      refine lv_iconst (v := 0) hx hb dX12_window_18 (by decide) ?_
      refine lv_goto (tgt := 41) hx hb dX12_window_19 (by decide) ?_
      exact retE_i hQ C S10 hr dX12_window_41 (trivial)

set_option maxRecDepth 100000 in
set_option maxHeartbeats 4000000 in
theorem c_X12_alike (l : Launch) (D : DD) (G : Nat → Nat) (a0 : Nat) (ga0 : G a0 = 30) : CE l D G yX12_alike cX12_alike 4 (some .int) 10 [.ref a0] (fun _ => True) [(30, 0), (38, 0)] (xI (fun H r H1 => True)) := by
  refine enter (by decide) (Nat.le_of_ble_eq_true rfl) ?_
  intro p e s m args below meth c ls Q hA hQ C hr hO hpre hl
  have hx := C.1
  have hb := C.2.1
  have S : Sd D G [(30, 0), (38, 0)] s.heap s.heap [] := Sd.start hO
  have hl : lv_has ls 4 [(0, .ref a0)] := hl
  refine lv_aload_n hx hb dX12_alike_0 rfl (lv_at hl 0 rfl) ?_
  refine lv_iconst (v := 0) hx hb dX12_alike_1 (by decide) ?_
  have k_0 : (0 : Int32).toInt = 0 := by decide
  refine q_put (T := TX12) C S ga0 0 kF_X12_3 dX12_alike_2 rfl rfl (by decide) (by decide) rfl rfl rfl rfl rfl (vok_a rfl) (by decide +kernel) (fun H1 L1 S1 P1 => ?_)
  refine lv_iconst (v := 0) hx hb dX12_alike_5 (by decide) ?_
  refine lv_istore_n (lv' := [(1, .int (0 : Int32)), (0, .ref a0)]) hx hb dX12_alike_6 rfl hl (by decide) rfl (fun ls hl => ?_)
  refine lv_iconst (v := 0) hx hb dX12_alike_7 (by decide) ?_
  refine lv_istore_n (lv' := [(2, .int (0 : Int32)), (1, .int (0 : Int32)), (0, .ref a0)]) hx hb dX12_alike_8 rfl hl (by decide) rfl (fun ls hl => ?_)
  have Lp9 : ∀ (n : Nat) (x2_9 : Int32) (x1_9 : Int32) (H_9 : Heap) (L_9 : List Loc) (ls : Array Slot), (Sd D G [(30, 0), (38, 0)] s.heap H_9 L_9) → (0 ≤ x2_9.toInt ∧ x2_9.toInt ≤ 2147483647) → 2147483648 - x2_9.toInt ≤ (n : Int) → lv_has ls 4 [(2, .int x2_9), (1, .int x1_9), (0, .ref a0)] → W p l e (rmU 10 0 0) s m args below meth c H_9 L_9 0 0 Q (F0 m 9 ls []) := by
    intro n
    induction n with
    | zero =>
      intro x2_9 x1_9 H_9 L_9 ls S_9 j9_0 hn hl
      exact absurd hn (by omega)
    | succ n ih9 =>
      intro x2_9 x1_9 H_9 L_9 ls S_9 j9_0 hn hl
      refine lv_iload_n hx hb dX12_alike_9 rfl (lv_at hl 0 rfl) ?_
      refine lv_aload_n hx hb dX12_alike_10 rfl (lv_at hl 2 rfl) ?_
      refine callV_Pi C S_9.1 S_9.2.1.2.1 (c_X12_houses l D G a0 ga0) kV_X12_59 ga0 (trivial) dX12_alike_11 hl.1 rfl rfl (by decide) cd_X12_houses ⟨Nat.le_of_ble_eq_true rfl, Nat.le_of_ble_eq_true rfl, Nat.le_of_ble_eq_true rfl, Nat.le_of_ble_eq_true rfl, Nat.le_of_ble_eq_true rfl⟩ (fun v2 q2 => ?_)
      have r4 := i_rng x2_9
      refine lv_icmp_ge (tgt := 70) hx hb dX12_alike_14 (by decide) (fun c3 => ?_) (fun c3 => ?_)
      · have b3 : v2.toInt ≤ x2_9.toInt := i_le.mp c3
        refine lv_iload_n hx hb dX12_alike_70 rfl (lv_at hl 1 rfl) ?_
        exact retE_i hQ C S_9 hr dX12_alike_71 (trivial)
      · have b3 : ¬ v2.toInt ≤ x2_9.toInt := fun z9 => c3 (i_le.mpr z9)
        refine lv_iconst (v := 0) hx hb dX12_alike_17 (by decide) ?_
        refine lv_istore_n (lv' := [(3, .int (0 : Int32)), (2, .int x2_9), (1, .int x1_9), (0, .ref a0)]) hx hb dX12_alike_18 rfl hl (by decide) rfl (fun ls hl => ?_)
        have Lp19 : ∀ (n : Nat) (x3_19 : Int32) (x1_19 : Int32) (H_19 : Heap) (L_19 : List Loc) (ls : Array Slot), (Sd D G [(30, 0), (38, 0)] s.heap H_19 L_19) → (0 ≤ x3_19.toInt ∧ x3_19.toInt ≤ 2147483647) → 2147483648 - x3_19.toInt ≤ (n : Int) → lv_has ls 4 [(3, .int x3_19), (2, .int x2_9), (1, .int x1_19), (0, .ref a0)] → W p l e (rmU 10 0 0) s m args below meth c H_19 L_19 0 0 Q (F0 m 19 ls []) := by
          intro n
          induction n with
          | zero =>
            intro x3_19 x1_19 H_19 L_19 ls S_19 j19_0 hn hl
            exact absurd hn (by omega)
          | succ n ih19 =>
            intro x3_19 x1_19 H_19 L_19 ls S_19 j19_0 hn hl
            refine lv_iload_n hx hb dX12_alike_19 rfl (lv_at hl 0 rfl) ?_
            refine lv_iload_n hx hb dX12_alike_20 rfl (lv_at hl 1 rfl) ?_
            have r6 := i_rng x3_19
            refine lv_icmp_ge (tgt := 64) hx hb dX12_alike_21 (by decide) (fun c5 => ?_) (fun c5 => ?_)
            · have b5 : x2_9.toInt ≤ x3_19.toInt := i_le.mp c5
              obtain ⟨v7, ev7⟩ : ∃ y : Int32, y = x2_9 + (1) := ⟨_, rfl⟩
              have k_1 : (1 : Int32).toInt = 1 := by decide
              have f8 : v7.toInt = x2_9.toInt + (1) := by rw [ev7]; exact i_addc k_1 (by omega) (by omega)
              refine lv_iinc (v := v7) (lv' := [(2, .int v7), (3, .int x3_19), (1, .int x1_19), (0, .ref a0)]) hx hb dX12_alike_64 hl (k := 1) rfl (by rw [ev7]; rfl) (by decide) rfl (fun ls hl => ?_)
              refine lv_goto (tgt := 9) hx hb dX12_alike_67 (by decide) ?_
              exact ih9 v7 x1_19 H_19 L_19 ls S_19 (by omega) (by omega) (lv_sub hl [0, 2, 3] rfl)
            · have b5 : ¬ x2_9.toInt ≤ x3_19.toInt := fun z9 => c5 (i_le.mpr z9)
              refine lv_iload_n hx hb dX12_alike_24 rfl (lv_at hl 2 rfl) ?_
              refine lv_aload_n hx hb dX12_alike_25 rfl (lv_at hl 3 rfl) ?_
              refine lv_iload_n hx hb dX12_alike_26 rfl (lv_at hl 1 rfl) ?_
              refine callV_Pi C S_19.1 S_19.2.1.2.1 (c_X12_warmthOf l D G a0 x2_9 ga0) kV_X12_305 ga0 (trivial) dX12_alike_27 hl.1 rfl rfl (by decide) cd_X12_warmthOf ⟨Nat.le_of_ble_eq_true rfl, Nat.le_of_ble_eq_true rfl, Nat.le_of_ble_eq_true rfl, Nat.le_of_ble_eq_true rfl, Nat.le_of_ble_eq_true rfl⟩ (fun v9 q9 => ?_)
              refine lv_aload_n hx hb dX12_alike_30 rfl (lv_at hl 3 rfl) ?_
              refine lv_iload_n hx hb dX12_alike_31 rfl (lv_at hl 0 rfl) ?_
              refine callV_Pi C S_19.1 S_19.2.1.2.1 (c_X12_warmthOf l D G a0 x3_19 ga0) kV_X12_305 ga0 (trivial) dX12_alike_32 hl.1 rfl rfl (by decide) cd_X12_warmthOf ⟨Nat.le_of_ble_eq_true rfl, Nat.le_of_ble_eq_true rfl, Nat.le_of_ble_eq_true rfl, Nat.le_of_ble_eq_true rfl, Nat.le_of_ble_eq_true rfl⟩ (fun v10 q10 => ?_)
              refine lv_icmp_ne (tgt := 55) hx hb dX12_alike_35 (by decide) (fun c11 => ?_) (fun c11 => ?_)
              · have b11 : ¬ v9.toInt = v10.toInt := fun z9 => c11 (i_eq.mpr z9)
                refine lv_iconst (v := 0) hx hb dX12_alike_55 (by decide) ?_
                refine lv_iadd hx hb dX12_alike_56 ?_
                refine lv_topi (fun v12 ev12 => ?_)
                refine lv_istore_n (lv' := [(1, .int v12), (3, .int x3_19), (2, .int x2_9), (0, .ref a0)]) hx hb dX12_alike_57 rfl hl (by decide) rfl (fun ls hl => ?_)
                obtain ⟨v13, ev13⟩ : ∃ y : Int32, y = x3_19 + (1) := ⟨_, rfl⟩
                have k_1 : (1 : Int32).toInt = 1 := by decide
                have f14 : v13.toInt = x3_19.toInt + (1) := by rw [ev13]; exact i_addc k_1 (by omega) (by omega)
                refine lv_iinc (v := v13) (lv' := [(3, .int v13), (1, .int v12), (2, .int x2_9), (0, .ref a0)]) hx hb dX12_alike_58 hl (k := 1) rfl (by rw [ev13]; rfl) (by decide) rfl (fun ls hl => ?_)
                refine lv_goto (tgt := 19) hx hb dX12_alike_61 (by decide) ?_
                exact ih19 v13 v12 H_19 L_19 ls S_19 (by omega) (by omega) (lv_sub hl [0, 2, 1, 3] rfl)
              · have b11 : v9.toInt = v10.toInt := i_eq.mp c11
                refine lv_aload_n hx hb dX12_alike_38 rfl (lv_at hl 3 rfl) ?_
                refine lv_iload_n hx hb dX12_alike_39 rfl (lv_at hl 1 rfl) ?_
                refine callV_Ei C S_19 (c_X12_paysOf l D G a0 x2_9 ga0) kV_X12_293 ga0 (trivial) (by decide +kernel) dX12_alike_40 hl.1 rfl rfl (by decide) cd_X12_paysOf ⟨Nat.le_of_ble_eq_true rfl, Nat.le_of_ble_eq_true rfl, Nat.le_of_ble_eq_true rfl, Nat.le_of_ble_eq_true rfl, Nat.le_of_ble_eq_true rfl⟩ (fun v15 H15 L15 S15 K15 q15 => ?_)
                refine lv_aload_n hx hb dX12_alike_43 rfl (lv_at hl 3 rfl) ?_
                refine lv_iload_n hx hb dX12_alike_44 rfl (lv_at hl 0 rfl) ?_
                refine callV_Ei C S15 (c_X12_paysOf l D G a0 x3_19 ga0) kV_X12_293 ga0 (trivial) (by decide +kernel) dX12_alike_45 hl.1 rfl rfl (by decide) cd_X12_paysOf ⟨Nat.le_of_ble_eq_true rfl, Nat.le_of_ble_eq_true rfl, Nat.le_of_ble_eq_true rfl, Nat.le_of_ble_eq_true rfl, Nat.le_of_ble_eq_true rfl⟩ (fun v16 H16 L16 S16 K16 q16 => ?_)
                refine lv_icmp_ne (tgt := 55) hx hb dX12_alike_48 (by decide) (fun c17 => ?_) (fun c17 => ?_)
                · have b17 : ¬ v15.toInt = v16.toInt := fun z9 => c17 (i_eq.mpr z9)
                  refine lv_iconst (v := 0) hx hb dX12_alike_55 (by decide) ?_
                  refine lv_iadd hx hb dX12_alike_56 ?_
                  refine lv_topi (fun v18 ev18 => ?_)
                  refine lv_istore_n (lv' := [(1, .int v18), (3, .int x3_19), (2, .int x2_9), (0, .ref a0)]) hx hb dX12_alike_57 rfl hl (by decide) rfl (fun ls hl => ?_)
                  obtain ⟨v19, ev19⟩ : ∃ y : Int32, y = x3_19 + (1) := ⟨_, rfl⟩
                  have k_1 : (1 : Int32).toInt = 1 := by decide
                  have f20 : v19.toInt = x3_19.toInt + (1) := by rw [ev19]; exact i_addc k_1 (by omega) (by omega)
                  refine lv_iinc (v := v19) (lv' := [(3, .int v19), (1, .int v18), (2, .int x2_9), (0, .ref a0)]) hx hb dX12_alike_58 hl (k := 1) rfl (by rw [ev19]; rfl) (by decide) rfl (fun ls hl => ?_)
                  refine lv_goto (tgt := 19) hx hb dX12_alike_61 (by decide) ?_
                  exact ih19 v19 v18 H16 L16 ls S16 (by omega) (by omega) (lv_sub hl [0, 2, 1, 3] rfl)
                · have b17 : v15.toInt = v16.toInt := i_eq.mp c17
                  refine lv_iconst (v := 1) hx hb dX12_alike_51 (by decide) ?_
                  refine lv_goto (tgt := 56) hx hb dX12_alike_52 (by decide) ?_
                  have k_1 : (1 : Int32).toInt = 1 := by decide
                  refine lv_iadd hx hb dX12_alike_56 ?_
                  refine lv_topi (fun v21 ev21 => ?_)
                  refine lv_istore_n (lv' := [(1, .int v21), (3, .int x3_19), (2, .int x2_9), (0, .ref a0)]) hx hb dX12_alike_57 rfl hl (by decide) rfl (fun ls hl => ?_)
                  obtain ⟨v22, ev22⟩ : ∃ y : Int32, y = x3_19 + (1) := ⟨_, rfl⟩
                  have f23 : v22.toInt = x3_19.toInt + (1) := by rw [ev22]; exact i_addc k_1 (by omega) (by omega)
                  refine lv_iinc (v := v22) (lv' := [(3, .int v22), (1, .int v21), (2, .int x2_9), (0, .ref a0)]) hx hb dX12_alike_58 hl (k := 1) rfl (by rw [ev22]; rfl) (by decide) rfl (fun ls hl => ?_)
                  refine lv_goto (tgt := 19) hx hb dX12_alike_61 (by decide) ?_
                  exact ih19 v22 v21 H16 L16 ls S16 (by omega) (by omega) (lv_sub hl [0, 2, 1, 3] rfl)
        exact Lp19 2147483648 (0 : Int32) x1_9 H_9 L_9 ls S_9 (by omega)  (by omega) (lv_sub hl [0, 1, 2, 3] rfl)
  exact Lp9 2147483648 (0 : Int32) (0 : Int32) H1 L1 ls S1 (by omega)  (by omega) (lv_sub hl [0, 1, 2] rfl)

set_option maxRecDepth 100000 in
set_option maxHeartbeats 4000000 in
theorem c_X12_coldest (l : Launch) (D : DD) (G : Nat → Nat) (a0 : Nat) (ga0 : G a0 = 30) : CE l D G yX12_coldest cX12_coldest 3 (some .int) 6 [.ref a0] (fun _ => True) [(30, 0)] (xI (fun H r H1 => True)) := by
  refine enter (by decide) (Nat.le_of_ble_eq_true rfl) ?_
  intro p e s m args below meth c ls Q hA hQ C hr hO hpre hl
  have hx := C.1
  have hb := C.2.1
  have S : Sd D G [(30, 0)] s.heap s.heap [] := Sd.start hO
  have hl : lv_has ls 3 [(0, .ref a0)] := hl
  refine lv_aload_n hx hb dX12_coldest_0 rfl (lv_at hl 0 rfl) ?_
  refine lv_iconst (v := 0) hx hb dX12_coldest_1 (by decide) ?_
  have k_0 : (0 : Int32).toInt = 0 := by decide
  refine q_put (T := TX12) C S ga0 0 kF_X12_3 dX12_coldest_2 rfl rfl (by decide) (by decide) rfl rfl rfl rfl rfl (vok_a rfl) (by decide +kernel) (fun H1 L1 S1 P1 => ?_)
  refine lv_iconst (v := -1) hx hb dX12_coldest_5 (by decide) ?_
  refine lv_istore_n (lv' := [(1, .int (-1 : Int32)), (0, .ref a0)]) hx hb dX12_coldest_6 rfl hl (by decide) rfl (fun ls hl => ?_)
  refine lv_iconst (v := 0) hx hb dX12_coldest_7 (by decide) ?_
  refine lv_istore_n (lv' := [(2, .int (0 : Int32)), (1, .int (-1 : Int32)), (0, .ref a0)]) hx hb dX12_coldest_8 rfl hl (by decide) rfl (fun ls hl => ?_)
  have Lp9 : ∀ (n : Nat) (x2_9 : Int32) (x1_9 : Int32) (ls : Array Slot), (0 ≤ x2_9.toInt ∧ x2_9.toInt ≤ 2147483647) → 2147483648 - x2_9.toInt ≤ (n : Int) → lv_has ls 3 [(2, .int x2_9), (1, .int x1_9), (0, .ref a0)] → W p l e (rmU 6 0 0) s m args below meth c H1 L1 0 0 Q (F0 m 9 ls []) := by
    intro n
    induction n with
    | zero =>
      intro x2_9 x1_9 ls j9_0 hn hl
      exact absurd hn (by omega)
    | succ n ih9 =>
      intro x2_9 x1_9 ls j9_0 hn hl
      refine lv_iload_n hx hb dX12_coldest_9 rfl (lv_at hl 0 rfl) ?_
      refine lv_aload_n hx hb dX12_coldest_10 rfl (lv_at hl 2 rfl) ?_
      refine callV_Pi C S1.1 S1.2.1.2.1 (c_X12_houses l D G a0 ga0) kV_X12_59 ga0 (trivial) dX12_coldest_11 hl.1 rfl rfl (by decide) cd_X12_houses ⟨Nat.le_of_ble_eq_true rfl, Nat.le_of_ble_eq_true rfl, Nat.le_of_ble_eq_true rfl, Nat.le_of_ble_eq_true rfl, Nat.le_of_ble_eq_true rfl⟩ (fun v2 q2 => ?_)
      have r4 := i_rng x2_9
      refine lv_icmp_ge (tgt := 43) hx hb dX12_coldest_14 (by decide) (fun c3 => ?_) (fun c3 => ?_)
      · have b3 : v2.toInt ≤ x2_9.toInt := i_le.mp c3
        refine lv_iload_n hx hb dX12_coldest_43 rfl (lv_at hl 1 rfl) ?_
        exact retE_i hQ C S1 hr dX12_coldest_44 (trivial)
      · have b3 : ¬ v2.toInt ≤ x2_9.toInt := fun z9 => c3 (i_le.mpr z9)
        refine lv_iload_n hx hb dX12_coldest_17 rfl (lv_at hl 1 rfl) ?_
        refine lv_iconst (v := -1) hx hb dX12_coldest_18 (by decide) ?_
        have k_m1 : (-1 : Int32).toInt = -1 := by decide
        refine lv_icmp_eq (tgt := 35) hx hb dX12_coldest_19 (by decide) (fun c5 => ?_) (fun c5 => ?_)
        · have b5 : x1_9.toInt = (-1 : Int32).toInt := i_eq.mp c5
          refine lv_iload_n hx hb dX12_coldest_35 rfl (lv_at hl 0 rfl) ?_
          refine lv_istore_n (lv' := [(1, .int x2_9), (2, .int x2_9), (0, .ref a0)]) hx hb dX12_coldest_36 rfl hl (by decide) rfl (fun ls hl => ?_)
          obtain ⟨v6, ev6⟩ : ∃ y : Int32, y = x2_9 + (1) := ⟨_, rfl⟩
          have k_1 : (1 : Int32).toInt = 1 := by decide
          have f7 : v6.toInt = x2_9.toInt + (1) := by rw [ev6]; exact i_addc k_1 (by omega) (by omega)
          refine lv_iinc (v := v6) (lv' := [(2, .int v6), (1, .int x2_9), (0, .ref a0)]) hx hb dX12_coldest_37 hl (k := 1) rfl (by rw [ev6]; rfl) (by decide) rfl (fun ls hl => ?_)
          refine lv_goto (tgt := 9) hx hb dX12_coldest_40 (by decide) ?_
          exact ih9 v6 x2_9 ls (by omega) (by omega) (lv_sub hl [0, 1, 2] rfl)
        · have b5 : ¬ x1_9.toInt = (-1 : Int32).toInt := fun z9 => c5 (i_eq.mpr z9)
          refine lv_aload_n hx hb dX12_coldest_22 rfl (lv_at hl 2 rfl) ?_
          refine lv_iload_n hx hb dX12_coldest_23 rfl (lv_at hl 0 rfl) ?_
          refine callV_Pi C S1.1 S1.2.1.2.1 (c_X12_warmthOf l D G a0 x2_9 ga0) kV_X12_305 ga0 (trivial) dX12_coldest_24 hl.1 rfl rfl (by decide) cd_X12_warmthOf ⟨Nat.le_of_ble_eq_true rfl, Nat.le_of_ble_eq_true rfl, Nat.le_of_ble_eq_true rfl, Nat.le_of_ble_eq_true rfl, Nat.le_of_ble_eq_true rfl⟩ (fun v8 q8 => ?_)
          refine lv_aload_n hx hb dX12_coldest_27 rfl (lv_at hl 2 rfl) ?_
          refine lv_iload_n hx hb dX12_coldest_28 rfl (lv_at hl 1 rfl) ?_
          refine callV_Pi C S1.1 S1.2.1.2.1 (c_X12_warmthOf l D G a0 x1_9 ga0) kV_X12_305 ga0 (trivial) dX12_coldest_29 hl.1 rfl rfl (by decide) cd_X12_warmthOf ⟨Nat.le_of_ble_eq_true rfl, Nat.le_of_ble_eq_true rfl, Nat.le_of_ble_eq_true rfl, Nat.le_of_ble_eq_true rfl, Nat.le_of_ble_eq_true rfl⟩ (fun v9 q9 => ?_)
          refine lv_icmp_ge (tgt := 37) hx hb dX12_coldest_32 (by decide) (fun c10 => ?_) (fun c10 => ?_)
          · have b10 : v9.toInt ≤ v8.toInt := i_le.mp c10
            obtain ⟨v11, ev11⟩ : ∃ y : Int32, y = x2_9 + (1) := ⟨_, rfl⟩
            have k_1 : (1 : Int32).toInt = 1 := by decide
            have f12 : v11.toInt = x2_9.toInt + (1) := by rw [ev11]; exact i_addc k_1 (by omega) (by omega)
            refine lv_iinc (v := v11) (lv' := [(2, .int v11), (1, .int x1_9), (0, .ref a0)]) hx hb dX12_coldest_37 hl (k := 0) rfl (by rw [ev11]; rfl) (by decide) rfl (fun ls hl => ?_)
            refine lv_goto (tgt := 9) hx hb dX12_coldest_40 (by decide) ?_
            exact ih9 v11 x1_9 ls (by omega) (by omega) (lv_sub hl [0, 1, 2] rfl)
          · have b10 : ¬ v9.toInt ≤ v8.toInt := fun z9 => c10 (i_le.mpr z9)
            refine lv_iload_n hx hb dX12_coldest_35 rfl (lv_at hl 0 rfl) ?_
            refine lv_istore_n (lv' := [(1, .int x2_9), (2, .int x2_9), (0, .ref a0)]) hx hb dX12_coldest_36 rfl hl (by decide) rfl (fun ls hl => ?_)
            obtain ⟨v13, ev13⟩ : ∃ y : Int32, y = x2_9 + (1) := ⟨_, rfl⟩
            have k_1 : (1 : Int32).toInt = 1 := by decide
            have f14 : v13.toInt = x2_9.toInt + (1) := by rw [ev13]; exact i_addc k_1 (by omega) (by omega)
            refine lv_iinc (v := v13) (lv' := [(2, .int v13), (1, .int x2_9), (0, .ref a0)]) hx hb dX12_coldest_37 hl (k := 1) rfl (by rw [ev13]; rfl) (by decide) rfl (fun ls hl => ?_)
            refine lv_goto (tgt := 9) hx hb dX12_coldest_40 (by decide) ?_
            exact ih9 v13 x2_9 ls (by omega) (by omega) (lv_sub hl [0, 1, 2] rfl)
  have k_m1 : (-1 : Int32).toInt = -1 := by decide
  exact Lp9 2147483648 (0 : Int32) (-1 : Int32) ls (by omega)  (by omega) (lv_sub hl [0, 1, 2] rfl)

set_option maxRecDepth 100000 in
set_option maxHeartbeats 4000000 in
theorem c_X12_crowd (l : Launch) (D : DD) (G : Nat → Nat) (a0 : Nat) (x1 : Int32) (ga0 : G a0 = 30) : CE l D G yX12_crowd cX12_crowd 7 (some .int) 3 [.ref a0, .int x1] (fun _ => True) [(30, 0)] (xI (fun H r H1 => True)) := by
  refine enter (by decide) (Nat.le_of_ble_eq_true rfl) ?_
  intro p e s m args below meth c ls Q hA hQ C hr hO hpre hl
  have hx := C.1
  have hb := C.2.1
  have S : Sd D G [(30, 0)] s.heap s.heap [] := Sd.start hO
  have hl : lv_has ls 7 [(0, .ref a0), (1, .int x1)] := hl
  refine lv_aload_n hx hb dX12_crowd_0 rfl (lv_at hl 0 rfl) ?_
  refine lv_iconst (v := 0) hx hb dX12_crowd_1 (by decide) ?_
  have k_0 : (0 : Int32).toInt = 0 := by decide
  refine q_put (T := TX12) C S ga0 0 kF_X12_3 dX12_crowd_2 rfl rfl (by decide) (by decide) rfl rfl rfl rfl rfl (vok_a rfl) (by decide +kernel) (fun H1 L1 S1 P1 => ?_)
  refine lv_aload_n hx hb dX12_crowd_5 rfl (lv_at hl 0 rfl) ?_
  refine lv_aload_n hx hb dX12_crowd_6 rfl (lv_at hl 0 rfl) ?_
  refine lv_iload_n hx hb dX12_crowd_7 rfl (lv_at hl 1 rfl) ?_
  refine callV_Pi C S1.1 S1.2.1.2.1 (c_X12_noHouse l D G a0 x1 ga0) kV_X12_299 ga0 (trivial) dX12_crowd_8 hl.1 rfl rfl (by decide) cd_X12_noHouse ⟨Nat.le_of_ble_eq_true rfl, Nat.le_of_ble_eq_true rfl, Nat.le_of_ble_eq_true rfl, Nat.le_of_ble_eq_true rfl, Nat.le_of_ble_eq_true rfl⟩ (fun v2 q2 => ?_)
  rcases q2 with q2 | q2
  · skip
    refine lv_iconst (v := 1) hx hb dX12_crowd_11 (by decide) ?_
    have k_1 : (1 : Int32).toInt = 1 := by decide
    refine callV_Ei C S1 (c_X12_throwsIf l D G a0 v2 (1 : Int32) ga0 (by omega)) kV_X12_246 ga0 (trivial) (by decide +kernel) dX12_crowd_12 hl.1 rfl rfl (by decide) cd_X12_throwsIf ⟨Nat.le_of_ble_eq_true rfl, Nat.le_of_ble_eq_true rfl, Nat.le_of_ble_eq_true rfl, Nat.le_of_ble_eq_true rfl, Nat.le_of_ble_eq_true rfl⟩ (fun v3 H3 L3 S3 K3 q3 => ?_)
    refine lv_if_eq (tgt := 20) hx hb dX12_crowd_15 (by decide) (fun c4 => ?_) (fun c4 => ?_)
    · have b4 : v3.toInt = (0 : Int32).toInt := i_eq.mp c4
      refine lv_iconst (v := -1) hx hb dX12_crowd_20 (by decide) ?_
      refine lv_istore_n (lv' := [(2, .int (-1 : Int32)), (0, .ref a0), (1, .int x1)]) hx hb dX12_crowd_21 rfl hl (by decide) rfl (fun ls hl => ?_)
      refine lv_iconst (v := 0) hx hb dX12_crowd_22 (by decide) ?_
      refine lv_istore_n (lv' := [(3, .int (0 : Int32)), (2, .int (-1 : Int32)), (0, .ref a0), (1, .int x1)]) hx hb dX12_crowd_23 rfl hl (by decide) rfl (fun ls hl => ?_)
      refine lv_iconst (v := 0) hx hb dX12_crowd_24 (by decide) ?_
      refine lv_istore (lv' := [(4, .int (0 : Int32)), (3, .int (0 : Int32)), (2, .int (-1 : Int32)), (0, .ref a0), (1, .int x1)]) hx hb dX12_crowd_25 hl (by decide) rfl (fun ls hl => ?_)
      have Lp27 : ∀ (n : Nat) (x4_27 : Int32) (x3_27 : Int32) (x2_27 : Int32) (ls : Array Slot), (0 ≤ x4_27.toInt ∧ x4_27.toInt ≤ 2147483647) → 2147483648 - x4_27.toInt ≤ (n : Int) → lv_has ls 7 [(4, .int x4_27), (3, .int x3_27), (2, .int x2_27), (0, .ref a0), (1, .int x1)] → W p l e (rmU 3 0 0) s m args below meth c H3 L3 0 0 Q (F0 m 27 ls []) := by
        intro n
        induction n with
        | zero =>
          intro x4_27 x3_27 x2_27 ls j27_0 hn hl
          exact absurd hn (by omega)
        | succ n ih27 =>
          intro x4_27 x3_27 x2_27 ls j27_0 hn hl
          refine lv_iload hx hb dX12_crowd_27 (lv_at hl 0 rfl) ?_
          refine lv_bipush (v := 10) hx hb dX12_crowd_29 (by decide) ?_
          have k_10 : (10 : Int32).toInt = 10 := by decide
          refine lv_icmp_ge (tgt := 113) hx hb dX12_crowd_31 (by decide) (fun c5 => ?_) (fun c5 => ?_)
          · have b5 : (10 : Int32).toInt ≤ x4_27.toInt := i_le.mp c5
            refine lv_iload_n hx hb dX12_crowd_113 rfl (lv_at hl 2 rfl) ?_
            exact retE_i hQ C S3 hr dX12_crowd_114 (trivial)
          · have b5 : ¬ (10 : Int32).toInt ≤ x4_27.toInt := fun z9 => c5 (i_le.mpr z9)
            refine lv_iconst (v := 0) hx hb dX12_crowd_34 (by decide) ?_
            refine lv_istore (lv' := [(5, .int (0 : Int32)), (4, .int x4_27), (3, .int x3_27), (2, .int x2_27), (0, .ref a0), (1, .int x1)]) hx hb dX12_crowd_35 hl (by decide) rfl (fun ls hl => ?_)
            refine lv_iconst (v := 0) hx hb dX12_crowd_37 (by decide) ?_
            refine lv_istore (lv' := [(6, .int (0 : Int32)), (5, .int (0 : Int32)), (4, .int x4_27), (3, .int x3_27), (2, .int x2_27), (0, .ref a0), (1, .int x1)]) hx hb dX12_crowd_38 hl (by decide) rfl (fun ls hl => ?_)
            have Lp40 : ∀ (n : Nat) (x6_40 : Int32) (x5_40 : Int32) (ls : Array Slot), (0 ≤ x6_40.toInt ∧ x6_40.toInt ≤ 2147483647) → 2147483648 - x6_40.toInt ≤ (n : Int) → lv_has ls 7 [(6, .int x6_40), (5, .int x5_40), (4, .int x4_27), (3, .int x3_27), (2, .int x2_27), (0, .ref a0), (1, .int x1)] → W p l e (rmU 3 0 0) s m args below meth c H3 L3 0 0 Q (F0 m 40 ls []) := by
              intro n
              induction n with
              | zero =>
                intro x6_40 x5_40 ls j40_0 hn hl
                exact absurd hn (by omega)
              | succ n ih40 =>
                intro x6_40 x5_40 ls j40_0 hn hl
                refine lv_iload hx hb dX12_crowd_40 (lv_at hl 0 rfl) ?_
                refine lv_aload_n hx hb dX12_crowd_42 rfl (lv_at hl 5 rfl) ?_
                refine callV_Pi C S3.1 S3.2.1.2.1 (c_X12_hearths l D G a0 ga0) kV_X12_67 ga0 (trivial) dX12_crowd_43 hl.1 rfl rfl (by decide) cd_X12_hearths ⟨Nat.le_of_ble_eq_true rfl, Nat.le_of_ble_eq_true rfl, Nat.le_of_ble_eq_true rfl, Nat.le_of_ble_eq_true rfl, Nat.le_of_ble_eq_true rfl⟩ (fun v6 q6 => ?_)
                have r8 := i_rng x6_40
                refine lv_icmp_ge (tgt := 87) hx hb dX12_crowd_46 (by decide) (fun c7 => ?_) (fun c7 => ?_)
                · have b7 : v6.toInt ≤ x6_40.toInt := i_le.mp c7
                  refine lv_iload hx hb dX12_crowd_87 (lv_at hl 1 rfl) ?_
                  refine lv_iload_n hx hb dX12_crowd_89 rfl (lv_at hl 3 rfl) ?_
                  refine lv_icmp_le (tgt := 98) hx hb dX12_crowd_90 (by decide) (fun c9 => ?_) (fun c9 => ?_)
                  · have b9 : x5_40.toInt ≤ x3_27.toInt := i_le.mp c9
                    refine lv_iload_n hx hb dX12_crowd_98 rfl (lv_at hl 4 rfl) ?_
                    refine lv_istore_n (lv' := [(2, .int x2_27), (6, .int x6_40), (5, .int x5_40), (4, .int x4_27), (3, .int x3_27), (0, .ref a0), (1, .int x1)]) hx hb dX12_crowd_99 rfl hl (by decide) rfl (fun ls hl => ?_)
                    refine lv_iload_n hx hb dX12_crowd_100 rfl (lv_at hl 4 rfl) ?_
                    refine lv_iload hx hb dX12_crowd_101 (lv_at hl 2 rfl) ?_
                    refine q_max C kN_X12_370 dX12_crowd_103 hl.1 ⟨Nat.le_of_ble_eq_true rfl, Nat.le_of_ble_eq_true rfl, Nat.le_of_ble_eq_true rfl, Nat.le_of_ble_eq_true rfl⟩ (fun v10 fv10 => ?_)
                    refine lv_istore_n (lv' := [(3, .int v10), (2, .int x2_27), (6, .int x6_40), (5, .int x5_40), (4, .int x4_27), (0, .ref a0), (1, .int x1)]) hx hb dX12_crowd_106 rfl hl (by decide) rfl (fun ls hl => ?_)
                    obtain ⟨v11, ev11⟩ : ∃ y : Int32, y = x4_27 + (1) := ⟨_, rfl⟩
                    have f12 : v11.toInt = x4_27.toInt + (1) := by rw [ev11]; exact i_addc k_1 (by omega) (by omega)
                    refine lv_iinc (v := v11) (lv' := [(4, .int v11), (3, .int v10), (2, .int x2_27), (6, .int x6_40), (5, .int x5_40), (0, .ref a0), (1, .int x1)]) hx hb dX12_crowd_107 hl (k := 4) rfl (by rw [ev11]; rfl) (by decide) rfl (fun ls hl => ?_)
                    refine lv_goto (tgt := 27) hx hb dX12_crowd_110 (by decide) ?_
                    exact ih27 v11 v10 x2_27 ls (by omega) (by omega) (lv_sub hl [0, 1, 2, 5, 6] rfl)
                  · have b9 : ¬ x5_40.toInt ≤ x3_27.toInt := fun z9 => c9 (i_le.mpr z9)
                    refine lv_iload hx hb dX12_crowd_93 (lv_at hl 2 rfl) ?_
                    refine lv_goto (tgt := 99) hx hb dX12_crowd_95 (by decide) ?_
                    refine lv_istore_n (lv' := [(2, .int x4_27), (6, .int x6_40), (5, .int x5_40), (4, .int x4_27), (3, .int x3_27), (0, .ref a0), (1, .int x1)]) hx hb dX12_crowd_99 rfl hl (by decide) rfl (fun ls hl => ?_)
                    refine lv_iload_n hx hb dX12_crowd_100 rfl (lv_at hl 4 rfl) ?_
                    refine lv_iload hx hb dX12_crowd_101 (lv_at hl 2 rfl) ?_
                    refine q_max C kN_X12_370 dX12_crowd_103 hl.1 ⟨Nat.le_of_ble_eq_true rfl, Nat.le_of_ble_eq_true rfl, Nat.le_of_ble_eq_true rfl, Nat.le_of_ble_eq_true rfl⟩ (fun v13 fv13 => ?_)
                    refine lv_istore_n (lv' := [(3, .int v13), (2, .int x4_27), (6, .int x6_40), (5, .int x5_40), (4, .int x4_27), (0, .ref a0), (1, .int x1)]) hx hb dX12_crowd_106 rfl hl (by decide) rfl (fun ls hl => ?_)
                    obtain ⟨v14, ev14⟩ : ∃ y : Int32, y = x4_27 + (1) := ⟨_, rfl⟩
                    have f15 : v14.toInt = x4_27.toInt + (1) := by rw [ev14]; exact i_addc k_1 (by omega) (by omega)
                    refine lv_iinc (v := v14) (lv' := [(4, .int v14), (3, .int v13), (2, .int x4_27), (6, .int x6_40), (5, .int x5_40), (0, .ref a0), (1, .int x1)]) hx hb dX12_crowd_107 hl (k := 4) rfl (by rw [ev14]; rfl) (by decide) rfl (fun ls hl => ?_)
                    refine lv_goto (tgt := 27) hx hb dX12_crowd_110 (by decide) ?_
                    exact ih27 v14 v13 x4_27 ls (by omega) (by omega) (lv_sub hl [0, 1, 2, 5, 6] rfl)
                · have b7 : ¬ v6.toInt ≤ x6_40.toInt := fun z9 => c7 (i_le.mpr z9)
                  refine lv_iload hx hb dX12_crowd_49 (lv_at hl 1 rfl) ?_
                  refine lv_aload_n hx hb dX12_crowd_51 rfl (lv_at hl 5 rfl) ?_
                  refine lv_iload hx hb dX12_crowd_52 (lv_at hl 0 rfl) ?_
                  refine lv_iload_n hx hb dX12_crowd_54 rfl (lv_at hl 6 rfl) ?_
                  refine callV_Pi C S3.1 S3.2.1.2.1 (c_X12_isOf l D G a0 x6_40 x1 ga0 (by omega)) kV_X12_70 ga0 (trivial) dX12_crowd_55 hl.1 rfl rfl (by decide) cd_X12_isOf ⟨Nat.le_of_ble_eq_true rfl, Nat.le_of_ble_eq_true rfl, Nat.le_of_ble_eq_true rfl, Nat.le_of_ble_eq_true rfl, Nat.le_of_ble_eq_true rfl⟩ (fun v16 q16 => ?_)
                  refine lv_if_eq (tgt := 77) hx hb dX12_crowd_58 (by decide) (fun c17 => ?_) (fun c17 => ?_)
                  · have b17 : v16.toInt = (0 : Int32).toInt := i_eq.mp c17
                    refine lv_iconst (v := 0) hx hb dX12_crowd_77 (by decide) ?_
                    refine lv_iadd hx hb dX12_crowd_78 ?_
                    refine lv_topi (fun v18 ev18 => ?_)
                    refine lv_istore (lv' := [(5, .int v18), (6, .int x6_40), (4, .int x4_27), (3, .int x3_27), (2, .int x2_27), (0, .ref a0), (1, .int x1)]) hx hb dX12_crowd_79 hl (by decide) rfl (fun ls hl => ?_)
                    obtain ⟨v19, ev19⟩ : ∃ y : Int32, y = x6_40 + (1) := ⟨_, rfl⟩
                    have f20 : v19.toInt = x6_40.toInt + (1) := by rw [ev19]; exact i_addc k_1 (by omega) (by omega)
                    refine lv_iinc (v := v19) (lv' := [(6, .int v19), (5, .int v18), (4, .int x4_27), (3, .int x3_27), (2, .int x2_27), (0, .ref a0), (1, .int x1)]) hx hb dX12_crowd_81 hl (k := 1) rfl (by rw [ev19]; rfl) (by decide) rfl (fun ls hl => ?_)
                    refine lv_goto (tgt := 40) hx hb dX12_crowd_84 (by decide) ?_
                    exact ih40 v19 v18 ls (by omega) (by omega) (lv_sub hl [0, 1, 2, 3, 4, 5, 6] rfl)
                  · have b17 : ¬ v16.toInt = (0 : Int32).toInt := fun z9 => c17 (i_eq.mpr z9)
                    refine lv_aload_n hx hb dX12_crowd_61 rfl (lv_at hl 5 rfl) ?_
                    refine lv_iload hx hb dX12_crowd_62 (lv_at hl 0 rfl) ?_
                    refine lv_iconst (v := 2) hx hb dX12_crowd_64 (by decide) ?_
                    have k_2 : (2 : Int32).toInt = 2 := by decide
                    refine callV_Pi C S3.1 S3.2.1.2.1 (c_X12_ofHearth l D G a0 x6_40 (2 : Int32) ga0 (by omega) (by omega)) kV_X12_56 ga0 (trivial) dX12_crowd_65 hl.1 rfl rfl (by decide) cd_X12_ofHearth ⟨Nat.le_of_ble_eq_true rfl, Nat.le_of_ble_eq_true rfl, Nat.le_of_ble_eq_true rfl, Nat.le_of_ble_eq_true rfl, Nat.le_of_ble_eq_true rfl⟩ (fun v21 q21 => ?_)
                    refine lv_iload hx hb dX12_crowd_68 (lv_at hl 2 rfl) ?_
                    refine lv_icmp_ne (tgt := 77) hx hb dX12_crowd_70 (by decide) (fun c22 => ?_) (fun c22 => ?_)
                    · have b22 : ¬ v21.toInt = x4_27.toInt := fun z9 => c22 (i_eq.mpr z9)
                      refine lv_iconst (v := 0) hx hb dX12_crowd_77 (by decide) ?_
                      refine lv_iadd hx hb dX12_crowd_78 ?_
                      refine lv_topi (fun v23 ev23 => ?_)
                      refine lv_istore (lv' := [(5, .int v23), (6, .int x6_40), (4, .int x4_27), (3, .int x3_27), (2, .int x2_27), (0, .ref a0), (1, .int x1)]) hx hb dX12_crowd_79 hl (by decide) rfl (fun ls hl => ?_)
                      obtain ⟨v24, ev24⟩ : ∃ y : Int32, y = x6_40 + (1) := ⟨_, rfl⟩
                      have f25 : v24.toInt = x6_40.toInt + (1) := by rw [ev24]; exact i_addc k_1 (by omega) (by omega)
                      refine lv_iinc (v := v24) (lv' := [(6, .int v24), (5, .int v23), (4, .int x4_27), (3, .int x3_27), (2, .int x2_27), (0, .ref a0), (1, .int x1)]) hx hb dX12_crowd_81 hl (k := 1) rfl (by rw [ev24]; rfl) (by decide) rfl (fun ls hl => ?_)
                      refine lv_goto (tgt := 40) hx hb dX12_crowd_84 (by decide) ?_
                      exact ih40 v24 v23 ls (by omega) (by omega) (lv_sub hl [0, 1, 2, 3, 4, 5, 6] rfl)
                    · have b22 : v21.toInt = x4_27.toInt := i_eq.mp c22
                      refine lv_iconst (v := 1) hx hb dX12_crowd_73 (by decide) ?_
                      refine lv_goto (tgt := 78) hx hb dX12_crowd_74 (by decide) ?_
                      refine lv_iadd hx hb dX12_crowd_78 ?_
                      refine lv_topi (fun v26 ev26 => ?_)
                      refine lv_istore (lv' := [(5, .int v26), (6, .int x6_40), (4, .int x4_27), (3, .int x3_27), (2, .int x2_27), (0, .ref a0), (1, .int x1)]) hx hb dX12_crowd_79 hl (by decide) rfl (fun ls hl => ?_)
                      obtain ⟨v27, ev27⟩ : ∃ y : Int32, y = x6_40 + (1) := ⟨_, rfl⟩
                      have f28 : v27.toInt = x6_40.toInt + (1) := by rw [ev27]; exact i_addc k_1 (by omega) (by omega)
                      refine lv_iinc (v := v27) (lv' := [(6, .int v27), (5, .int v26), (4, .int x4_27), (3, .int x3_27), (2, .int x2_27), (0, .ref a0), (1, .int x1)]) hx hb dX12_crowd_81 hl (k := 1) rfl (by rw [ev27]; rfl) (by decide) rfl (fun ls hl => ?_)
                      refine lv_goto (tgt := 40) hx hb dX12_crowd_84 (by decide) ?_
                      exact ih40 v27 v26 ls (by omega) (by omega) (lv_sub hl [0, 1, 2, 3, 4, 5, 6] rfl)
            exact Lp40 2147483648 (0 : Int32) (0 : Int32) ls (by omega)  (by omega) (lv_sub hl [0, 1, 2, 3, 4, 5, 6] rfl)
      have k_m1 : (-1 : Int32).toInt = -1 := by decide
      exact Lp27 2147483648 (0 : Int32) (0 : Int32) (-1 : Int32) ls (by omega)  (by omega) (lv_sub hl [0, 1, 2, 3, 4] rfl)
    · have b4 : ¬ v3.toInt = (0 : Int32).toInt := fun z9 => c4 (i_eq.mpr z9)
      exact absurd b4 (by omega)
  · skip
    refine lv_iconst (v := 1) hx hb dX12_crowd_11 (by decide) ?_
    have k_1 : (1 : Int32).toInt = 1 := by decide
    refine callV_Ei C S1 (c_X12_throwsIf l D G a0 v2 (1 : Int32) ga0 (by omega)) kV_X12_246 ga0 (trivial) (by decide +kernel) dX12_crowd_12 hl.1 rfl rfl (by decide) cd_X12_throwsIf ⟨Nat.le_of_ble_eq_true rfl, Nat.le_of_ble_eq_true rfl, Nat.le_of_ble_eq_true rfl, Nat.le_of_ble_eq_true rfl, Nat.le_of_ble_eq_true rfl⟩ (fun v29 H29 L29 S29 K29 q29 => ?_)
    refine lv_if_eq (tgt := 20) hx hb dX12_crowd_15 (by decide) (fun c30 => ?_) (fun c30 => ?_)
    · have b30 : v29.toInt = (0 : Int32).toInt := i_eq.mp c30
      exact absurd b30 (by omega)
    · have b30 : ¬ v29.toInt = (0 : Int32).toInt := fun z9 => c30 (i_eq.mpr z9)
      refine lv_iconst (v := 0) hx hb dX12_crowd_18 (by decide) ?_
      exact retE_i hQ C S29 hr dX12_crowd_19 (trivial)

set_option maxRecDepth 100000 in
set_option maxHeartbeats 4000000 in
theorem c_X12_free (l : Launch) (D : DD) (G : Nat → Nat) (a0 : Nat) (ga0 : G a0 = 30) : CE l D G yX12_free cX12_free 3 (some .int) 9 [.ref a0] (fun _ => True) [(30, 0), (38, 0)] (xI (fun H r H1 => True)) := by
  refine enter (by decide) (Nat.le_of_ble_eq_true rfl) ?_
  intro p e s m args below meth c ls Q hA hQ C hr hO hpre hl
  have hx := C.1
  have hb := C.2.1
  have S : Sd D G [(30, 0), (38, 0)] s.heap s.heap [] := Sd.start hO
  have hl : lv_has ls 3 [(0, .ref a0)] := hl
  refine lv_aload_n hx hb dX12_free_0 rfl (lv_at hl 0 rfl) ?_
  refine lv_iconst (v := 0) hx hb dX12_free_1 (by decide) ?_
  have k_0 : (0 : Int32).toInt = 0 := by decide
  refine q_put (T := TX12) C S ga0 0 kF_X12_3 dX12_free_2 rfl rfl (by decide) (by decide) rfl rfl rfl rfl rfl (vok_a rfl) (by decide +kernel) (fun H1 L1 S1 P1 => ?_)
  refine lv_iconst (v := 0) hx hb dX12_free_5 (by decide) ?_
  refine lv_istore_n (lv' := [(1, .int (0 : Int32)), (0, .ref a0)]) hx hb dX12_free_6 rfl hl (by decide) rfl (fun ls hl => ?_)
  refine lv_iconst (v := 0) hx hb dX12_free_7 (by decide) ?_
  refine lv_istore_n (lv' := [(2, .int (0 : Int32)), (1, .int (0 : Int32)), (0, .ref a0)]) hx hb dX12_free_8 rfl hl (by decide) rfl (fun ls hl => ?_)
  have Lp9 : ∀ (n : Nat) (x2_9 : Int32) (x1_9 : Int32) (H_9 : Heap) (L_9 : List Loc) (ls : Array Slot), (Sd D G [(30, 0), (38, 0)] s.heap H_9 L_9) → (0 ≤ x2_9.toInt ∧ x2_9.toInt ≤ 2147483647) → 2147483648 - x2_9.toInt ≤ (n : Int) → lv_has ls 3 [(2, .int x2_9), (1, .int x1_9), (0, .ref a0)] → W p l e (rmU 9 0 0) s m args below meth c H_9 L_9 0 0 Q (F0 m 9 ls []) := by
    intro n
    induction n with
    | zero =>
      intro x2_9 x1_9 H_9 L_9 ls S_9 j9_0 hn hl
      exact absurd hn (by omega)
    | succ n ih9 =>
      intro x2_9 x1_9 H_9 L_9 ls S_9 j9_0 hn hl
      refine lv_iload_n hx hb dX12_free_9 rfl (lv_at hl 0 rfl) ?_
      refine lv_aload_n hx hb dX12_free_10 rfl (lv_at hl 2 rfl) ?_
      refine callV_Pi C S_9.1 S_9.2.1.2.1 (c_X12_hearths l D G a0 ga0) kV_X12_67 ga0 (trivial) dX12_free_11 hl.1 rfl rfl (by decide) cd_X12_hearths ⟨Nat.le_of_ble_eq_true rfl, Nat.le_of_ble_eq_true rfl, Nat.le_of_ble_eq_true rfl, Nat.le_of_ble_eq_true rfl, Nat.le_of_ble_eq_true rfl⟩ (fun v2 q2 => ?_)
      have r4 := i_rng x2_9
      refine lv_icmp_ge (tgt := 49) hx hb dX12_free_14 (by decide) (fun c3 => ?_) (fun c3 => ?_)
      · have b3 : v2.toInt ≤ x2_9.toInt := i_le.mp c3
        refine lv_iload_n hx hb dX12_free_49 rfl (lv_at hl 1 rfl) ?_
        exact retE_i hQ C S_9 hr dX12_free_50 (trivial)
      · have b3 : ¬ v2.toInt ≤ x2_9.toInt := fun z9 => c3 (i_le.mpr z9)
        refine lv_iload_n hx hb dX12_free_17 rfl (lv_at hl 1 rfl) ?_
        refine lv_aload_n hx hb dX12_free_18 rfl (lv_at hl 2 rfl) ?_
        refine lv_iload_n hx hb dX12_free_19 rfl (lv_at hl 0 rfl) ?_
        refine callV_Pi C S_9.1 S_9.2.1.2.1 (c_X12_isWalled l D G a0 x2_9 ga0 (by omega)) kV_X12_264 ga0 (trivial) dX12_free_20 hl.1 rfl rfl (by decide) cd_X12_isWalled ⟨Nat.le_of_ble_eq_true rfl, Nat.le_of_ble_eq_true rfl, Nat.le_of_ble_eq_true rfl, Nat.le_of_ble_eq_true rfl, Nat.le_of_ble_eq_true rfl⟩ (fun v5 q5 => ?_)
        refine lv_if_ne (tgt := 40) hx hb dX12_free_23 (by decide) (fun c6 => ?_) (fun c6 => ?_)
        · have b6 : ¬ v5.toInt = (0 : Int32).toInt := fun z9 => c6 (i_eq.mpr z9)
          refine lv_iconst (v := 0) hx hb dX12_free_40 (by decide) ?_
          refine lv_ior hx hb dX12_free_41 ?_
          refine lv_topi (fun v7 ev7 => ?_)
          refine lv_istore_n (lv' := [(1, .int v7), (2, .int x2_9), (0, .ref a0)]) hx hb dX12_free_42 rfl hl (by decide) rfl (fun ls hl => ?_)
          obtain ⟨v8, ev8⟩ : ∃ y : Int32, y = x2_9 + (1) := ⟨_, rfl⟩
          have k_1 : (1 : Int32).toInt = 1 := by decide
          have f9 : v8.toInt = x2_9.toInt + (1) := by rw [ev8]; exact i_addc k_1 (by omega) (by omega)
          refine lv_iinc (v := v8) (lv' := [(2, .int v8), (1, .int v7), (0, .ref a0)]) hx hb dX12_free_43 hl (k := 1) rfl (by rw [ev8]; rfl) (by decide) rfl (fun ls hl => ?_)
          refine lv_goto (tgt := 9) hx hb dX12_free_46 (by decide) ?_
          exact ih9 v8 v7 H_9 L_9 ls S_9 (by omega) (by omega) (lv_sub hl [0, 1, 2] rfl)
        · have b6 : v5.toInt = (0 : Int32).toInt := i_eq.mp c6
          refine lv_aload_n hx hb dX12_free_26 rfl (lv_at hl 2 rfl) ?_
          refine lv_iload_n hx hb dX12_free_27 rfl (lv_at hl 0 rfl) ?_
          refine callV_Ei C S_9 (c_X12_taxOf l D G a0 x2_9 ga0 (by omega)) kV_X12_278 ga0 (trivial) (by decide +kernel) dX12_free_28 hl.1 rfl rfl (by decide) cd_X12_taxOf ⟨Nat.le_of_ble_eq_true rfl, Nat.le_of_ble_eq_true rfl, Nat.le_of_ble_eq_true rfl, Nat.le_of_ble_eq_true rfl, Nat.le_of_ble_eq_true rfl⟩ (fun v10 H10 L10 S10 K10 q10 => ?_)
          refine lv_if_ne (tgt := 40) hx hb dX12_free_31 (by decide) (fun c11 => ?_) (fun c11 => ?_)
          · have b11 : ¬ v10.toInt = (0 : Int32).toInt := fun z9 => c11 (i_eq.mpr z9)
            refine lv_iconst (v := 0) hx hb dX12_free_40 (by decide) ?_
            refine lv_ior hx hb dX12_free_41 ?_
            refine lv_topi (fun v12 ev12 => ?_)
            refine lv_istore_n (lv' := [(1, .int v12), (2, .int x2_9), (0, .ref a0)]) hx hb dX12_free_42 rfl hl (by decide) rfl (fun ls hl => ?_)
            obtain ⟨v13, ev13⟩ : ∃ y : Int32, y = x2_9 + (1) := ⟨_, rfl⟩
            have k_1 : (1 : Int32).toInt = 1 := by decide
            have f14 : v13.toInt = x2_9.toInt + (1) := by rw [ev13]; exact i_addc k_1 (by omega) (by omega)
            refine lv_iinc (v := v13) (lv' := [(2, .int v13), (1, .int v12), (0, .ref a0)]) hx hb dX12_free_43 hl (k := 1) rfl (by rw [ev13]; rfl) (by decide) rfl (fun ls hl => ?_)
            refine lv_goto (tgt := 9) hx hb dX12_free_46 (by decide) ?_
            exact ih9 v13 v12 H10 L10 ls S10 (by omega) (by omega) (lv_sub hl [0, 1, 2] rfl)
          · have b11 : v10.toInt = (0 : Int32).toInt := i_eq.mp c11
            refine lv_iconst (v := 1) hx hb dX12_free_34 (by decide) ?_
            refine lv_iload_n hx hb dX12_free_35 rfl (lv_at hl 0 rfl) ?_
            have k_1 : (1 : Int32).toInt = 1 := by decide
            refine lv_ishl hx hb dX12_free_36 ?_
            refine lv_topi (fun v15 ev15 => ?_)
            have f16 : 1 ≤ v15.toInt ∧ v15.toInt ≤ 2048 := by rw [ev15]; exact i_shl1 11 (by omega) (by omega) (by decide)
            refine lv_goto (tgt := 41) hx hb dX12_free_37 (by decide) ?_
            refine lv_ior hx hb dX12_free_41 ?_
            refine lv_topi (fun v17 ev17 => ?_)
            refine lv_istore_n (lv' := [(1, .int v17), (2, .int x2_9), (0, .ref a0)]) hx hb dX12_free_42 rfl hl (by decide) rfl (fun ls hl => ?_)
            obtain ⟨v18, ev18⟩ : ∃ y : Int32, y = x2_9 + (1) := ⟨_, rfl⟩
            have f19 : v18.toInt = x2_9.toInt + (1) := by rw [ev18]; exact i_addc k_1 (by omega) (by omega)
            refine lv_iinc (v := v18) (lv' := [(2, .int v18), (1, .int v17), (0, .ref a0)]) hx hb dX12_free_43 hl (k := 1) rfl (by rw [ev18]; rfl) (by decide) rfl (fun ls hl => ?_)
            refine lv_goto (tgt := 9) hx hb dX12_free_46 (by decide) ?_
            exact ih9 v18 v17 H10 L10 ls S10 (by omega) (by omega) (lv_sub hl [0, 1, 2] rfl)
  exact Lp9 2147483648 (0 : Int32) (0 : Int32) H1 L1 ls S1 (by omega)  (by omega) (lv_sub hl [0, 1, 2] rfl)

set_option maxRecDepth 100000 in
set_option maxHeartbeats 4000000 in
theorem c_X12_hidden (l : Launch) (D : DD) (G : Nat → Nat) (a0 : Nat) (ga0 : G a0 = 30) : CE l D G yX12_hidden cX12_hidden 1 (some .int) 3 [.ref a0] (fun _ => True) [(30, 0)] (xI (fun H r H1 => True)) := by
  refine enter (by decide) (Nat.le_of_ble_eq_true rfl) ?_
  intro p e s m args below meth c ls Q hA hQ C hr hO hpre hl
  have hx := C.1
  have hb := C.2.1
  have S : Sd D G [(30, 0)] s.heap s.heap [] := Sd.start hO
  have hl : lv_has ls 1 [(0, .ref a0)] := hl
  refine lv_aload_n hx hb dX12_hidden_0 rfl (lv_at hl 0 rfl) ?_
  refine lv_iconst (v := 0) hx hb dX12_hidden_1 (by decide) ?_
  have k_0 : (0 : Int32).toInt = 0 := by decide
  refine q_put (T := TX12) C S ga0 0 kF_X12_3 dX12_hidden_2 rfl rfl (by decide) (by decide) rfl rfl rfl rfl rfl (vok_a rfl) (by decide +kernel) (fun H1 L1 S1 P1 => ?_)
  refine lv_aload_n hx hb dX12_hidden_5 rfl (lv_at hl 0 rfl) ?_
  refine lv_iconst (v := 2) hx hb dX12_hidden_6 (by decide) ?_
  have k_2 : (2 : Int32).toInt = 2 := by decide
  refine callV_Pi C S1.1 S1.2.1.2.1 (c_X12_ofState l D G a0 (2 : Int32) ga0) kV_X12_249 ga0 (trivial) dX12_hidden_7 hl.1 rfl rfl (by decide) cd_X12_ofState ⟨Nat.le_of_ble_eq_true rfl, Nat.le_of_ble_eq_true rfl, Nat.le_of_ble_eq_true rfl, Nat.le_of_ble_eq_true rfl, Nat.le_of_ble_eq_true rfl⟩ (fun v2 q2 => ?_)
  exact retE_i hQ C S1 hr dX12_hidden_10 (trivial)

set_option maxRecDepth 100000 in
set_option maxHeartbeats 4000000 in
theorem c_X12_cheapest (l : Launch) (D : DD) (G : Nat → Nat) (a0 : Nat) (ga0 : G a0 = 30) : CE l D G yX12_cheapest cX12_cheapest 3 (some .int) 9 [.ref a0] (fun _ => True) [(30, 0), (38, 0)] (xI (fun H r H1 => True)) := by
  refine enter (by decide) (Nat.le_of_ble_eq_true rfl) ?_
  intro p e s m args below meth c ls Q hA hQ C hr hO hpre hl
  have hx := C.1
  have hb := C.2.1
  have S : Sd D G [(30, 0), (38, 0)] s.heap s.heap [] := Sd.start hO
  have hl : lv_has ls 3 [(0, .ref a0)] := hl
  refine lv_aload_n hx hb dX12_cheapest_0 rfl (lv_at hl 0 rfl) ?_
  refine lv_iconst (v := 0) hx hb dX12_cheapest_1 (by decide) ?_
  have k_0 : (0 : Int32).toInt = 0 := by decide
  refine q_put (T := TX12) C S ga0 0 kF_X12_3 dX12_cheapest_2 rfl rfl (by decide) (by decide) rfl rfl rfl rfl rfl (vok_a rfl) (by decide +kernel) (fun H1 L1 S1 P1 => ?_)
  refine lv_iconst (v := -1) hx hb dX12_cheapest_5 (by decide) ?_
  refine lv_istore_n (lv' := [(1, .int (-1 : Int32)), (0, .ref a0)]) hx hb dX12_cheapest_6 rfl hl (by decide) rfl (fun ls hl => ?_)
  refine lv_iconst (v := 0) hx hb dX12_cheapest_7 (by decide) ?_
  refine lv_istore_n (lv' := [(2, .int (0 : Int32)), (1, .int (-1 : Int32)), (0, .ref a0)]) hx hb dX12_cheapest_8 rfl hl (by decide) rfl (fun ls hl => ?_)
  have Lp9 : ∀ (n : Nat) (x2_9 : Int32) (x1_9 : Int32) (H_9 : Heap) (L_9 : List Loc) (ls : Array Slot), (Sd D G [(30, 0), (38, 0)] s.heap H_9 L_9) → (0 ≤ x2_9.toInt ∧ x2_9.toInt ≤ 2147483647) → (-1 ≤ x1_9.toInt ∧ x1_9.toInt ≤ 11) → 2147483648 - x2_9.toInt ≤ (n : Int) → lv_has ls 3 [(2, .int x2_9), (1, .int x1_9), (0, .ref a0)] → W p l e (rmU 9 0 0) s m args below meth c H_9 L_9 0 0 Q (F0 m 9 ls []) := by
    intro n
    induction n with
    | zero =>
      intro x2_9 x1_9 H_9 L_9 ls S_9 j9_0 j9_1 hn hl
      exact absurd hn (by omega)
    | succ n ih9 =>
      intro x2_9 x1_9 H_9 L_9 ls S_9 j9_0 j9_1 hn hl
      refine lv_iload_n hx hb dX12_cheapest_9 rfl (lv_at hl 0 rfl) ?_
      refine lv_aload_n hx hb dX12_cheapest_10 rfl (lv_at hl 2 rfl) ?_
      refine callV_Pi C S_9.1 S_9.2.1.2.1 (c_X12_hearths l D G a0 ga0) kV_X12_67 ga0 (trivial) dX12_cheapest_11 hl.1 rfl rfl (by decide) cd_X12_hearths ⟨Nat.le_of_ble_eq_true rfl, Nat.le_of_ble_eq_true rfl, Nat.le_of_ble_eq_true rfl, Nat.le_of_ble_eq_true rfl, Nat.le_of_ble_eq_true rfl⟩ (fun v2 q2 => ?_)
      have r4 := i_rng x2_9
      refine lv_icmp_ge (tgt := 76) hx hb dX12_cheapest_14 (by decide) (fun c3 => ?_) (fun c3 => ?_)
      · have b3 : v2.toInt ≤ x2_9.toInt := i_le.mp c3
        refine lv_iload_n hx hb dX12_cheapest_76 rfl (lv_at hl 1 rfl) ?_
        exact retE_i hQ C S_9 hr dX12_cheapest_77 (trivial)
      · have b3 : ¬ v2.toInt ≤ x2_9.toInt := fun z9 => c3 (i_le.mpr z9)
        refine lv_aload_n hx hb dX12_cheapest_17 rfl (lv_at hl 2 rfl) ?_
        refine lv_iload_n hx hb dX12_cheapest_18 rfl (lv_at hl 0 rfl) ?_
        refine callV_Pi C S_9.1 S_9.2.1.2.1 (c_X12_isWalled l D G a0 x2_9 ga0 (by omega)) kV_X12_264 ga0 (trivial) dX12_cheapest_19 hl.1 rfl rfl (by decide) cd_X12_isWalled ⟨Nat.le_of_ble_eq_true rfl, Nat.le_of_ble_eq_true rfl, Nat.le_of_ble_eq_true rfl, Nat.le_of_ble_eq_true rfl, Nat.le_of_ble_eq_true rfl⟩ (fun v5 q5 => ?_)
        refine lv_if_ne (tgt := 70) hx hb dX12_cheapest_22 (by decide) (fun c6 => ?_) (fun c6 => ?_)
        · have b6 : ¬ v5.toInt = (0 : Int32).toInt := fun z9 => c6 (i_eq.mpr z9)
          obtain ⟨v7, ev7⟩ : ∃ y : Int32, y = x2_9 + (1) := ⟨_, rfl⟩
          have k_1 : (1 : Int32).toInt = 1 := by decide
          have f8 : v7.toInt = x2_9.toInt + (1) := by rw [ev7]; exact i_addc k_1 (by omega) (by omega)
          refine lv_iinc (v := v7) (lv' := [(2, .int v7), (1, .int x1_9), (0, .ref a0)]) hx hb dX12_cheapest_70 hl (k := 0) rfl (by rw [ev7]; rfl) (by decide) rfl (fun ls hl => ?_)
          refine lv_goto (tgt := 9) hx hb dX12_cheapest_73 (by decide) ?_
          exact ih9 v7 x1_9 H_9 L_9 ls S_9 (by omega) (by omega) (by omega) (lv_sub hl [0, 1, 2] rfl)
        · have b6 : v5.toInt = (0 : Int32).toInt := i_eq.mp c6
          refine lv_aload_n hx hb dX12_cheapest_25 rfl (lv_at hl 2 rfl) ?_
          refine lv_iload_n hx hb dX12_cheapest_26 rfl (lv_at hl 0 rfl) ?_
          refine callV_Ei C S_9 (c_X12_taxOf l D G a0 x2_9 ga0 (by omega)) kV_X12_278 ga0 (trivial) (by decide +kernel) dX12_cheapest_27 hl.1 rfl rfl (by decide) cd_X12_taxOf ⟨Nat.le_of_ble_eq_true rfl, Nat.le_of_ble_eq_true rfl, Nat.le_of_ble_eq_true rfl, Nat.le_of_ble_eq_true rfl, Nat.le_of_ble_eq_true rfl⟩ (fun v9 H9 L9 S9 K9 q9 => ?_)
          refine lv_if_ne (tgt := 36) hx hb dX12_cheapest_30 (by decide) (fun c10 => ?_) (fun c10 => ?_)
          · have b10 : ¬ v9.toInt = (0 : Int32).toInt := fun z9 => c10 (i_eq.mpr z9)
            refine lv_iload_n hx hb dX12_cheapest_36 rfl (lv_at hl 1 rfl) ?_
            refine lv_iconst (v := -1) hx hb dX12_cheapest_37 (by decide) ?_
            have k_m1 : (-1 : Int32).toInt = -1 := by decide
            refine lv_icmp_eq (tgt := 68) hx hb dX12_cheapest_38 (by decide) (fun c11 => ?_) (fun c11 => ?_)
            · have b11 : x1_9.toInt = (-1 : Int32).toInt := i_eq.mp c11
              refine lv_iload_n hx hb dX12_cheapest_68 rfl (lv_at hl 0 rfl) ?_
              refine lv_istore_n (lv' := [(1, .int x2_9), (2, .int x2_9), (0, .ref a0)]) hx hb dX12_cheapest_69 rfl hl (by decide) rfl (fun ls hl => ?_)
              obtain ⟨v12, ev12⟩ : ∃ y : Int32, y = x2_9 + (1) := ⟨_, rfl⟩
              have k_1 : (1 : Int32).toInt = 1 := by decide
              have f13 : v12.toInt = x2_9.toInt + (1) := by rw [ev12]; exact i_addc k_1 (by omega) (by omega)
              refine lv_iinc (v := v12) (lv' := [(2, .int v12), (1, .int x2_9), (0, .ref a0)]) hx hb dX12_cheapest_70 hl (k := 1) rfl (by rw [ev12]; rfl) (by decide) rfl (fun ls hl => ?_)
              refine lv_goto (tgt := 9) hx hb dX12_cheapest_73 (by decide) ?_
              exact ih9 v12 x2_9 H9 L9 ls S9 (by omega) (by omega) (by omega) (lv_sub hl [0, 1, 2] rfl)
            · have b11 : ¬ x1_9.toInt = (-1 : Int32).toInt := fun z9 => c11 (i_eq.mpr z9)
              refine lv_aload_n hx hb dX12_cheapest_41 rfl (lv_at hl 2 rfl) ?_
              refine lv_iload_n hx hb dX12_cheapest_42 rfl (lv_at hl 0 rfl) ?_
              refine lv_iconst (v := 4) hx hb dX12_cheapest_43 (by decide) ?_
              have k_4 : (4 : Int32).toInt = 4 := by decide
              refine callV_Pi C S9.1 S9.2.1.2.1 (c_X12_ofHearth l D G a0 x2_9 (4 : Int32) ga0 (by omega) (by omega)) kV_X12_56 ga0 (trivial) dX12_cheapest_44 hl.1 rfl rfl (by decide) cd_X12_ofHearth ⟨Nat.le_of_ble_eq_true rfl, Nat.le_of_ble_eq_true rfl, Nat.le_of_ble_eq_true rfl, Nat.le_of_ble_eq_true rfl, Nat.le_of_ble_eq_true rfl⟩ (fun v14 q14 => ?_)
              refine lv_aload_n hx hb dX12_cheapest_47 rfl (lv_at hl 2 rfl) ?_
              refine lv_iload_n hx hb dX12_cheapest_48 rfl (lv_at hl 1 rfl) ?_
              refine callV_Ei C S9 (c_X12_taxOf l D G a0 x1_9 ga0 (by omega)) kV_X12_278 ga0 (trivial) (by decide +kernel) dX12_cheapest_49 hl.1 rfl rfl (by decide) cd_X12_taxOf ⟨Nat.le_of_ble_eq_true rfl, Nat.le_of_ble_eq_true rfl, Nat.le_of_ble_eq_true rfl, Nat.le_of_ble_eq_true rfl, Nat.le_of_ble_eq_true rfl⟩ (fun v15 H15 L15 S15 K15 q15 => ?_)
              refine lv_imul hx hb dX12_cheapest_52 ?_
              refine lv_topi (fun v16 ev16 => ?_)
              refine lv_aload_n hx hb dX12_cheapest_53 rfl (lv_at hl 2 rfl) ?_
              refine lv_iload_n hx hb dX12_cheapest_54 rfl (lv_at hl 1 rfl) ?_
              refine lv_iconst (v := 4) hx hb dX12_cheapest_55 (by decide) ?_
              refine callV_Pi C S15.1 S15.2.1.2.1 (c_X12_ofHearth l D G a0 x1_9 (4 : Int32) ga0 (by omega) (by omega)) kV_X12_56 ga0 (trivial) dX12_cheapest_56 hl.1 rfl rfl (by decide) cd_X12_ofHearth ⟨Nat.le_of_ble_eq_true rfl, Nat.le_of_ble_eq_true rfl, Nat.le_of_ble_eq_true rfl, Nat.le_of_ble_eq_true rfl, Nat.le_of_ble_eq_true rfl⟩ (fun v17 q17 => ?_)
              refine lv_aload_n hx hb dX12_cheapest_59 rfl (lv_at hl 2 rfl) ?_
              refine lv_iload_n hx hb dX12_cheapest_60 rfl (lv_at hl 0 rfl) ?_
              refine callV_Ei C S15 (c_X12_taxOf l D G a0 x2_9 ga0 (by omega)) kV_X12_278 ga0 (trivial) (by decide +kernel) dX12_cheapest_61 hl.1 rfl rfl (by decide) cd_X12_taxOf ⟨Nat.le_of_ble_eq_true rfl, Nat.le_of_ble_eq_true rfl, Nat.le_of_ble_eq_true rfl, Nat.le_of_ble_eq_true rfl, Nat.le_of_ble_eq_true rfl⟩ (fun v18 H18 L18 S18 K18 q18 => ?_)
              refine lv_imul hx hb dX12_cheapest_64 ?_
              refine lv_topi (fun v19 ev19 => ?_)
              refine lv_icmp_ge (tgt := 70) hx hb dX12_cheapest_65 (by decide) (fun c20 => ?_) (fun c20 => ?_)
              · have b20 : v19.toInt ≤ v16.toInt := i_le.mp c20
                obtain ⟨v21, ev21⟩ : ∃ y : Int32, y = x2_9 + (1) := ⟨_, rfl⟩
                have k_1 : (1 : Int32).toInt = 1 := by decide
                have f22 : v21.toInt = x2_9.toInt + (1) := by rw [ev21]; exact i_addc k_1 (by omega) (by omega)
                refine lv_iinc (v := v21) (lv' := [(2, .int v21), (1, .int x1_9), (0, .ref a0)]) hx hb dX12_cheapest_70 hl (k := 0) rfl (by rw [ev21]; rfl) (by decide) rfl (fun ls hl => ?_)
                refine lv_goto (tgt := 9) hx hb dX12_cheapest_73 (by decide) ?_
                exact ih9 v21 x1_9 H18 L18 ls S18 (by omega) (by omega) (by omega) (lv_sub hl [0, 1, 2] rfl)
              · have b20 : ¬ v19.toInt ≤ v16.toInt := fun z9 => c20 (i_le.mpr z9)
                refine lv_iload_n hx hb dX12_cheapest_68 rfl (lv_at hl 0 rfl) ?_
                refine lv_istore_n (lv' := [(1, .int x2_9), (2, .int x2_9), (0, .ref a0)]) hx hb dX12_cheapest_69 rfl hl (by decide) rfl (fun ls hl => ?_)
                obtain ⟨v23, ev23⟩ : ∃ y : Int32, y = x2_9 + (1) := ⟨_, rfl⟩
                have k_1 : (1 : Int32).toInt = 1 := by decide
                have f24 : v23.toInt = x2_9.toInt + (1) := by rw [ev23]; exact i_addc k_1 (by omega) (by omega)
                refine lv_iinc (v := v23) (lv' := [(2, .int v23), (1, .int x2_9), (0, .ref a0)]) hx hb dX12_cheapest_70 hl (k := 1) rfl (by rw [ev23]; rfl) (by decide) rfl (fun ls hl => ?_)
                refine lv_goto (tgt := 9) hx hb dX12_cheapest_73 (by decide) ?_
                exact ih9 v23 x2_9 H18 L18 ls S18 (by omega) (by omega) (by omega) (lv_sub hl [0, 1, 2] rfl)
          · have b10 : v9.toInt = (0 : Int32).toInt := i_eq.mp c10
            refine lv_goto (tgt := 70) hx hb dX12_cheapest_33 (by decide) ?_
            obtain ⟨v25, ev25⟩ : ∃ y : Int32, y = x2_9 + (1) := ⟨_, rfl⟩
            have k_1 : (1 : Int32).toInt = 1 := by decide
            have f26 : v25.toInt = x2_9.toInt + (1) := by rw [ev25]; exact i_addc k_1 (by omega) (by omega)
            refine lv_iinc (v := v25) (lv' := [(2, .int v25), (1, .int x1_9), (0, .ref a0)]) hx hb dX12_cheapest_70 hl (k := 0) rfl (by rw [ev25]; rfl) (by decide) rfl (fun ls hl => ?_)
            refine lv_goto (tgt := 9) hx hb dX12_cheapest_73 (by decide) ?_
            exact ih9 v25 x1_9 H9 L9 ls S9 (by omega) (by omega) (by omega) (lv_sub hl [0, 1, 2] rfl)
  have k_m1 : (-1 : Int32).toInt = -1 := by decide
  exact Lp9 2147483648 (0 : Int32) (-1 : Int32) H1 L1 ls S1 (by omega) (by omega)  (by omega) (lv_sub hl [0, 1, 2] rfl)

set_option maxRecDepth 100000 in
set_option maxHeartbeats 4000000 in
theorem c_X12_trial (l : Launch) (D : DD) (G : Nat → Nat) (a0 : Nat) (x1 : Int32) (x2 : Int32) (ga0 : G a0 = 30) (ix2 : 0 ≤ x2.toInt ∧ x2.toInt ≤ 1) : CE l D G yX12_trial cX12_trial 4 (some .int) 13 [.ref a0, .int x1, .int x2] (fun _ => True) [(30, 0), (31, 0), (38, 0), (34, 0), (31, 1)] (xI (fun H r H1 => (True) ∧ (∀ Vv Kv : Sg, MI D H a0 Vv Kv → MI D H1 a0 Vv Kv))) := by
  refine enter (by decide) (Nat.le_of_ble_eq_true rfl) ?_
  intro p e s m args below meth c ls Q hA hQ C hr hO hpre hl
  have hx := C.1
  have hb := C.2.1
  have S : Sd D G [(30, 0), (31, 0), (38, 0), (34, 0), (31, 1)] s.heap s.heap [] := Sd.start hO
  have hl : lv_has ls 4 [(0, .ref a0), (1, .int x1), (2, .int x2)] := hl
  have rk0 : ∀ Vv Kv : Sg, MI D s.heap a0 Vv Kv → MI D s.heap a0 Vv Kv := fun Vv Kv hv => hv
  refine lv_aload_n hx hb dX12_trial_0 rfl (lv_at hl 0 rfl) ?_
  refine lv_iconst (v := 0) hx hb dX12_trial_1 (by decide) ?_
  have k_0 : (0 : Int32).toInt = 0 := by decide
  refine q_put (T := TX12) C S ga0 0 kF_X12_3 dX12_trial_2 rfl rfl (by decide) (by decide) rfl rfl rfl rfl rfl (vok_a rfl) (by decide +kernel) (fun H1 L1 S1 P1 => ?_)
  have rk1 : ∀ Vv Kv : Sg, MI D s.heap a0 Vv Kv → MI D H1 a0 Vv Kv := fun Vv Kv hv => (rk0 Vv Kv hv).keep S.1 ga0 (Pt.keep ga0 rfl (by decide) P1) (by decide)
  refine lv_aload_n hx hb dX12_trial_5 rfl (lv_at hl 0 rfl) ?_
  refine lv_iload_n hx hb dX12_trial_6 rfl (lv_at hl 1 rfl) ?_
  refine callS_Pi C S1.1 S1.2.1.2.1 (c_X12_noAhead l D G x1) kS_X12_348 (trivial) dX12_trial_7 hl.1 cd_X12_noAhead ⟨Nat.le_of_ble_eq_true rfl, Nat.le_of_ble_eq_true rfl, Nat.le_of_ble_eq_true rfl, Nat.le_of_ble_eq_true rfl, Nat.le_of_ble_eq_true rfl⟩ (fun v2 q2 => ?_)
  rcases q2 with q2 | q2
  · skip
    refine lv_iconst (v := 1) hx hb dX12_trial_10 (by decide) ?_
    have k_1 : (1 : Int32).toInt = 1 := by decide
    refine callV_Ei C S1 (c_X12_throwsIf l D G a0 v2 (1 : Int32) ga0 (by omega)) kV_X12_246 ga0 (trivial) (by decide +kernel) dX12_trial_11 hl.1 rfl rfl (by decide) cd_X12_throwsIf ⟨Nat.le_of_ble_eq_true rfl, Nat.le_of_ble_eq_true rfl, Nat.le_of_ble_eq_true rfl, Nat.le_of_ble_eq_true rfl, Nat.le_of_ble_eq_true rfl⟩ (fun v3 H3 L3 S3 K3 q3 => ?_)
    have rk3 : ∀ Vv Kv : Sg, MI D s.heap a0 Vv Kv → MI D H3 a0 Vv Kv := fun Vv Kv hv => (rk1 Vv Kv hv).keep S1.1 ga0 K3 (by decide +kernel)
    refine lv_if_eq (tgt := 19) hx hb dX12_trial_14 (by decide) (fun c4 => ?_) (fun c4 => ?_)
    · have b4 : v3.toInt = (0 : Int32).toInt := i_eq.mp c4
      refine lv_aload_n hx hb dX12_trial_19 rfl (lv_at hl 0 rfl) ?_
      refine callV_Ev C S3 (c_X12_keepsAll l D G a0 ga0) kV_X12_351 ga0 (trivial) (by decide +kernel) dX12_trial_20 hl.1 rfl rfl (by decide) cd_X12_keepsAll ⟨Nat.le_of_ble_eq_true rfl, Nat.le_of_ble_eq_true rfl, Nat.le_of_ble_eq_true rfl, Nat.le_of_ble_eq_true rfl, Nat.le_of_ble_eq_true rfl⟩ (fun H5 L5 S5 K5 q5 => ?_)
      obtain ⟨q5, rq5⟩ := q5
      have rk5 : ∀ Vv Kv : Sg, MI D s.heap a0 Vv Kv → MT D H5 a0 Vv Kv := fun Vv Kv hv => rq5 Vv Kv (rk3 Vv Kv hv)
      refine lv_aload_n hx hb dX12_trial_23 rfl (lv_at hl 0 rfl) ?_
      refine lv_iload_n hx hb dX12_trial_24 rfl (lv_at hl 1 rfl) ?_
      refine lv_iconst (v := 0) hx hb dX12_trial_25 (by decide) ?_
      refine callV_Ei C S5 (c_X12_goesOn l D G a0 x1 (0 : Int32) ga0 (by omega)) kV_X12_344 ga0 (trivial) (by decide +kernel) dX12_trial_26 hl.1 rfl rfl (by decide) cd_X12_goesOn ⟨Nat.le_of_ble_eq_true rfl, Nat.le_of_ble_eq_true rfl, Nat.le_of_ble_eq_true rfl, Nat.le_of_ble_eq_true rfl, Nat.le_of_ble_eq_true rfl⟩ (fun v6 H6 L6 S6 K6 q6 => ?_)
      have rk6 : ∀ Vv Kv : Sg, MI D s.heap a0 Vv Kv → MT D H6 a0 Vv Kv := fun Vv Kv hv => (rk5 Vv Kv hv).keep S5.1 ga0 K6 (by decide +kernel)
      refine lv_pop hx hb dX12_trial_29 rfl ?_
      refine lv_iload_n hx hb dX12_trial_30 rfl (lv_at hl 2 rfl) ?_
      refine lv_if_eq (tgt := 42) hx hb dX12_trial_31 (by decide) (fun c7 => ?_) (fun c7 => ?_)
      · have b7 : x2.toInt = (0 : Int32).toInt := i_eq.mp c7
        refine lv_aload_n hx hb dX12_trial_42 rfl (lv_at hl 0 rfl) ?_
        refine q_gr (T := TX12) C S6.1 ga0 1 kF_X12_13 dX12_trial_43 rfl rfl (by decide) rfl (by decide) rfl (fun g8 => ?_)
        refine lv_bipush (v := 9) hx hb dX12_trial_46 (by decide) ?_
        have n9 : aN H6 (fR D H6 11 a0 1) = 2052 := len_31 S6.1 g8
        have k_9 : (9 : Int32).toInt = 9 := by decide
        refine q_iald C S6.1 g8 (by omega) (by omega) dX12_trial_48 rfl (by decide) ?_
        refine lv_topi (fun v10 ev10 => ?_)
        refine lv_istore_n (lv' := [(3, .int v10), (0, .ref a0), (1, .int x1), (2, .int x2)]) hx hb dX12_trial_49 rfl hl (by decide) rfl (fun ls hl => ?_)
        refine lv_aload_n hx hb dX12_trial_50 rfl (lv_at hl 1 rfl) ?_
        refine callV_Ev C S6 (c_X12_bringsBack l D G a0 ga0) kV_X12_354 ga0 (trivial) (by decide +kernel) dX12_trial_51 hl.1 rfl rfl (by decide) cd_X12_bringsBack ⟨Nat.le_of_ble_eq_true rfl, Nat.le_of_ble_eq_true rfl, Nat.le_of_ble_eq_true rfl, Nat.le_of_ble_eq_true rfl, Nat.le_of_ble_eq_true rfl⟩ (fun H11 L11 S11 K11 q11 => ?_)
        obtain ⟨q11, rq11⟩ := q11
        have rk11 : ∀ Vv Kv : Sg, MI D s.heap a0 Vv Kv → MT D H11 a0 Vv Kv := fun Vv Kv hv => rq11 Vv Kv (rk6 Vv Kv hv)
        refine lv_iload_n hx hb dX12_trial_54 rfl (lv_at hl 0 rfl) ?_
        exact retE_i hQ C S11 hr dX12_trial_55 (⟨trivial, fun Vv Kv hv => (rk11 Vv Kv hv).1⟩)
      · have b7 : ¬ x2.toInt = (0 : Int32).toInt := fun z9 => c7 (i_eq.mpr z9)
        refine lv_aload_n hx hb dX12_trial_34 rfl (lv_at hl 0 rfl) ?_
        refine lv_iconst (v := 2) hx hb dX12_trial_35 (by decide) ?_
        have k_2 : (2 : Int32).toInt = 2 := by decide
        refine callV_Pi C S6.1 S6.2.1.2.1 (c_X12_ofState l D G a0 (2 : Int32) ga0) kV_X12_249 ga0 (trivial) dX12_trial_36 hl.1 rfl rfl (by decide) cd_X12_ofState ⟨Nat.le_of_ble_eq_true rfl, Nat.le_of_ble_eq_true rfl, Nat.le_of_ble_eq_true rfl, Nat.le_of_ble_eq_true rfl, Nat.le_of_ble_eq_true rfl⟩ (fun v12 q12 => ?_)
        refine lv_goto (tgt := 49) hx hb dX12_trial_39 (by decide) ?_
        refine lv_istore_n (lv' := [(3, .int v12), (0, .ref a0), (1, .int x1), (2, .int x2)]) hx hb dX12_trial_49 rfl hl (by decide) rfl (fun ls hl => ?_)
        refine lv_aload_n hx hb dX12_trial_50 rfl (lv_at hl 1 rfl) ?_
        refine callV_Ev C S6 (c_X12_bringsBack l D G a0 ga0) kV_X12_354 ga0 (trivial) (by decide +kernel) dX12_trial_51 hl.1 rfl rfl (by decide) cd_X12_bringsBack ⟨Nat.le_of_ble_eq_true rfl, Nat.le_of_ble_eq_true rfl, Nat.le_of_ble_eq_true rfl, Nat.le_of_ble_eq_true rfl, Nat.le_of_ble_eq_true rfl⟩ (fun H13 L13 S13 K13 q13 => ?_)
        obtain ⟨q13, rq13⟩ := q13
        have rk13 : ∀ Vv Kv : Sg, MI D s.heap a0 Vv Kv → MT D H13 a0 Vv Kv := fun Vv Kv hv => rq13 Vv Kv (rk6 Vv Kv hv)
        refine lv_iload_n hx hb dX12_trial_54 rfl (lv_at hl 0 rfl) ?_
        exact retE_i hQ C S13 hr dX12_trial_55 (⟨trivial, fun Vv Kv hv => (rk13 Vv Kv hv).1⟩)
    · have b4 : ¬ v3.toInt = (0 : Int32).toInt := fun z9 => c4 (i_eq.mpr z9)
      exact absurd b4 (by omega)
  · skip
    refine lv_iconst (v := 1) hx hb dX12_trial_10 (by decide) ?_
    have k_1 : (1 : Int32).toInt = 1 := by decide
    refine callV_Ei C S1 (c_X12_throwsIf l D G a0 v2 (1 : Int32) ga0 (by omega)) kV_X12_246 ga0 (trivial) (by decide +kernel) dX12_trial_11 hl.1 rfl rfl (by decide) cd_X12_throwsIf ⟨Nat.le_of_ble_eq_true rfl, Nat.le_of_ble_eq_true rfl, Nat.le_of_ble_eq_true rfl, Nat.le_of_ble_eq_true rfl, Nat.le_of_ble_eq_true rfl⟩ (fun v14 H14 L14 S14 K14 q14 => ?_)
    have rk14 : ∀ Vv Kv : Sg, MI D s.heap a0 Vv Kv → MI D H14 a0 Vv Kv := fun Vv Kv hv => (rk1 Vv Kv hv).keep S1.1 ga0 K14 (by decide +kernel)
    refine lv_if_eq (tgt := 19) hx hb dX12_trial_14 (by decide) (fun c15 => ?_) (fun c15 => ?_)
    · have b15 : v14.toInt = (0 : Int32).toInt := i_eq.mp c15
      exact absurd b15 (by omega)
    · have b15 : ¬ v14.toInt = (0 : Int32).toInt := fun z9 => c15 (i_eq.mpr z9)
      refine lv_iconst (v := 0) hx hb dX12_trial_17 (by decide) ?_
      exact retE_i hQ C S14 hr dX12_trial_18 (⟨trivial, rk14⟩)

set_option maxRecDepth 100000 in
set_option maxHeartbeats 4000000 in
theorem c_X12_span (l : Launch) (D : DD) (G : Nat → Nat) (a0 : Nat) (x1 : Int32) (x2 : Int32) (ga0 : G a0 = 30) (ix2 : 0 ≤ x2.toInt ∧ x2.toInt ≤ 1) : CE l D G yX12_span cX12_span 6 (some .int) 13 [.ref a0, .int x1, .int x2] (fun _ => True) [(30, 0), (31, 0), (38, 0), (34, 0), (31, 1)] (xI (fun H r H1 => (True) ∧ (∀ Vv Kv : Sg, MI D H a0 Vv Kv → MI D H1 a0 Vv Kv))) := by
  refine enter (by decide) (Nat.le_of_ble_eq_true rfl) ?_
  intro p e s m args below meth c ls Q hA hQ C hr hO hpre hl
  have hx := C.1
  have hb := C.2.1
  have S : Sd D G [(30, 0), (31, 0), (38, 0), (34, 0), (31, 1)] s.heap s.heap [] := Sd.start hO
  have hl : lv_has ls 6 [(0, .ref a0), (1, .int x1), (2, .int x2)] := hl
  have rk0 : ∀ Vv Kv : Sg, MI D s.heap a0 Vv Kv → MI D s.heap a0 Vv Kv := fun Vv Kv hv => hv
  refine lv_aload_n hx hb dX12_span_0 rfl (lv_at hl 0 rfl) ?_
  refine lv_iconst (v := 0) hx hb dX12_span_1 (by decide) ?_
  have k_0 : (0 : Int32).toInt = 0 := by decide
  refine q_put (T := TX12) C S ga0 0 kF_X12_3 dX12_span_2 rfl rfl (by decide) (by decide) rfl rfl rfl rfl rfl (vok_a rfl) (by decide +kernel) (fun H1 L1 S1 P1 => ?_)
  have rk1 : ∀ Vv Kv : Sg, MI D s.heap a0 Vv Kv → MI D H1 a0 Vv Kv := fun Vv Kv hv => (rk0 Vv Kv hv).keep S.1 ga0 (Pt.keep ga0 rfl (by decide) P1) (by decide)
  refine lv_aload_n hx hb dX12_span_5 rfl (lv_at hl 0 rfl) ?_
  refine lv_iload_n hx hb dX12_span_6 rfl (lv_at hl 1 rfl) ?_
  refine callS_Pi C S1.1 S1.2.1.2.1 (c_X12_noAhead l D G x1) kS_X12_348 (trivial) dX12_span_7 hl.1 cd_X12_noAhead ⟨Nat.le_of_ble_eq_true rfl, Nat.le_of_ble_eq_true rfl, Nat.le_of_ble_eq_true rfl, Nat.le_of_ble_eq_true rfl, Nat.le_of_ble_eq_true rfl⟩ (fun v2 q2 => ?_)
  rcases q2 with q2 | q2
  · skip
    refine lv_iconst (v := 1) hx hb dX12_span_10 (by decide) ?_
    have k_1 : (1 : Int32).toInt = 1 := by decide
    refine callV_Ei C S1 (c_X12_throwsIf l D G a0 v2 (1 : Int32) ga0 (by omega)) kV_X12_246 ga0 (trivial) (by decide +kernel) dX12_span_11 hl.1 rfl rfl (by decide) cd_X12_throwsIf ⟨Nat.le_of_ble_eq_true rfl, Nat.le_of_ble_eq_true rfl, Nat.le_of_ble_eq_true rfl, Nat.le_of_ble_eq_true rfl, Nat.le_of_ble_eq_true rfl⟩ (fun v3 H3 L3 S3 K3 q3 => ?_)
    have rk3 : ∀ Vv Kv : Sg, MI D s.heap a0 Vv Kv → MI D H3 a0 Vv Kv := fun Vv Kv hv => (rk1 Vv Kv hv).keep S1.1 ga0 K3 (by decide +kernel)
    refine lv_if_eq (tgt := 19) hx hb dX12_span_14 (by decide) (fun c4 => ?_) (fun c4 => ?_)
    · have b4 : v3.toInt = (0 : Int32).toInt := i_eq.mp c4
      refine lv_aload_n hx hb dX12_span_19 rfl (lv_at hl 0 rfl) ?_
      refine callV_Ev C S3 (c_X12_keepsAll l D G a0 ga0) kV_X12_351 ga0 (trivial) (by decide +kernel) dX12_span_20 hl.1 rfl rfl (by decide) cd_X12_keepsAll ⟨Nat.le_of_ble_eq_true rfl, Nat.le_of_ble_eq_true rfl, Nat.le_of_ble_eq_true rfl, Nat.le_of_ble_eq_true rfl, Nat.le_of_ble_eq_true rfl⟩ (fun H5 L5 S5 K5 q5 => ?_)
      obtain ⟨q5, rq5⟩ := q5
      have rk5 : ∀ Vv Kv : Sg, MI D s.heap a0 Vv Kv → MT D H5 a0 Vv Kv := fun Vv Kv hv => rq5 Vv Kv (rk3 Vv Kv hv)
      refine lv_iconst (v := -1) hx hb dX12_span_23 (by decide) ?_
      refine lv_istore_n (lv' := [(3, .int (-1 : Int32)), (0, .ref a0), (1, .int x1), (2, .int x2)]) hx hb dX12_span_24 rfl hl (by decide) rfl (fun ls hl => ?_)
      refine lv_iconst (v := 1) hx hb dX12_span_25 (by decide) ?_
      refine lv_istore (lv' := [(4, .int (1 : Int32)), (3, .int (-1 : Int32)), (0, .ref a0), (1, .int x1), (2, .int x2)]) hx hb dX12_span_26 hl (by decide) rfl (fun ls hl => ?_)
      have Lp28 : ∀ (n : Nat) (x4_28 : Int32) (x3_28 : Int32) (H_28 : Heap) (L_28 : List Loc) (ls : Array Slot), (Sd D G [(30, 0), (31, 0), (38, 0), (34, 0), (31, 1)] s.heap H_28 L_28) → (1 ≤ x4_28.toInt ∧ x4_28.toInt ≤ 2147483647) → (∀ Vv Kv : Sg, MI D s.heap a0 Vv Kv → MT D H_28 a0 Vv Kv) → 2147483648 - x4_28.toInt ≤ (n : Int) → lv_has ls 6 [(4, .int x4_28), (3, .int x3_28), (0, .ref a0), (1, .int x1), (2, .int x2)] → W p l e (rmU 13 0 0) s m args below meth c H_28 L_28 0 0 Q (F0 m 28 ls []) := by
        intro n
        induction n with
        | zero =>
          intro x4_28 x3_28 H_28 L_28 ls S_28 j28_0 u28_0 hn hl
          exact absurd hn (by omega)
        | succ n ih28 =>
          intro x4_28 x3_28 H_28 L_28 ls S_28 j28_0 u28_0 hn hl
          refine lv_iload hx hb dX12_span_28 (lv_at hl 0 rfl) ?_
          refine lv_bipush (v := 6) hx hb dX12_span_30 (by decide) ?_
          have k_6 : (6 : Int32).toInt = 6 := by decide
          refine lv_icmp_gt (tgt := 99) hx hb dX12_span_32 (by decide) (fun c6 => ?_) (fun c6 => ?_)
          · have b6 : (6 : Int32).toInt < x4_28.toInt := i_lt.mp c6
            refine lv_iload_n hx hb dX12_span_99 rfl (lv_at hl 1 rfl) ?_
            exact retE_i hQ C S_28 hr dX12_span_100 (⟨trivial, fun Vv Kv hv => (u28_0 Vv Kv hv).1⟩)
          · have b6 : ¬ (6 : Int32).toInt < x4_28.toInt := fun z9 => c6 (i_lt.mpr z9)
            refine lv_aload_n hx hb dX12_span_35 rfl (lv_at hl 2 rfl) ?_
            refine q_gr (T := TX12) C S_28.1 ga0 1 kF_X12_13 dX12_span_36 rfl rfl (by decide) rfl (by decide) rfl (fun g7 => ?_)
            refine lv_bipush (v := 11) hx hb dX12_span_39 (by decide) ?_
            refine lv_iload hx hb dX12_span_41 (lv_at hl 0 rfl) ?_
            have n8 : aN H_28 (fR D H_28 11 a0 1) = 2052 := len_31 S_28.1 g7
            have k_11 : (11 : Int32).toInt = 11 := by decide
            refine q_iast C S_28 g7 (by omega) (by omega) dX12_span_43 rfl (by decide) (by decide +kernel) (fun _ _ h => wk_low _ _ (by omega) (fun h9 => by omega) (fun h9 => by omega) (fun h9 => by omega) (fun j hj h9 => by omega) h) (fun H9 L9 S9 P9 => ?_) (hs := fun _ => Or.inl (by decide +kernel))
            have rk9 : ∀ Vv Kv : Sg, MI D s.heap a0 Vv Kv → MT D H9 a0 Vv Kv := fun Vv Kv hv => (u28_0 Vv Kv hv).keep S_28.1 ga0 (Pa.keep g7 rfl (by decide) P9 (fun _ => ⟨len_31 S_28.1 g7, vy_no (by omega) (by omega) (by omega) (by omega) (fun h9 hh9 => by omega) (fun j9 hj9 => by omega)⟩)) (by decide)
            refine lv_aload_n hx hb dX12_span_44 rfl (lv_at hl 2 rfl) ?_
            refine lv_iload_n hx hb dX12_span_45 rfl (lv_at hl 3 rfl) ?_
            refine lv_iconst (v := 0) hx hb dX12_span_46 (by decide) ?_
            refine callV_Ei C S9 (c_X12_goesOn l D G a0 x1 (0 : Int32) ga0 (by omega)) kV_X12_344 ga0 (trivial) (by decide +kernel) dX12_span_47 hl.1 rfl rfl (by decide) cd_X12_goesOn ⟨Nat.le_of_ble_eq_true rfl, Nat.le_of_ble_eq_true rfl, Nat.le_of_ble_eq_true rfl, Nat.le_of_ble_eq_true rfl, Nat.le_of_ble_eq_true rfl⟩ (fun v10 H10 L10 S10 K10 q10 => ?_)
            have rk10 : ∀ Vv Kv : Sg, MI D s.heap a0 Vv Kv → MT D H10 a0 Vv Kv := fun Vv Kv hv => (rk9 Vv Kv hv).keep S9.1 ga0 K10 (by decide +kernel)
            refine lv_pop hx hb dX12_span_50 rfl ?_
            refine lv_aload_n hx hb dX12_span_51 rfl (lv_at hl 2 rfl) ?_
            refine q_gr (T := TX12) C S10.1 ga0 1 kF_X12_13 dX12_span_52 rfl rfl (by decide) rfl (by decide) rfl (fun g11 => ?_)
            refine lv_bipush (v := 9) hx hb dX12_span_55 (by decide) ?_
            have n12 : aN H10 (fR D H10 11 a0 1) = 2052 := len_31 S10.1 g11
            have k_9 : (9 : Int32).toInt = 9 := by decide
            refine q_iald C S10.1 g11 (by omega) (by omega) dX12_span_57 rfl (by decide) ?_
            refine lv_topi (fun v13 ev13 => ?_)
            refine lv_istore (lv' := [(5, .int v13), (4, .int x4_28), (3, .int x3_28), (0, .ref a0), (1, .int x1), (2, .int x2)]) hx hb dX12_span_58 hl (by decide) rfl (fun ls hl => ?_)
            refine lv_aload_n hx hb dX12_span_60 rfl (lv_at hl 3 rfl) ?_
            refine callV_Ev C S10 (c_X12_bringsBack l D G a0 ga0) kV_X12_354 ga0 (trivial) (by decide +kernel) dX12_span_61 hl.1 rfl rfl (by decide) cd_X12_bringsBack ⟨Nat.le_of_ble_eq_true rfl, Nat.le_of_ble_eq_true rfl, Nat.le_of_ble_eq_true rfl, Nat.le_of_ble_eq_true rfl, Nat.le_of_ble_eq_true rfl⟩ (fun H14 L14 S14 K14 q14 => ?_)
            obtain ⟨q14, rq14⟩ := q14
            have rk14 : ∀ Vv Kv : Sg, MI D s.heap a0 Vv Kv → MT D H14 a0 Vv Kv := fun Vv Kv hv => rq14 Vv Kv (rk10 Vv Kv hv)
            refine lv_iload_n hx hb dX12_span_64 rfl (lv_at hl 2 rfl) ?_
            refine lv_if_ge (tgt := 73) hx hb dX12_span_65 (by decide) (fun c15 => ?_) (fun c15 => ?_)
            · have b15 : (0 : Int32).toInt ≤ x3_28.toInt := i_le.mp c15
              refine lv_iload_n hx hb dX12_span_73 rfl (lv_at hl 5 rfl) ?_
              refine lv_if_eq (tgt := 86) hx hb dX12_span_74 (by decide) (fun c16 => ?_) (fun c16 => ?_)
              · have b16 : x2.toInt = (0 : Int32).toInt := i_eq.mp c16
                refine lv_iload_n hx hb dX12_span_86 rfl (lv_at hl 2 rfl) ?_
                refine lv_iload hx hb dX12_span_87 (lv_at hl 0 rfl) ?_
                refine q_min C kN_X12_270 dX12_span_89 hl.1 ⟨Nat.le_of_ble_eq_true rfl, Nat.le_of_ble_eq_true rfl, Nat.le_of_ble_eq_true rfl, Nat.le_of_ble_eq_true rfl⟩ (fun v17 fv17 => ?_)
                refine lv_istore_n (lv' := [(3, .int v17), (5, .int v13), (4, .int x4_28), (0, .ref a0), (1, .int x1), (2, .int x2)]) hx hb dX12_span_92 rfl hl (by decide) rfl (fun ls hl => ?_)
                obtain ⟨v18, ev18⟩ : ∃ y : Int32, y = x4_28 + (1) := ⟨_, rfl⟩
                have f19 : v18.toInt = x4_28.toInt + (1) := by rw [ev18]; exact i_addc k_1 (by omega) (by omega)
                refine lv_iinc (v := v18) (lv' := [(4, .int v18), (3, .int v17), (5, .int v13), (0, .ref a0), (1, .int x1), (2, .int x2)]) hx hb dX12_span_93 hl (k := 2) rfl (by rw [ev18]; rfl) (by decide) rfl (fun ls hl => ?_)
                refine lv_goto (tgt := 28) hx hb dX12_span_96 (by decide) ?_
                exact ih28 v18 v17 H14 L14 ls S14 (by omega) rk14 (by omega) (lv_sub hl [0, 1, 3, 4, 5] rfl)
              · have b16 : ¬ x2.toInt = (0 : Int32).toInt := fun z9 => c16 (i_eq.mpr z9)
                refine lv_iload_n hx hb dX12_span_77 rfl (lv_at hl 2 rfl) ?_
                refine lv_iload hx hb dX12_span_78 (lv_at hl 0 rfl) ?_
                refine q_max C kN_X12_370 dX12_span_80 hl.1 ⟨Nat.le_of_ble_eq_true rfl, Nat.le_of_ble_eq_true rfl, Nat.le_of_ble_eq_true rfl, Nat.le_of_ble_eq_true rfl⟩ (fun v20 fv20 => ?_)
                refine lv_goto (tgt := 92) hx hb dX12_span_83 (by decide) ?_
                refine lv_istore_n (lv' := [(3, .int v20), (5, .int v13), (4, .int x4_28), (0, .ref a0), (1, .int x1), (2, .int x2)]) hx hb dX12_span_92 rfl hl (by decide) rfl (fun ls hl => ?_)
                obtain ⟨v21, ev21⟩ : ∃ y : Int32, y = x4_28 + (1) := ⟨_, rfl⟩
                have f22 : v21.toInt = x4_28.toInt + (1) := by rw [ev21]; exact i_addc k_1 (by omega) (by omega)
                refine lv_iinc (v := v21) (lv' := [(4, .int v21), (3, .int v20), (5, .int v13), (0, .ref a0), (1, .int x1), (2, .int x2)]) hx hb dX12_span_93 hl (k := 2) rfl (by rw [ev21]; rfl) (by decide) rfl (fun ls hl => ?_)
                refine lv_goto (tgt := 28) hx hb dX12_span_96 (by decide) ?_
                exact ih28 v21 v20 H14 L14 ls S14 (by omega) rk14 (by omega) (lv_sub hl [0, 1, 3, 4, 5] rfl)
            · have b15 : ¬ (0 : Int32).toInt ≤ x3_28.toInt := fun z9 => c15 (i_le.mpr z9)
              refine lv_iload hx hb dX12_span_68 (lv_at hl 0 rfl) ?_
              refine lv_goto (tgt := 92) hx hb dX12_span_70 (by decide) ?_
              refine lv_istore_n (lv' := [(3, .int v13), (5, .int v13), (4, .int x4_28), (0, .ref a0), (1, .int x1), (2, .int x2)]) hx hb dX12_span_92 rfl hl (by decide) rfl (fun ls hl => ?_)
              obtain ⟨v23, ev23⟩ : ∃ y : Int32, y = x4_28 + (1) := ⟨_, rfl⟩
              have f24 : v23.toInt = x4_28.toInt + (1) := by rw [ev23]; exact i_addc k_1 (by omega) (by omega)
              refine lv_iinc (v := v23) (lv' := [(4, .int v23), (3, .int v13), (5, .int v13), (0, .ref a0), (1, .int x1), (2, .int x2)]) hx hb dX12_span_93 hl (k := 2) rfl (by rw [ev23]; rfl) (by decide) rfl (fun ls hl => ?_)
              refine lv_goto (tgt := 28) hx hb dX12_span_96 (by decide) ?_
              exact ih28 v23 v13 H14 L14 ls S14 (by omega) rk14 (by omega) (lv_sub hl [0, 1, 3, 4, 5] rfl)
      have k_m1 : (-1 : Int32).toInt = -1 := by decide
      exact Lp28 2147483647 (1 : Int32) (-1 : Int32) H5 L5 ls S5 (by omega) rk5  (by omega) (lv_sub hl [0, 1, 2, 3, 4] rfl)
    · have b4 : ¬ v3.toInt = (0 : Int32).toInt := fun z9 => c4 (i_eq.mpr z9)
      exact absurd b4 (by omega)
  · skip
    refine lv_iconst (v := 1) hx hb dX12_span_10 (by decide) ?_
    have k_1 : (1 : Int32).toInt = 1 := by decide
    refine callV_Ei C S1 (c_X12_throwsIf l D G a0 v2 (1 : Int32) ga0 (by omega)) kV_X12_246 ga0 (trivial) (by decide +kernel) dX12_span_11 hl.1 rfl rfl (by decide) cd_X12_throwsIf ⟨Nat.le_of_ble_eq_true rfl, Nat.le_of_ble_eq_true rfl, Nat.le_of_ble_eq_true rfl, Nat.le_of_ble_eq_true rfl, Nat.le_of_ble_eq_true rfl⟩ (fun v25 H25 L25 S25 K25 q25 => ?_)
    have rk25 : ∀ Vv Kv : Sg, MI D s.heap a0 Vv Kv → MI D H25 a0 Vv Kv := fun Vv Kv hv => (rk1 Vv Kv hv).keep S1.1 ga0 K25 (by decide +kernel)
    refine lv_if_eq (tgt := 19) hx hb dX12_span_14 (by decide) (fun c26 => ?_) (fun c26 => ?_)
    · have b26 : v25.toInt = (0 : Int32).toInt := i_eq.mp c26
      exact absurd b26 (by omega)
    · have b26 : ¬ v25.toInt = (0 : Int32).toInt := fun z9 => c26 (i_eq.mpr z9)
      refine lv_iconst (v := 0) hx hb dX12_span_17 (by decide) ?_
      exact retE_i hQ C S25 hr dX12_span_18 (⟨trivial, rk25⟩)

set_option maxRecDepth 100000 in
set_option maxHeartbeats 4000000 in
theorem c_X12_led (l : Launch) (D : DD) (G : Nat → Nat) (a0 : Nat) (x1 : Int32) (x2 : Int32) (ga0 : G a0 = 30) (ix2 : 0 ≤ x2.toInt ∧ x2.toInt ≤ 1) : CE l D G yX12_led cX12_led 6 (some .int) 2 [.ref a0, .int x1, .int x2] (fun _ => True) [(30, 0)] (xI (fun H r H1 => True)) := by
  refine enter (by decide) (Nat.le_of_ble_eq_true rfl) ?_
  intro p e s m args below meth c ls Q hA hQ C hr hO hpre hl
  have hx := C.1
  have hb := C.2.1
  have S : Sd D G [(30, 0)] s.heap s.heap [] := Sd.start hO
  have hl : lv_has ls 6 [(0, .ref a0), (1, .int x1), (2, .int x2)] := hl
  refine lv_aload_n hx hb dX12_led_0 rfl (lv_at hl 0 rfl) ?_
  refine lv_iconst (v := 0) hx hb dX12_led_1 (by decide) ?_
  have k_0 : (0 : Int32).toInt = 0 := by decide
  refine q_put (T := TX12) C S ga0 0 kF_X12_3 dX12_led_2 rfl rfl (by decide) (by decide) rfl rfl rfl rfl rfl (vok_a rfl) (by decide +kernel) (fun H1 L1 S1 P1 => ?_)
  refine lv_aload_n hx hb dX12_led_5 rfl (lv_at hl 0 rfl) ?_
  refine lv_aload_n hx hb dX12_led_6 rfl (lv_at hl 0 rfl) ?_
  refine lv_iload_n hx hb dX12_led_7 rfl (lv_at hl 1 rfl) ?_
  refine callV_Pi C S1.1 S1.2.1.2.1 (c_X12_noHouse l D G a0 x1 ga0) kV_X12_299 ga0 (trivial) dX12_led_8 hl.1 rfl rfl (by decide) cd_X12_noHouse ⟨Nat.le_of_ble_eq_true rfl, Nat.le_of_ble_eq_true rfl, Nat.le_of_ble_eq_true rfl, Nat.le_of_ble_eq_true rfl, Nat.le_of_ble_eq_true rfl⟩ (fun v2 q2 => ?_)
  rcases q2 with q2 | q2
  · skip
    refine lv_iconst (v := 1) hx hb dX12_led_11 (by decide) ?_
    have k_1 : (1 : Int32).toInt = 1 := by decide
    refine callV_Ei C S1 (c_X12_throwsIf l D G a0 v2 (1 : Int32) ga0 (by omega)) kV_X12_246 ga0 (trivial) (by decide +kernel) dX12_led_12 hl.1 rfl rfl (by decide) cd_X12_throwsIf ⟨Nat.le_of_ble_eq_true rfl, Nat.le_of_ble_eq_true rfl, Nat.le_of_ble_eq_true rfl, Nat.le_of_ble_eq_true rfl, Nat.le_of_ble_eq_true rfl⟩ (fun v3 H3 L3 S3 K3 q3 => ?_)
    refine lv_if_eq (tgt := 20) hx hb dX12_led_15 (by decide) (fun c4 => ?_) (fun c4 => ?_)
    · have b4 : v3.toInt = (0 : Int32).toInt := i_eq.mp c4
      refine lv_iconst (v := 0) hx hb dX12_led_20 (by decide) ?_
      refine lv_istore_n (lv' := [(3, .int (0 : Int32)), (0, .ref a0), (1, .int x1), (2, .int x2)]) hx hb dX12_led_21 rfl hl (by decide) rfl (fun ls hl => ?_)
      refine lv_iconst (v := -1) hx hb dX12_led_22 (by decide) ?_
      refine lv_istore (lv' := [(4, .int (-1 : Int32)), (3, .int (0 : Int32)), (0, .ref a0), (1, .int x1), (2, .int x2)]) hx hb dX12_led_23 hl (by decide) rfl (fun ls hl => ?_)
      refine lv_aload_n hx hb dX12_led_25 rfl (lv_at hl 2 rfl) ?_
      refine q_gr (T := TX12) C S3.1 ga0 1 kF_X12_13 dX12_led_26 rfl rfl (by decide) rfl (by decide) rfl (fun g5 => ?_)
      refine lv_bipush (v := 10) hx hb dX12_led_29 (by decide) ?_
      have n6 : aN H3 (fR D H3 11 a0 1) = 2052 := len_31 S3.1 g5
      have k_10 : (10 : Int32).toInt = 10 := by decide
      refine q_iald C S3.1 g5 (by omega) (by omega) dX12_led_31 rfl (by decide) ?_
      refine lv_topi (fun v7 ev7 => ?_)
      have wv7 : 0 ≤ v7.toInt ∧ v7.toInt ≤ 60 := by rw [ev7]; exact wl_10 S3.1 g5
      refine lv_iconst (v := 1) hx hb dX12_led_32 (by decide) ?_
      refine lv_isub hx hb dX12_led_33 ?_
      refine lv_topi (fun v8 ev8 => ?_)
      have f9 : v8.toInt = v7.toInt - (1 : Int32).toInt := by rw [ev8]; exact i_sub (by omega) (by omega)
      refine lv_istore (lv' := [(5, .int v8), (4, .int (-1 : Int32)), (3, .int (0 : Int32)), (0, .ref a0), (1, .int x1), (2, .int x2)]) hx hb dX12_led_34 hl (by decide) rfl (fun ls hl => ?_)
      have Lp36 : ∀ (n : Nat) (x5_36 : Int32) (x4_36 : Int32) (x3_36 : Int32) (ls : Array Slot), (-1 ≤ x5_36.toInt ∧ x5_36.toInt ≤ 59) → x5_36.toInt - (-2) ≤ (n : Int) → lv_has ls 6 [(5, .int x5_36), (4, .int x4_36), (3, .int x3_36), (0, .ref a0), (1, .int x1), (2, .int x2)] → W p l e (rmU 2 0 0) s m args below meth c H3 L3 0 0 Q (F0 m 36 ls []) := by
        intro n
        induction n with
        | zero =>
          intro x5_36 x4_36 x3_36 ls j36_0 hn hl
          exact absurd hn (by omega)
        | succ n ih36 =>
          intro x5_36 x4_36 x3_36 ls j36_0 hn hl
          refine lv_iload hx hb dX12_led_36 (lv_at hl 0 rfl) ?_
          refine lv_if_lt (tgt := 73) hx hb dX12_led_38 (by decide) (fun c10 => ?_) (fun c10 => ?_)
          · have b10 : x5_36.toInt < (0 : Int32).toInt := i_lt.mp c10
            refine lv_iload_n hx hb dX12_led_73 rfl (lv_at hl 5 rfl) ?_
            refine lv_if_eq (tgt := 82) hx hb dX12_led_74 (by decide) (fun c11 => ?_) (fun c11 => ?_)
            · have b11 : x2.toInt = (0 : Int32).toInt := i_eq.mp c11
              refine lv_iload_n hx hb dX12_led_82 rfl (lv_at hl 2 rfl) ?_
              exact retE_i hQ C S3 hr dX12_led_83 (trivial)
            · have b11 : ¬ x2.toInt = (0 : Int32).toInt := fun z9 => c11 (i_eq.mpr z9)
              refine lv_iload hx hb dX12_led_77 (lv_at hl 1 rfl) ?_
              refine lv_goto (tgt := 83) hx hb dX12_led_79 (by decide) ?_
              exact retE_i hQ C S3 hr dX12_led_83 (trivial)
          · have b10 : ¬ x5_36.toInt < (0 : Int32).toInt := fun z9 => c10 (i_lt.mpr z9)
            refine lv_aload_n hx hb dX12_led_41 rfl (lv_at hl 3 rfl) ?_
            refine lv_iload hx hb dX12_led_42 (lv_at hl 0 rfl) ?_
            refine lv_iconst (v := 2) hx hb dX12_led_44 (by decide) ?_
            have k_2 : (2 : Int32).toInt = 2 := by decide
            refine callV_Pi C S3.1 S3.2.1.2.1 (c_X12_ofLog l D G a0 x5_36 (2 : Int32) ga0 (by omega) (by omega)) kV_X12_406 ga0 (trivial) dX12_led_45 hl.1 rfl rfl (by decide) cd_X12_ofLog ⟨Nat.le_of_ble_eq_true rfl, Nat.le_of_ble_eq_true rfl, Nat.le_of_ble_eq_true rfl, Nat.le_of_ble_eq_true rfl, Nat.le_of_ble_eq_true rfl⟩ (fun v12 q12 => ?_)
            refine lv_iload_n hx hb dX12_led_48 rfl (lv_at hl 4 rfl) ?_
            refine lv_icmp_eq (tgt := 55) hx hb dX12_led_49 (by decide) (fun c13 => ?_) (fun c13 => ?_)
            · have b13 : v12.toInt = x1.toInt := i_eq.mp c13
              obtain ⟨v14, ev14⟩ : ∃ y : Int32, y = x3_36 + (1) := ⟨_, rfl⟩
              have r15 := i_rng x3_36
              refine lv_iinc (v := v14) (lv' := [(3, .int v14), (5, .int x5_36), (4, .int x4_36), (0, .ref a0), (1, .int x1), (2, .int x2)]) hx hb dX12_led_55 hl (k := 2) rfl (by rw [ev14]; rfl) (by decide) rfl (fun ls hl => ?_)
              refine lv_aload_n hx hb dX12_led_58 rfl (lv_at hl 3 rfl) ?_
              refine lv_iload hx hb dX12_led_59 (lv_at hl 1 rfl) ?_
              refine lv_iconst (v := 0) hx hb dX12_led_61 (by decide) ?_
              refine callV_Pi C S3.1 S3.2.1.2.1 (c_X12_ofLog l D G a0 x5_36 (0 : Int32) ga0 (by omega) (by omega)) kV_X12_406 ga0 (trivial) dX12_led_62 hl.1 rfl rfl (by decide) cd_X12_ofLog ⟨Nat.le_of_ble_eq_true rfl, Nat.le_of_ble_eq_true rfl, Nat.le_of_ble_eq_true rfl, Nat.le_of_ble_eq_true rfl, Nat.le_of_ble_eq_true rfl⟩ (fun v16 q16 => ?_)
              refine lv_istore (lv' := [(4, .int v16), (3, .int v14), (5, .int x5_36), (0, .ref a0), (1, .int x1), (2, .int x2)]) hx hb dX12_led_65 hl (by decide) rfl (fun ls hl => ?_)
              obtain ⟨v17, ev17⟩ : ∃ y : Int32, y = x5_36 + (-1) := ⟨_, rfl⟩
              have k_m1 : (-1 : Int32).toInt = -1 := by decide
              have f18 : v17.toInt = x5_36.toInt + (-1) := by rw [ev17]; exact i_addc k_m1 (by omega) (by omega)
              refine lv_iinc (v := v17) (lv' := [(5, .int v17), (4, .int v16), (3, .int v14), (0, .ref a0), (1, .int x1), (2, .int x2)]) hx hb dX12_led_67 hl (k := 2) rfl (by rw [ev17]; rfl) (by decide) rfl (fun ls hl => ?_)
              refine lv_goto (tgt := 36) hx hb dX12_led_70 (by decide) ?_
              exact ih36 v17 v16 v14 ls (by omega) (by omega) (lv_sub hl [0, 1, 2, 3, 4, 5] rfl)
            · have b13 : ¬ v12.toInt = x1.toInt := fun z9 => c13 (i_eq.mpr z9)
              refine lv_goto (tgt := 67) hx hb dX12_led_52 (by decide) ?_
              obtain ⟨v19, ev19⟩ : ∃ y : Int32, y = x5_36 + (-1) := ⟨_, rfl⟩
              have k_m1 : (-1 : Int32).toInt = -1 := by decide
              have f20 : v19.toInt = x5_36.toInt + (-1) := by rw [ev19]; exact i_addc k_m1 (by omega) (by omega)
              refine lv_iinc (v := v19) (lv' := [(5, .int v19), (4, .int x4_36), (3, .int x3_36), (0, .ref a0), (1, .int x1), (2, .int x2)]) hx hb dX12_led_67 hl (k := 0) rfl (by rw [ev19]; rfl) (by decide) rfl (fun ls hl => ?_)
              refine lv_goto (tgt := 36) hx hb dX12_led_70 (by decide) ?_
              exact ih36 v19 x4_36 x3_36 ls (by omega) (by omega) (lv_sub hl [0, 1, 2, 3, 4, 5] rfl)
      have k_m1 : (-1 : Int32).toInt = -1 := by decide
      exact Lp36 61 v8 (-1 : Int32) (0 : Int32) ls (by omega)  (by omega) (lv_sub hl [0, 1, 2, 3, 4, 5] rfl)
    · have b4 : ¬ v3.toInt = (0 : Int32).toInt := fun z9 => c4 (i_eq.mpr z9)
      exact absurd b4 (by omega)
  · skip
    refine lv_iconst (v := 1) hx hb dX12_led_11 (by decide) ?_
    have k_1 : (1 : Int32).toInt = 1 := by decide
    refine callV_Ei C S1 (c_X12_throwsIf l D G a0 v2 (1 : Int32) ga0 (by omega)) kV_X12_246 ga0 (trivial) (by decide +kernel) dX12_led_12 hl.1 rfl rfl (by decide) cd_X12_throwsIf ⟨Nat.le_of_ble_eq_true rfl, Nat.le_of_ble_eq_true rfl, Nat.le_of_ble_eq_true rfl, Nat.le_of_ble_eq_true rfl, Nat.le_of_ble_eq_true rfl⟩ (fun v21 H21 L21 S21 K21 q21 => ?_)
    refine lv_if_eq (tgt := 20) hx hb dX12_led_15 (by decide) (fun c22 => ?_) (fun c22 => ?_)
    · have b22 : v21.toInt = (0 : Int32).toInt := i_eq.mp c22
      exact absurd b22 (by omega)
    · have b22 : ¬ v21.toInt = (0 : Int32).toInt := fun z9 => c22 (i_eq.mpr z9)
      refine lv_iconst (v := 0) hx hb dX12_led_18 (by decide) ?_
      exact retE_i hQ C S21 hr dX12_led_19 (trivial)

set_option maxRecDepth 100000 in
set_option maxHeartbeats 4000000 in
theorem c_X12_log (l : Launch) (D : DD) (G : Nat → Nat) (a0 : Nat) (x1 : Int32) (x2 : Int32) (ga0 : G a0 = 30) : CE l D G yX12_log cX12_log 3 (some .int) 1 [.ref a0, .int x1, .int x2] (fun _ => True) [(30, 0)] (xI (fun H r H1 => True)) := by
  refine enter (by decide) (Nat.le_of_ble_eq_true rfl) ?_
  intro p e s m args below meth c ls Q hA hQ C hr hO hpre hl
  have hx := C.1
  have hb := C.2.1
  have S : Sd D G [(30, 0)] s.heap s.heap [] := Sd.start hO
  have hl : lv_has ls 3 [(0, .ref a0), (1, .int x1), (2, .int x2)] := hl
  refine lv_aload_n hx hb dX12_log_0 rfl (lv_at hl 0 rfl) ?_
  refine lv_iconst (v := 0) hx hb dX12_log_1 (by decide) ?_
  have k_0 : (0 : Int32).toInt = 0 := by decide
  refine q_put (T := TX12) C S ga0 0 kF_X12_3 dX12_log_2 rfl rfl (by decide) (by decide) rfl rfl rfl rfl rfl (vok_a rfl) (by decide +kernel) (fun H1 L1 S1 P1 => ?_)
  refine lv_aload_n hx hb dX12_log_5 rfl (lv_at hl 0 rfl) ?_
  refine lv_iload_n hx hb dX12_log_6 rfl (lv_at hl 2 rfl) ?_
  refine lv_iconst (v := 0) hx hb dX12_log_7 (by decide) ?_
  refine lv_iconst (v := 3) hx hb dX12_log_8 (by decide) ?_
  have k_3 : (3 : Int32).toInt = 3 := by decide
  refine callS_Pi C S1.1 S1.2.1.2.1 (c_X12_in l D G x2 (0 : Int32) (3 : Int32)) kS_X12_63 (trivial) dX12_log_9 hl.1 cd_X12_in ⟨Nat.le_of_ble_eq_true rfl, Nat.le_of_ble_eq_true rfl, Nat.le_of_ble_eq_true rfl, Nat.le_of_ble_eq_true rfl, Nat.le_of_ble_eq_true rfl⟩ (fun v2 q2 => ?_)
  rcases q2 with q2 | q2
  · skip
    refine lv_if_ne (tgt := 19) hx hb dX12_log_12 (by decide) (fun c3 => ?_) (fun c3 => ?_)
    · have b3 : ¬ v2.toInt = (0 : Int32).toInt := fun z9 => c3 (i_eq.mpr z9)
      refine lv_iconst (v := 0) hx hb dX12_log_19 (by decide) ?_
      refine lv_iconst (v := 1) hx hb dX12_log_20 (by decide) ?_
      have k_1 : (1 : Int32).toInt = 1 := by decide
      refine callV_Ei C S1 (c_X12_throwsIf l D G a0 (0 : Int32) (1 : Int32) ga0 (by omega)) kV_X12_246 ga0 (trivial) (by decide +kernel) dX12_log_21 hl.1 rfl rfl (by decide) cd_X12_throwsIf ⟨Nat.le_of_ble_eq_true rfl, Nat.le_of_ble_eq_true rfl, Nat.le_of_ble_eq_true rfl, Nat.le_of_ble_eq_true rfl, Nat.le_of_ble_eq_true rfl⟩ (fun v4 H4 L4 S4 K4 q4 => ?_)
      refine lv_if_eq (tgt := 29) hx hb dX12_log_24 (by decide) (fun c5 => ?_) (fun c5 => ?_)
      · have b5 : v4.toInt = (0 : Int32).toInt := i_eq.mp c5
        refine lv_iload_n hx hb dX12_log_29 rfl (lv_at hl 1 rfl) ?_
        refine lv_iconst (v := 0) hx hb dX12_log_30 (by decide) ?_
        refine lv_aload_n hx hb dX12_log_31 rfl (lv_at hl 0 rfl) ?_
        refine q_gr (T := TX12) C S4.1 ga0 1 kF_X12_13 dX12_log_32 rfl rfl (by decide) rfl (by decide) rfl (fun g6 => ?_)
        refine lv_bipush (v := 10) hx hb dX12_log_35 (by decide) ?_
        have n7 : aN H4 (fR D H4 11 a0 1) = 2052 := len_31 S4.1 g6
        have k_10 : (10 : Int32).toInt = 10 := by decide
        refine q_iald C S4.1 g6 (by omega) (by omega) dX12_log_37 rfl (by decide) ?_
        refine lv_topi (fun v8 ev8 => ?_)
        have wv8 : 0 ≤ v8.toInt ∧ v8.toInt ≤ 60 := by rw [ev8]; exact wl_10 S4.1 g6
        refine lv_iconst (v := 1) hx hb dX12_log_38 (by decide) ?_
        refine lv_isub hx hb dX12_log_39 ?_
        refine lv_topi (fun v9 ev9 => ?_)
        have f10 : v9.toInt = v8.toInt - (1 : Int32).toInt := by rw [ev9]; exact i_sub (by omega) (by omega)
        refine callS_Pi C S4.1 S4.2.1.2.1 (c_X12_in l D G x1 (0 : Int32) v9) kS_X12_63 (trivial) dX12_log_40 hl.1 cd_X12_in ⟨Nat.le_of_ble_eq_true rfl, Nat.le_of_ble_eq_true rfl, Nat.le_of_ble_eq_true rfl, Nat.le_of_ble_eq_true rfl, Nat.le_of_ble_eq_true rfl⟩ (fun v11 q11 => ?_)
        rcases q11 with q11 | q11
        · skip
          refine lv_if_eq (tgt := 55) hx hb dX12_log_43 (by decide) (fun c12 => ?_) (fun c12 => ?_)
          · have b12 : v11.toInt = (0 : Int32).toInt := i_eq.mp c12
            exact absurd b12 (by omega)
          · have b12 : ¬ v11.toInt = (0 : Int32).toInt := fun z9 => c12 (i_eq.mpr z9)
            refine lv_aload_n hx hb dX12_log_46 rfl (lv_at hl 0 rfl) ?_
            refine lv_iload_n hx hb dX12_log_47 rfl (lv_at hl 1 rfl) ?_
            refine lv_iload_n hx hb dX12_log_48 rfl (lv_at hl 2 rfl) ?_
            refine callV_Pi C S4.1 S4.2.1.2.1 (c_X12_ofLog l D G a0 x1 x2 ga0 (by omega) (by omega)) kV_X12_406 ga0 (trivial) dX12_log_49 hl.1 rfl rfl (by decide) cd_X12_ofLog ⟨Nat.le_of_ble_eq_true rfl, Nat.le_of_ble_eq_true rfl, Nat.le_of_ble_eq_true rfl, Nat.le_of_ble_eq_true rfl, Nat.le_of_ble_eq_true rfl⟩ (fun v13 q13 => ?_)
            refine lv_goto (tgt := 56) hx hb dX12_log_52 (by decide) ?_
            exact retE_i hQ C S4 hr dX12_log_56 (trivial)
        · skip
          refine lv_if_eq (tgt := 55) hx hb dX12_log_43 (by decide) (fun c14 => ?_) (fun c14 => ?_)
          · have b14 : v11.toInt = (0 : Int32).toInt := i_eq.mp c14
            refine lv_iconst (v := -1) hx hb dX12_log_55 (by decide) ?_
            have k_m1 : (-1 : Int32).toInt = -1 := by decide
            exact retE_i hQ C S4 hr dX12_log_56 (trivial)
          · have b14 : ¬ v11.toInt = (0 : Int32).toInt := fun z9 => c14 (i_eq.mpr z9)
            exact absurd b14 (by omega)
      · have b5 : ¬ v4.toInt = (0 : Int32).toInt := fun z9 => c5 (i_eq.mpr z9)
        exact absurd b5 (by omega)
    · have b3 : v2.toInt = (0 : Int32).toInt := i_eq.mp c3
      exact absurd b3 (by omega)
  · skip
    refine lv_if_ne (tgt := 19) hx hb dX12_log_12 (by decide) (fun c15 => ?_) (fun c15 => ?_)
    · have b15 : ¬ v2.toInt = (0 : Int32).toInt := fun z9 => c15 (i_eq.mpr z9)
      exact absurd b15 (by omega)
    · have b15 : v2.toInt = (0 : Int32).toInt := i_eq.mp c15
      refine lv_iconst (v := 1) hx hb dX12_log_15 (by decide) ?_
      refine lv_goto (tgt := 20) hx hb dX12_log_16 (by decide) ?_
      refine lv_iconst (v := 1) hx hb dX12_log_20 (by decide) ?_
      have k_1 : (1 : Int32).toInt = 1 := by decide
      refine callV_Ei C S1 (c_X12_throwsIf l D G a0 (1 : Int32) (1 : Int32) ga0 (by omega)) kV_X12_246 ga0 (trivial) (by decide +kernel) dX12_log_21 hl.1 rfl rfl (by decide) cd_X12_throwsIf ⟨Nat.le_of_ble_eq_true rfl, Nat.le_of_ble_eq_true rfl, Nat.le_of_ble_eq_true rfl, Nat.le_of_ble_eq_true rfl, Nat.le_of_ble_eq_true rfl⟩ (fun v16 H16 L16 S16 K16 q16 => ?_)
      refine lv_if_eq (tgt := 29) hx hb dX12_log_24 (by decide) (fun c17 => ?_) (fun c17 => ?_)
      · have b17 : v16.toInt = (0 : Int32).toInt := i_eq.mp c17
        exact absurd b17 (by omega)
      · have b17 : ¬ v16.toInt = (0 : Int32).toInt := fun z9 => c17 (i_eq.mpr z9)
        refine lv_iconst (v := 0) hx hb dX12_log_27 (by decide) ?_
        exact retE_i hQ C S16 hr dX12_log_28 (trivial)

set_option maxRecDepth 100000 in
set_option maxHeartbeats 4000000 in
theorem c_X12_seed (l : Launch) (D : DD) (G : Nat → Nat) (a0 : Nat) (x1 : Int32) (ga0 : G a0 = 30) : CE l D G yX12_seed cX12_seed 3 (some .int) 0 [.ref a0, .int x1] (fun _ => True) [(30, 0), (31, 0)] (xI (fun H r H1 => True)) := by
  refine enter (by decide) (Nat.le_of_ble_eq_true rfl) ?_
  intro p e s m args below meth c ls Q hA hQ C hr hO hpre hl
  have hx := C.1
  have hb := C.2.1
  have S : Sd D G [(30, 0), (31, 0)] s.heap s.heap [] := Sd.start hO
  have hl : lv_has ls 3 [(0, .ref a0), (1, .int x1)] := hl
  refine lv_aload_n hx hb dX12_seed_0 rfl (lv_at hl 0 rfl) ?_
  refine lv_iconst (v := 0) hx hb dX12_seed_1 (by decide) ?_
  have k_0 : (0 : Int32).toInt = 0 := by decide
  refine q_put (T := TX12) C S ga0 0 kF_X12_3 dX12_seed_2 rfl rfl (by decide) (by decide) rfl rfl rfl rfl rfl (vok_a rfl) (by decide +kernel) (fun H1 L1 S1 P1 => ?_)
  refine lv_aload_n hx hb dX12_seed_5 rfl (lv_at hl 0 rfl) ?_
  refine q_gr (T := TX12) C S1.1 ga0 1 kF_X12_13 dX12_seed_6 rfl rfl (by decide) rfl (by decide) rfl (fun g2 => ?_)
  refine lv_bipush (v := 11) hx hb dX12_seed_9 (by decide) ?_
  have n3 : aN H1 (fR D H1 11 a0 1) = 2052 := len_31 S1.1 g2
  have k_11 : (11 : Int32).toInt = 11 := by decide
  refine q_iald C S1.1 g2 (by omega) (by omega) dX12_seed_11 rfl (by decide) ?_
  refine lv_topi (fun v4 ev4 => ?_)
  refine lv_istore_n (lv' := [(2, .int v4), (0, .ref a0), (1, .int x1)]) hx hb dX12_seed_12 rfl hl (by decide) rfl (fun ls hl => ?_)
  refine lv_aload_n hx hb dX12_seed_13 rfl (lv_at hl 1 rfl) ?_
  refine q_gr (T := TX12) C S1.1 ga0 1 kF_X12_13 dX12_seed_14 rfl rfl (by decide) rfl (by decide) rfl (fun g5 => ?_)
  refine lv_bipush (v := 11) hx hb dX12_seed_17 (by decide) ?_
  refine lv_iload_n hx hb dX12_seed_19 rfl (lv_at hl 2 rfl) ?_
  refine q_iast C S1 g5 (by omega) (by omega) dX12_seed_20 rfl (by decide) (by decide +kernel) (fun _ _ h => wk_low _ _ (by omega) (fun h9 => by omega) (fun h9 => by omega) (fun h9 => by omega) (fun j hj h9 => by omega) h) (fun H6 L6 S6 P6 => ?_) (hs := fun _ => Or.inr (vy_no (by omega) (by omega) (by omega) (by omega) (fun h9 hh9 => by omega) (fun j9 hj9 => by omega)))
  refine lv_iload_n hx hb dX12_seed_21 rfl (lv_at hl 0 rfl) ?_
  exact retE_i hQ C S6 hr dX12_seed_22 (trivial)

set_option maxRecDepth 100000 in
set_option maxHeartbeats 4000000 in
theorem c_X12_count (l : Launch) (D : DD) (G : Nat → Nat) (a0 : Nat) (x1 : Int32) (ga0 : G a0 = 30) : CE l D G yX12_count cX12_count 2 (some .int) 3 [.ref a0, .int x1] (fun _ => True) [(30, 0)] (xI (fun H r H1 => True)) := by
  refine enter (by decide) (Nat.le_of_ble_eq_true rfl) ?_
  intro p e s m args below meth c ls Q hA hQ C hr hO hpre hl
  have hx := C.1
  have hb := C.2.1
  have S : Sd D G [(30, 0)] s.heap s.heap [] := Sd.start hO
  have hl : lv_has ls 2 [(0, .ref a0), (1, .int x1)] := hl
  refine lv_aload_n hx hb dX12_count_0 rfl (lv_at hl 0 rfl) ?_
  refine lv_iconst (v := 0) hx hb dX12_count_1 (by decide) ?_
  have k_0 : (0 : Int32).toInt = 0 := by decide
  refine q_put (T := TX12) C S ga0 0 kF_X12_3 dX12_count_2 rfl rfl (by decide) (by decide) rfl rfl rfl rfl rfl (vok_a rfl) (by decide +kernel) (fun H1 L1 S1 P1 => ?_)
  refine lv_iload_n hx hb dX12_count_5 rfl (lv_at hl 1 rfl) ?_
  by_cases w2 : x1.toInt = (3)
  · refine lv_tableIn (tgt := 68) (off := 62) hx hb dX12_count_6 (by omega) (by omega) (by rw [w2]; rfl) (by decide) ?_
    refine lv_aload_n hx hb dX12_count_68 rfl (lv_at hl 0 rfl) ?_
    refine q_gr (T := TX12) C S1.1 ga0 1 kF_X12_13 dX12_count_69 rfl rfl (by decide) rfl (by decide) rfl (fun g3 => ?_)
    refine lv_iconst (v := 3) hx hb dX12_count_72 (by decide) ?_
    have n4 : aN H1 (fR D H1 11 a0 1) = 2052 := len_31 S1.1 g3
    have k_3 : (3 : Int32).toInt = 3 := by decide
    refine q_iald C S1.1 g3 (by omega) (by omega) dX12_count_73 rfl (by decide) ?_
    refine lv_topi (fun v5 ev5 => ?_)
    refine lv_iconst (v := 1) hx hb dX12_count_74 (by decide) ?_
    have k_1 : (1 : Int32).toInt = 1 := by decide
    refine lv_icmp_ne (tgt := 89) hx hb dX12_count_75 (by decide) (fun c6 => ?_) (fun c6 => ?_)
    · have b6 : ¬ v5.toInt = (1 : Int32).toInt := fun z9 => c6 (i_eq.mpr z9)
      refine lv_iconst (v := -1) hx hb dX12_count_89 (by decide) ?_
      have k_m1 : (-1 : Int32).toInt = -1 := by decide
      exact retE_i hQ C S1 hr dX12_count_90 (trivial)
    · have b6 : v5.toInt = (1 : Int32).toInt := i_eq.mp c6
      refine lv_aload_n hx hb dX12_count_78 rfl (lv_at hl 0 rfl) ?_
      refine q_gr (T := TX12) C S1.1 ga0 1 kF_X12_13 dX12_count_79 rfl rfl (by decide) rfl (by decide) rfl (fun g7 => ?_)
      refine lv_sipush (v := 354) hx hb dX12_count_82 (by decide) ?_
      have k_354 : (354 : Int32).toInt = 354 := by decide
      refine q_iald C S1.1 g7 (by omega) (by omega) dX12_count_85 rfl (by decide) ?_
      refine lv_topi (fun v8 ev8 => ?_)
      have wv8 : 0 ≤ v8.toInt ∧ v8.toInt ≤ 12 := by rw [ev8]; exact wl_354 S1.1 g7
      refine lv_goto (tgt := 90) hx hb dX12_count_86 (by decide) ?_
      exact retE_i hQ C S1 hr dX12_count_90 (trivial)
  by_cases w9 : x1.toInt = (4)
  · refine lv_tableIn (tgt := 121) (off := 115) hx hb dX12_count_6 (by omega) (by omega) (by rw [w9]; rfl) (by decide) ?_
    refine lv_iload_n hx hb dX12_count_121 rfl (lv_at hl 1 rfl) ?_
    refine lv_iconst (v := 0) hx hb dX12_count_122 (by decide) ?_
    refine lv_bipush (v := 9) hx hb dX12_count_123 (by decide) ?_
    have k_9 : (9 : Int32).toInt = 9 := by decide
    refine callS_Pi C S1.1 S1.2.1.2.1 (c_X12_in l D G x1 (0 : Int32) (9 : Int32)) kS_X12_63 (trivial) dX12_count_125 hl.1 cd_X12_in ⟨Nat.le_of_ble_eq_true rfl, Nat.le_of_ble_eq_true rfl, Nat.le_of_ble_eq_true rfl, Nat.le_of_ble_eq_true rfl, Nat.le_of_ble_eq_true rfl⟩ (fun v10 q10 => ?_)
    rcases q10 with q10 | q10
    · skip
      refine lv_if_eq (tgt := 140) hx hb dX12_count_128 (by decide) (fun c11 => ?_) (fun c11 => ?_)
      · have b11 : v10.toInt = (0 : Int32).toInt := i_eq.mp c11
        exact absurd b11 (by omega)
      · have b11 : ¬ v10.toInt = (0 : Int32).toInt := fun z9 => c11 (i_eq.mpr z9)
        refine lv_aload_n hx hb dX12_count_131 rfl (lv_at hl 0 rfl) ?_
        refine q_gr (T := TX12) C S1.1 ga0 1 kF_X12_13 dX12_count_132 rfl rfl (by decide) rfl (by decide) rfl (fun g12 => ?_)
        refine lv_iload_n hx hb dX12_count_135 rfl (lv_at hl 1 rfl) ?_
        have n13 : aN H1 (fR D H1 11 a0 1) = 2052 := len_31 S1.1 g12
        refine q_iald C S1.1 g12 (by omega) (by omega) dX12_count_136 rfl (by decide) ?_
        refine lv_topi (fun v14 ev14 => ?_)
        refine lv_goto (tgt := 141) hx hb dX12_count_137 (by decide) ?_
        exact retE_i hQ C S1 hr dX12_count_141 (trivial)
    · skip
      refine lv_if_eq (tgt := 140) hx hb dX12_count_128 (by decide) (fun c15 => ?_) (fun c15 => ?_)
      · have b15 : v10.toInt = (0 : Int32).toInt := i_eq.mp c15
        refine lv_iconst (v := -1) hx hb dX12_count_140 (by decide) ?_
        have k_m1 : (-1 : Int32).toInt = -1 := by decide
        exact retE_i hQ C S1 hr dX12_count_141 (trivial)
      · have b15 : ¬ v10.toInt = (0 : Int32).toInt := fun z9 => c15 (i_eq.mpr z9)
        exact absurd b15 (by omega)
  by_cases w16 : x1.toInt = (5)
  · refine lv_tableIn (tgt := 121) (off := 115) hx hb dX12_count_6 (by omega) (by omega) (by rw [w16]; rfl) (by decide) ?_
    refine lv_iload_n hx hb dX12_count_121 rfl (lv_at hl 1 rfl) ?_
    refine lv_iconst (v := 0) hx hb dX12_count_122 (by decide) ?_
    refine lv_bipush (v := 9) hx hb dX12_count_123 (by decide) ?_
    have k_9 : (9 : Int32).toInt = 9 := by decide
    refine callS_Pi C S1.1 S1.2.1.2.1 (c_X12_in l D G x1 (0 : Int32) (9 : Int32)) kS_X12_63 (trivial) dX12_count_125 hl.1 cd_X12_in ⟨Nat.le_of_ble_eq_true rfl, Nat.le_of_ble_eq_true rfl, Nat.le_of_ble_eq_true rfl, Nat.le_of_ble_eq_true rfl, Nat.le_of_ble_eq_true rfl⟩ (fun v17 q17 => ?_)
    rcases q17 with q17 | q17
    · skip
      refine lv_if_eq (tgt := 140) hx hb dX12_count_128 (by decide) (fun c18 => ?_) (fun c18 => ?_)
      · have b18 : v17.toInt = (0 : Int32).toInt := i_eq.mp c18
        exact absurd b18 (by omega)
      · have b18 : ¬ v17.toInt = (0 : Int32).toInt := fun z9 => c18 (i_eq.mpr z9)
        refine lv_aload_n hx hb dX12_count_131 rfl (lv_at hl 0 rfl) ?_
        refine q_gr (T := TX12) C S1.1 ga0 1 kF_X12_13 dX12_count_132 rfl rfl (by decide) rfl (by decide) rfl (fun g19 => ?_)
        refine lv_iload_n hx hb dX12_count_135 rfl (lv_at hl 1 rfl) ?_
        have n20 : aN H1 (fR D H1 11 a0 1) = 2052 := len_31 S1.1 g19
        refine q_iald C S1.1 g19 (by omega) (by omega) dX12_count_136 rfl (by decide) ?_
        refine lv_topi (fun v21 ev21 => ?_)
        refine lv_goto (tgt := 141) hx hb dX12_count_137 (by decide) ?_
        exact retE_i hQ C S1 hr dX12_count_141 (trivial)
    · skip
      refine lv_if_eq (tgt := 140) hx hb dX12_count_128 (by decide) (fun c22 => ?_) (fun c22 => ?_)
      · have b22 : v17.toInt = (0 : Int32).toInt := i_eq.mp c22
        refine lv_iconst (v := -1) hx hb dX12_count_140 (by decide) ?_
        have k_m1 : (-1 : Int32).toInt = -1 := by decide
        exact retE_i hQ C S1 hr dX12_count_141 (trivial)
      · have b22 : ¬ v17.toInt = (0 : Int32).toInt := fun z9 => c22 (i_eq.mpr z9)
        exact absurd b22 (by omega)
  by_cases w23 : x1.toInt = (6)
  · refine lv_tableIn (tgt := 121) (off := 115) hx hb dX12_count_6 (by omega) (by omega) (by rw [w23]; rfl) (by decide) ?_
    refine lv_iload_n hx hb dX12_count_121 rfl (lv_at hl 1 rfl) ?_
    refine lv_iconst (v := 0) hx hb dX12_count_122 (by decide) ?_
    refine lv_bipush (v := 9) hx hb dX12_count_123 (by decide) ?_
    have k_9 : (9 : Int32).toInt = 9 := by decide
    refine callS_Pi C S1.1 S1.2.1.2.1 (c_X12_in l D G x1 (0 : Int32) (9 : Int32)) kS_X12_63 (trivial) dX12_count_125 hl.1 cd_X12_in ⟨Nat.le_of_ble_eq_true rfl, Nat.le_of_ble_eq_true rfl, Nat.le_of_ble_eq_true rfl, Nat.le_of_ble_eq_true rfl, Nat.le_of_ble_eq_true rfl⟩ (fun v24 q24 => ?_)
    rcases q24 with q24 | q24
    · skip
      refine lv_if_eq (tgt := 140) hx hb dX12_count_128 (by decide) (fun c25 => ?_) (fun c25 => ?_)
      · have b25 : v24.toInt = (0 : Int32).toInt := i_eq.mp c25
        exact absurd b25 (by omega)
      · have b25 : ¬ v24.toInt = (0 : Int32).toInt := fun z9 => c25 (i_eq.mpr z9)
        refine lv_aload_n hx hb dX12_count_131 rfl (lv_at hl 0 rfl) ?_
        refine q_gr (T := TX12) C S1.1 ga0 1 kF_X12_13 dX12_count_132 rfl rfl (by decide) rfl (by decide) rfl (fun g26 => ?_)
        refine lv_iload_n hx hb dX12_count_135 rfl (lv_at hl 1 rfl) ?_
        have n27 : aN H1 (fR D H1 11 a0 1) = 2052 := len_31 S1.1 g26
        refine q_iald C S1.1 g26 (by omega) (by omega) dX12_count_136 rfl (by decide) ?_
        refine lv_topi (fun v28 ev28 => ?_)
        refine lv_goto (tgt := 141) hx hb dX12_count_137 (by decide) ?_
        exact retE_i hQ C S1 hr dX12_count_141 (trivial)
    · skip
      refine lv_if_eq (tgt := 140) hx hb dX12_count_128 (by decide) (fun c29 => ?_) (fun c29 => ?_)
      · have b29 : v24.toInt = (0 : Int32).toInt := i_eq.mp c29
        refine lv_iconst (v := -1) hx hb dX12_count_140 (by decide) ?_
        have k_m1 : (-1 : Int32).toInt = -1 := by decide
        exact retE_i hQ C S1 hr dX12_count_141 (trivial)
      · have b29 : ¬ v24.toInt = (0 : Int32).toInt := fun z9 => c29 (i_eq.mpr z9)
        exact absurd b29 (by omega)
  by_cases w30 : x1.toInt = (7)
  · refine lv_tableIn (tgt := 121) (off := 115) hx hb dX12_count_6 (by omega) (by omega) (by rw [w30]; rfl) (by decide) ?_
    refine lv_iload_n hx hb dX12_count_121 rfl (lv_at hl 1 rfl) ?_
    refine lv_iconst (v := 0) hx hb dX12_count_122 (by decide) ?_
    refine lv_bipush (v := 9) hx hb dX12_count_123 (by decide) ?_
    have k_9 : (9 : Int32).toInt = 9 := by decide
    refine callS_Pi C S1.1 S1.2.1.2.1 (c_X12_in l D G x1 (0 : Int32) (9 : Int32)) kS_X12_63 (trivial) dX12_count_125 hl.1 cd_X12_in ⟨Nat.le_of_ble_eq_true rfl, Nat.le_of_ble_eq_true rfl, Nat.le_of_ble_eq_true rfl, Nat.le_of_ble_eq_true rfl, Nat.le_of_ble_eq_true rfl⟩ (fun v31 q31 => ?_)
    rcases q31 with q31 | q31
    · skip
      refine lv_if_eq (tgt := 140) hx hb dX12_count_128 (by decide) (fun c32 => ?_) (fun c32 => ?_)
      · have b32 : v31.toInt = (0 : Int32).toInt := i_eq.mp c32
        exact absurd b32 (by omega)
      · have b32 : ¬ v31.toInt = (0 : Int32).toInt := fun z9 => c32 (i_eq.mpr z9)
        refine lv_aload_n hx hb dX12_count_131 rfl (lv_at hl 0 rfl) ?_
        refine q_gr (T := TX12) C S1.1 ga0 1 kF_X12_13 dX12_count_132 rfl rfl (by decide) rfl (by decide) rfl (fun g33 => ?_)
        refine lv_iload_n hx hb dX12_count_135 rfl (lv_at hl 1 rfl) ?_
        have n34 : aN H1 (fR D H1 11 a0 1) = 2052 := len_31 S1.1 g33
        refine q_iald C S1.1 g33 (by omega) (by omega) dX12_count_136 rfl (by decide) ?_
        refine lv_topi (fun v35 ev35 => ?_)
        refine lv_goto (tgt := 141) hx hb dX12_count_137 (by decide) ?_
        exact retE_i hQ C S1 hr dX12_count_141 (trivial)
    · skip
      refine lv_if_eq (tgt := 140) hx hb dX12_count_128 (by decide) (fun c36 => ?_) (fun c36 => ?_)
      · have b36 : v31.toInt = (0 : Int32).toInt := i_eq.mp c36
        refine lv_iconst (v := -1) hx hb dX12_count_140 (by decide) ?_
        have k_m1 : (-1 : Int32).toInt = -1 := by decide
        exact retE_i hQ C S1 hr dX12_count_141 (trivial)
      · have b36 : ¬ v31.toInt = (0 : Int32).toInt := fun z9 => c36 (i_eq.mpr z9)
        exact absurd b36 (by omega)
  by_cases w37 : x1.toInt = (8)
  · refine lv_tableIn (tgt := 121) (off := 115) hx hb dX12_count_6 (by omega) (by omega) (by rw [w37]; rfl) (by decide) ?_
    refine lv_iload_n hx hb dX12_count_121 rfl (lv_at hl 1 rfl) ?_
    refine lv_iconst (v := 0) hx hb dX12_count_122 (by decide) ?_
    refine lv_bipush (v := 9) hx hb dX12_count_123 (by decide) ?_
    have k_9 : (9 : Int32).toInt = 9 := by decide
    refine callS_Pi C S1.1 S1.2.1.2.1 (c_X12_in l D G x1 (0 : Int32) (9 : Int32)) kS_X12_63 (trivial) dX12_count_125 hl.1 cd_X12_in ⟨Nat.le_of_ble_eq_true rfl, Nat.le_of_ble_eq_true rfl, Nat.le_of_ble_eq_true rfl, Nat.le_of_ble_eq_true rfl, Nat.le_of_ble_eq_true rfl⟩ (fun v38 q38 => ?_)
    rcases q38 with q38 | q38
    · skip
      refine lv_if_eq (tgt := 140) hx hb dX12_count_128 (by decide) (fun c39 => ?_) (fun c39 => ?_)
      · have b39 : v38.toInt = (0 : Int32).toInt := i_eq.mp c39
        exact absurd b39 (by omega)
      · have b39 : ¬ v38.toInt = (0 : Int32).toInt := fun z9 => c39 (i_eq.mpr z9)
        refine lv_aload_n hx hb dX12_count_131 rfl (lv_at hl 0 rfl) ?_
        refine q_gr (T := TX12) C S1.1 ga0 1 kF_X12_13 dX12_count_132 rfl rfl (by decide) rfl (by decide) rfl (fun g40 => ?_)
        refine lv_iload_n hx hb dX12_count_135 rfl (lv_at hl 1 rfl) ?_
        have n41 : aN H1 (fR D H1 11 a0 1) = 2052 := len_31 S1.1 g40
        refine q_iald C S1.1 g40 (by omega) (by omega) dX12_count_136 rfl (by decide) ?_
        refine lv_topi (fun v42 ev42 => ?_)
        refine lv_goto (tgt := 141) hx hb dX12_count_137 (by decide) ?_
        exact retE_i hQ C S1 hr dX12_count_141 (trivial)
    · skip
      refine lv_if_eq (tgt := 140) hx hb dX12_count_128 (by decide) (fun c43 => ?_) (fun c43 => ?_)
      · have b43 : v38.toInt = (0 : Int32).toInt := i_eq.mp c43
        refine lv_iconst (v := -1) hx hb dX12_count_140 (by decide) ?_
        have k_m1 : (-1 : Int32).toInt = -1 := by decide
        exact retE_i hQ C S1 hr dX12_count_141 (trivial)
      · have b43 : ¬ v38.toInt = (0 : Int32).toInt := fun z9 => c43 (i_eq.mpr z9)
        exact absurd b43 (by omega)
  by_cases w44 : x1.toInt = (9)
  · refine lv_tableIn (tgt := 121) (off := 115) hx hb dX12_count_6 (by omega) (by omega) (by rw [w44]; rfl) (by decide) ?_
    refine lv_iload_n hx hb dX12_count_121 rfl (lv_at hl 1 rfl) ?_
    refine lv_iconst (v := 0) hx hb dX12_count_122 (by decide) ?_
    refine lv_bipush (v := 9) hx hb dX12_count_123 (by decide) ?_
    have k_9 : (9 : Int32).toInt = 9 := by decide
    refine callS_Pi C S1.1 S1.2.1.2.1 (c_X12_in l D G x1 (0 : Int32) (9 : Int32)) kS_X12_63 (trivial) dX12_count_125 hl.1 cd_X12_in ⟨Nat.le_of_ble_eq_true rfl, Nat.le_of_ble_eq_true rfl, Nat.le_of_ble_eq_true rfl, Nat.le_of_ble_eq_true rfl, Nat.le_of_ble_eq_true rfl⟩ (fun v45 q45 => ?_)
    rcases q45 with q45 | q45
    · skip
      refine lv_if_eq (tgt := 140) hx hb dX12_count_128 (by decide) (fun c46 => ?_) (fun c46 => ?_)
      · have b46 : v45.toInt = (0 : Int32).toInt := i_eq.mp c46
        exact absurd b46 (by omega)
      · have b46 : ¬ v45.toInt = (0 : Int32).toInt := fun z9 => c46 (i_eq.mpr z9)
        refine lv_aload_n hx hb dX12_count_131 rfl (lv_at hl 0 rfl) ?_
        refine q_gr (T := TX12) C S1.1 ga0 1 kF_X12_13 dX12_count_132 rfl rfl (by decide) rfl (by decide) rfl (fun g47 => ?_)
        refine lv_iload_n hx hb dX12_count_135 rfl (lv_at hl 1 rfl) ?_
        have n48 : aN H1 (fR D H1 11 a0 1) = 2052 := len_31 S1.1 g47
        refine q_iald C S1.1 g47 (by omega) (by omega) dX12_count_136 rfl (by decide) ?_
        refine lv_topi (fun v49 ev49 => ?_)
        refine lv_goto (tgt := 141) hx hb dX12_count_137 (by decide) ?_
        exact retE_i hQ C S1 hr dX12_count_141 (trivial)
    · skip
      refine lv_if_eq (tgt := 140) hx hb dX12_count_128 (by decide) (fun c50 => ?_) (fun c50 => ?_)
      · have b50 : v45.toInt = (0 : Int32).toInt := i_eq.mp c50
        refine lv_iconst (v := -1) hx hb dX12_count_140 (by decide) ?_
        have k_m1 : (-1 : Int32).toInt = -1 := by decide
        exact retE_i hQ C S1 hr dX12_count_141 (trivial)
      · have b50 : ¬ v45.toInt = (0 : Int32).toInt := fun z9 => c50 (i_eq.mpr z9)
        exact absurd b50 (by omega)
  by_cases w51 : x1.toInt = (10)
  · refine lv_tableIn (tgt := 91) (off := 85) hx hb dX12_count_6 (by omega) (by omega) (by rw [w51]; rfl) (by decide) ?_
    refine lv_aload_n hx hb dX12_count_91 rfl (lv_at hl 0 rfl) ?_
    refine lv_iconst (v := 0) hx hb dX12_count_92 (by decide) ?_
    refine callV_Pi C S1.1 S1.2.1.2.1 (c_X12_ofState l D G a0 (0 : Int32) ga0) kV_X12_249 ga0 (trivial) dX12_count_93 hl.1 rfl rfl (by decide) cd_X12_ofState ⟨Nat.le_of_ble_eq_true rfl, Nat.le_of_ble_eq_true rfl, Nat.le_of_ble_eq_true rfl, Nat.le_of_ble_eq_true rfl, Nat.le_of_ble_eq_true rfl⟩ (fun v52 q52 => ?_)
    exact retE_i hQ C S1 hr dX12_count_96 (trivial)
  by_cases w53 : x1.toInt = (11)
  · refine lv_tableIn (tgt := 97) (off := 91) hx hb dX12_count_6 (by omega) (by omega) (by rw [w53]; rfl) (by decide) ?_
    refine lv_aload_n hx hb dX12_count_97 rfl (lv_at hl 0 rfl) ?_
    refine lv_iconst (v := 1) hx hb dX12_count_98 (by decide) ?_
    have k_1 : (1 : Int32).toInt = 1 := by decide
    refine callV_Pi C S1.1 S1.2.1.2.1 (c_X12_ofState l D G a0 (1 : Int32) ga0) kV_X12_249 ga0 (trivial) dX12_count_99 hl.1 rfl rfl (by decide) cd_X12_ofState ⟨Nat.le_of_ble_eq_true rfl, Nat.le_of_ble_eq_true rfl, Nat.le_of_ble_eq_true rfl, Nat.le_of_ble_eq_true rfl, Nat.le_of_ble_eq_true rfl⟩ (fun v54 q54 => ?_)
    exact retE_i hQ C S1 hr dX12_count_102 (trivial)
  by_cases w55 : x1.toInt = (12)
  · refine lv_tableIn (tgt := 103) (off := 97) hx hb dX12_count_6 (by omega) (by omega) (by rw [w55]; rfl) (by decide) ?_
    refine lv_aload_n hx hb dX12_count_103 rfl (lv_at hl 0 rfl) ?_
    refine callV_Pi C S1.1 S1.2.1.2.1 (c_X12_pursesOfAll l D G a0 ga0) kV_X12_409 ga0 (trivial) dX12_count_104 hl.1 rfl rfl (by decide) cd_X12_pursesOfAll ⟨Nat.le_of_ble_eq_true rfl, Nat.le_of_ble_eq_true rfl, Nat.le_of_ble_eq_true rfl, Nat.le_of_ble_eq_true rfl, Nat.le_of_ble_eq_true rfl⟩ (fun v56 q56 => ?_)
    exact retE_i hQ C S1 hr dX12_count_107 (trivial)
  by_cases w57 : x1.toInt = (13)
  · refine lv_tableIn (tgt := 108) (off := 102) hx hb dX12_count_6 (by omega) (by omega) (by rw [w57]; rfl) (by decide) ?_
    refine lv_aload_n hx hb dX12_count_108 rfl (lv_at hl 0 rfl) ?_
    refine q_gr (T := TX12) C S1.1 ga0 1 kF_X12_13 dX12_count_109 rfl rfl (by decide) rfl (by decide) rfl (fun g58 => ?_)
    refine lv_bipush (v := 10) hx hb dX12_count_112 (by decide) ?_
    have n59 : aN H1 (fR D H1 11 a0 1) = 2052 := len_31 S1.1 g58
    have k_10 : (10 : Int32).toInt = 10 := by decide
    refine q_iald C S1.1 g58 (by omega) (by omega) dX12_count_114 rfl (by decide) ?_
    refine lv_topi (fun v60 ev60 => ?_)
    have wv60 : 0 ≤ v60.toInt ∧ v60.toInt ≤ 60 := by rw [ev60]; exact wl_10 S1.1 g58
    exact retE_i hQ C S1 hr dX12_count_115 (trivial)
  by_cases w61 : x1.toInt = (14)
  · refine lv_tableIn (tgt := 116) (off := 110) hx hb dX12_count_6 (by omega) (by omega) (by rw [w61]; rfl) (by decide) ?_
    refine lv_aload_n hx hb dX12_count_116 rfl (lv_at hl 0 rfl) ?_
    refine q_gi (T := TX12) C S1.1 ga0 7 kF_X12_46 dX12_count_117 rfl rfl (by decide) rfl (by decide) rfl ?_
    have r62 : 0 ≤ (fI D H1 11 a0 7).toInt ∧ (fI D H1 11 a0 7).toInt ≤ 12 := S1.1.rng ga0 rfl (by decide) rfl
    exact retE_i hQ C S1 hr dX12_count_120 (trivial)
  refine lv_tableOut (tgt := 121) hx hb dX12_count_6 (by omega) (by decide) ?_
  refine lv_iload_n hx hb dX12_count_121 rfl (lv_at hl 1 rfl) ?_
  refine lv_iconst (v := 0) hx hb dX12_count_122 (by decide) ?_
  refine lv_bipush (v := 9) hx hb dX12_count_123 (by decide) ?_
  have k_9 : (9 : Int32).toInt = 9 := by decide
  refine callS_Pi C S1.1 S1.2.1.2.1 (c_X12_in l D G x1 (0 : Int32) (9 : Int32)) kS_X12_63 (trivial) dX12_count_125 hl.1 cd_X12_in ⟨Nat.le_of_ble_eq_true rfl, Nat.le_of_ble_eq_true rfl, Nat.le_of_ble_eq_true rfl, Nat.le_of_ble_eq_true rfl, Nat.le_of_ble_eq_true rfl⟩ (fun v63 q63 => ?_)
  rcases q63 with q63 | q63
  · skip
    refine lv_if_eq (tgt := 140) hx hb dX12_count_128 (by decide) (fun c64 => ?_) (fun c64 => ?_)
    · have b64 : v63.toInt = (0 : Int32).toInt := i_eq.mp c64
      exact absurd b64 (by omega)
    · have b64 : ¬ v63.toInt = (0 : Int32).toInt := fun z9 => c64 (i_eq.mpr z9)
      refine lv_aload_n hx hb dX12_count_131 rfl (lv_at hl 0 rfl) ?_
      refine q_gr (T := TX12) C S1.1 ga0 1 kF_X12_13 dX12_count_132 rfl rfl (by decide) rfl (by decide) rfl (fun g65 => ?_)
      refine lv_iload_n hx hb dX12_count_135 rfl (lv_at hl 1 rfl) ?_
      have n66 : aN H1 (fR D H1 11 a0 1) = 2052 := len_31 S1.1 g65
      refine q_iald C S1.1 g65 (by omega) (by omega) dX12_count_136 rfl (by decide) ?_
      refine lv_topi (fun v67 ev67 => ?_)
      refine lv_goto (tgt := 141) hx hb dX12_count_137 (by decide) ?_
      exact retE_i hQ C S1 hr dX12_count_141 (trivial)
  · skip
    refine lv_if_eq (tgt := 140) hx hb dX12_count_128 (by decide) (fun c68 => ?_) (fun c68 => ?_)
    · have b68 : v63.toInt = (0 : Int32).toInt := i_eq.mp c68
      refine lv_iconst (v := -1) hx hb dX12_count_140 (by decide) ?_
      have k_m1 : (-1 : Int32).toInt = -1 := by decide
      exact retE_i hQ C S1 hr dX12_count_141 (trivial)
    · have b68 : ¬ v63.toInt = (0 : Int32).toInt := fun z9 => c68 (i_eq.mpr z9)
      exact absurd b68 (by omega)

set_option maxRecDepth 100000 in
set_option maxHeartbeats 4000000 in
theorem c_X12_fault (l : Launch) (D : DD) (G : Nat → Nat) (a0 : Nat) (ga0 : G a0 = 30) : CE l D G yX12_fault cX12_fault 1 (some .int) 0 [.ref a0] (fun _ => True) [(30, 0)] (xI (fun H r H1 => r.toInt = (fI D H1 11 a0 14).toInt)) := by
  refine enter (by decide) (Nat.le_of_ble_eq_true rfl) ?_
  intro p e s m args below meth c ls Q hA hQ C hr hO hpre hl
  have hx := C.1
  have hb := C.2.1
  have S : Sd D G [(30, 0)] s.heap s.heap [] := Sd.start hO
  have hl : lv_has ls 1 [(0, .ref a0)] := hl
  refine lv_aload_n hx hb dX12_fault_0 rfl (lv_at hl 0 rfl) ?_
  refine lv_iconst (v := 0) hx hb dX12_fault_1 (by decide) ?_
  have k_0 : (0 : Int32).toInt = 0 := by decide
  refine q_put (T := TX12) C S ga0 0 kF_X12_3 dX12_fault_2 rfl rfl (by decide) (by decide) rfl rfl rfl rfl rfl (vok_a rfl) (by decide +kernel) (fun H1 L1 S1 P1 => ?_)
  refine lv_aload_n hx hb dX12_fault_5 rfl (lv_at hl 0 rfl) ?_
  refine q_gi (T := TX12) C S1.1 ga0 14 kF_X12_33 dX12_fault_6 rfl rfl (by decide) rfl (by decide) rfl ?_
  exact retE_i hQ C S1 hr dX12_fault_9 (rfl)
