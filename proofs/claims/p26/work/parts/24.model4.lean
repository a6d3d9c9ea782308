set_option maxRecDepth 100000 in
set_option maxHeartbeats 4000000 in
theorem c_X12_tells (l : Launch) (D : DD) (G : Nat → Nat) (a0 : Nat) (x1 : Int32) (ga0 : G a0 = 30) (ix1 : 0 ≤ x1.toInt ∧ x1.toInt ≤ 11) : CE l D G yX12_tells cX12_tells 3 none 9 [.ref a0, .int x1] (fun _ => True) [(31, 0), (38, 0)] (xV (fun H H1 => True)) := by
  refine enter (by decide) (Nat.le_of_ble_eq_true rfl) ?_
  intro p e s m args below meth c ls Q hA hQ C hr hO hpre hl
  have hx := C.1
  have hb := C.2.1
  have S : Sd D G [(31, 0), (38, 0)] s.heap s.heap [] := Sd.start hO
  have hl : lv_has ls 3 [(0, .ref a0), (1, .int x1)] := hl
  refine lv_sipush (v := 239) hx hb dX12_tells_0 (by decide) ?_
  refine lv_istore_n (lv' := [(2, .int (239 : Int32)), (0, .ref a0), (1, .int x1)]) hx hb dX12_tells_3 rfl hl (by decide) rfl (fun ls hl => ?_)
  have Lp4 : ∀ (n : Nat) (x2_4 : Int32) (H_4 : Heap) (L_4 : List Loc) (ls : Array Slot), (Sd D G [(31, 0), (38, 0)] s.heap H_4 L_4) → (3 ≤ x2_4.toInt ∧ x2_4.toInt ≤ 239) → x2_4.toInt - (2) ≤ (n : Int) → lv_has ls 3 [(2, .int x2_4), (0, .ref a0), (1, .int x1)] → W p l e (rmU 9 0 0) s m args below meth c H_4 L_4 0 0 Q (F0 m 4 ls []) := by
    intro n
    induction n with
    | zero =>
      intro x2_4 H_4 L_4 ls S_4 j4_0 hn hl
      exact absurd hn (by omega)
    | succ n ih4 =>
      intro x2_4 H_4 L_4 ls S_4 j4_0 hn hl
      refine lv_iload_n hx hb dX12_tells_4 rfl (lv_at hl 0 rfl) ?_
      refine lv_iconst (v := 4) hx hb dX12_tells_5 (by decide) ?_
      have k_4 : (4 : Int32).toInt = 4 := by decide
      refine lv_icmp_lt (tgt := 35) hx hb dX12_tells_6 (by decide) (fun c1 => ?_) (fun c1 => ?_)
      · have b1 : x2_4.toInt < (4 : Int32).toInt := i_lt.mp c1
        refine lv_aload_n hx hb dX12_tells_35 rfl (lv_at hl 1 rfl) ?_
        refine q_gr (T := TX12) C S_4.1 ga0 1 kF_X12_13 dX12_tells_36 rfl rfl (by decide) rfl (by decide) rfl (fun g2 => ?_)
        refine lv_bipush (v := 114) hx hb dX12_tells_39 (by decide) ?_
        refine lv_aload_n hx hb dX12_tells_41 rfl (lv_at hl 1 rfl) ?_
        refine q_gr (T := TX12) C S_4.1 ga0 1 kF_X12_13 dX12_tells_42 rfl rfl (by decide) rfl (by decide) rfl (fun g3 => ?_)
        refine lv_iconst (v := 4) hx hb dX12_tells_45 (by decide) ?_
        have n4 : aN H_4 (fR D H_4 11 a0 1) = 2052 := len_31 S_4.1 g3
        refine q_iald C S_4.1 g3 (by omega) (by omega) dX12_tells_46 rfl (by decide) ?_
        refine lv_topi (fun v5 ev5 => ?_)
        have k_114 : (114 : Int32).toInt = 114 := by decide
        refine q_iast C S_4 g2 (by omega) (by omega) dX12_tells_47 rfl (by decide) (by decide +kernel) (fun _ _ h => wk_low _ _ (by omega) (fun h9 => by omega) (fun h9 => by omega) (fun h9 => by omega) (fun j hj h9 => by omega) h) (fun H6 L6 S6 P6 => ?_) (hs := fun _ => Or.inr (vy_no (by omega) (by omega) (by omega) (by omega) (fun h9 hh9 => by omega) (fun j9 hj9 => by omega)))
        refine lv_aload_n hx hb dX12_tells_48 rfl (lv_at hl 1 rfl) ?_
        refine q_gr (T := TX12) C S6.1 ga0 1 kF_X12_13 dX12_tells_49 rfl rfl (by decide) rfl (by decide) rfl (fun g7 => ?_)
        refine lv_bipush (v := 115) hx hb dX12_tells_52 (by decide) ?_
        refine lv_iload_n hx hb dX12_tells_54 rfl (lv_at hl 2 rfl) ?_
        have n8 : aN H6 (fR D H6 11 a0 1) = 2052 := len_31 S6.1 g7
        have k_115 : (115 : Int32).toInt = 115 := by decide
        refine q_iast C S6 g7 (by omega) (by omega) dX12_tells_55 rfl (by decide) (by decide +kernel) (fun _ _ h => wk_low _ _ (by omega) (fun h9 => by omega) (fun h9 => by omega) (fun h9 => by omega) (fun j hj h9 => by omega) h) (fun H9 L9 S9 P9 => ?_) (hs := fun _ => Or.inr (vy_no (by omega) (by omega) (by omega) (by omega) (fun h9 hh9 => by omega) (fun j9 hj9 => by omega)))
        refine lv_aload_n hx hb dX12_tells_56 rfl (lv_at hl 1 rfl) ?_
        refine q_gr (T := TX12) C S9.1 ga0 1 kF_X12_13 dX12_tells_57 rfl rfl (by decide) rfl (by decide) rfl (fun g10 => ?_)
        refine lv_bipush (v := 116) hx hb dX12_tells_60 (by decide) ?_
        refine lv_aload_n hx hb dX12_tells_62 rfl (lv_at hl 1 rfl) ?_
        refine lv_iload_n hx hb dX12_tells_63 rfl (lv_at hl 2 rfl) ?_
        refine lv_iconst (v := 0) hx hb dX12_tells_64 (by decide) ?_
        have k_0 : (0 : Int32).toInt = 0 := by decide
        refine callV_Pi C S9.1 S9.2.1.2.1 (c_X12_ofHearth l D G a0 x1 (0 : Int32) ga0 (by omega) (by omega)) kV_X12_56 ga0 (trivial) dX12_tells_65 hl.1 rfl rfl (by decide) cd_X12_ofHearth ⟨Nat.le_of_ble_eq_true rfl, Nat.le_of_ble_eq_true rfl, Nat.le_of_ble_eq_true rfl, Nat.le_of_ble_eq_true rfl, Nat.le_of_ble_eq_true rfl⟩ (fun v11 q11 => ?_)
        have n12 : aN H9 (fR D H9 11 a0 1) = 2052 := len_31 S9.1 g10
        have k_116 : (116 : Int32).toInt = 116 := by decide
        refine q_iast C S9 g10 (by omega) (by omega) dX12_tells_68 rfl (by decide) (by decide +kernel) (fun _ _ h => wk_low _ _ (by omega) (fun h9 => by omega) (fun h9 => by omega) (fun h9 => by omega) (fun j hj h9 => by omega) h) (fun H13 L13 S13 P13 => ?_) (hs := fun _ => Or.inr (vy_no (by omega) (by omega) (by omega) (by omega) (fun h9 hh9 => by omega) (fun j9 hj9 => by omega)))
        refine lv_aload_n hx hb dX12_tells_69 rfl (lv_at hl 1 rfl) ?_
        refine q_gr (T := TX12) C S13.1 ga0 1 kF_X12_13 dX12_tells_70 rfl rfl (by decide) rfl (by decide) rfl (fun g14 => ?_)
        refine lv_bipush (v := 117) hx hb dX12_tells_73 (by decide) ?_
        refine lv_aload_n hx hb dX12_tells_75 rfl (lv_at hl 1 rfl) ?_
        refine lv_iload_n hx hb dX12_tells_76 rfl (lv_at hl 2 rfl) ?_
        refine callV_Ei C S13 (c_X12_taxOf l D G a0 x1 ga0 (by omega)) kV_X12_278 ga0 (trivial) (by decide +kernel) dX12_tells_77 hl.1 rfl rfl (by decide) cd_X12_taxOf ⟨Nat.le_of_ble_eq_true rfl, Nat.le_of_ble_eq_true rfl, Nat.le_of_ble_eq_true rfl, Nat.le_of_ble_eq_true rfl, Nat.le_of_ble_eq_true rfl⟩ (fun v15 H15 L15 S15 K15 q15 => ?_)
        have n16 : aN H15 (fR D H13 11 a0 1) = 2052 := len_31 S15.1 g14
        have k_117 : (117 : Int32).toInt = 117 := by decide
        refine q_iast C S15 g14 (by omega) (by omega) dX12_tells_80 rfl (by decide) (by decide +kernel) (fun _ _ h => wk_low _ _ (by omega) (fun h9 => by omega) (fun h9 => by omega) (fun h9 => by omega) (fun j hj h9 => by omega) h) (fun H17 L17 S17 P17 => ?_) (hs := fun _ => Or.inr (vy_no (by omega) (by omega) (by omega) (by omega) (fun h9 hh9 => by omega) (fun j9 hj9 => by omega)))
        refine lv_aload_n hx hb dX12_tells_81 rfl (lv_at hl 1 rfl) ?_
        refine q_gr (T := TX12) C S17.1 ga0 1 kF_X12_13 dX12_tells_82 rfl rfl (by decide) rfl (by decide) rfl (fun g18 => ?_)
        refine lv_bipush (v := 10) hx hb dX12_tells_85 (by decide) ?_
        refine lv_bipush (v := 60) hx hb dX12_tells_87 (by decide) ?_
        refine lv_aload_n hx hb dX12_tells_89 rfl (lv_at hl 1 rfl) ?_
        refine q_gr (T := TX12) C S17.1 ga0 1 kF_X12_13 dX12_tells_90 rfl rfl (by decide) rfl (by decide) rfl (fun g19 => ?_)
        refine lv_bipush (v := 10) hx hb dX12_tells_93 (by decide) ?_
        have n20 : aN H17 (fR D H17 11 a0 1) = 2052 := len_31 S17.1 g19
        have k_10 : (10 : Int32).toInt = 10 := by decide
        refine q_iald C S17.1 g19 (by omega) (by omega) dX12_tells_95 rfl (by decide) ?_
        refine lv_topi (fun v21 ev21 => ?_)
        have wv21 : 0 ≤ v21.toInt ∧ v21.toInt ≤ 60 := by rw [ev21]; exact wl_10 S17.1 g19
        refine lv_iconst (v := 1) hx hb dX12_tells_96 (by decide) ?_
        have k_1 : (1 : Int32).toInt = 1 := by decide
        refine lv_iadd hx hb dX12_tells_97 ?_
        refine lv_topi (fun v22 ev22 => ?_)
        have f23 : v22.toInt = v21.toInt + (1 : Int32).toInt := by rw [ev22]; exact i_add (by omega) (by omega)
        have k_60 : (60 : Int32).toInt = 60 := by decide
        refine q_min C kN_X12_270 dX12_tells_98 hl.1 ⟨Nat.le_of_ble_eq_true rfl, Nat.le_of_ble_eq_true rfl, Nat.le_of_ble_eq_true rfl, Nat.le_of_ble_eq_true rfl⟩ (fun v24 fv24 => ?_)
        refine q_iast C S17 g18 (by omega) (by omega) dX12_tells_101 rfl (by decide) (by decide +kernel) (fun _ _ h => wk_low _ _ (by omega) (fun h9 => by omega) (fun h9 => by omega) (fun h9 => by omega) (fun j hj h9 => by omega) h) (fun H25 L25 S25 P25 => ?_) (hs := fun _ => Or.inr (vy_no (by omega) (by omega) (by omega) (by omega) (fun h9 hh9 => by omega) (fun j9 hj9 => by omega)))
        exact retE_v hQ C S25 hr dX12_tells_102 (trivial)
      · have b1 : ¬ x2_4.toInt < (4 : Int32).toInt := fun z9 => c1 (i_lt.mpr z9)
        refine lv_aload_n hx hb dX12_tells_9 rfl (lv_at hl 1 rfl) ?_
        refine q_gr (T := TX12) C S_4.1 ga0 1 kF_X12_13 dX12_tells_10 rfl rfl (by decide) rfl (by decide) rfl (fun g26 => ?_)
        refine lv_bipush (v := 114) hx hb dX12_tells_13 (by decide) ?_
        refine lv_iload_n hx hb dX12_tells_15 rfl (lv_at hl 0 rfl) ?_
        have k_114 : (114 : Int32).toInt = 114 := by decide
        refine lv_iadd hx hb dX12_tells_16 ?_
        refine lv_topi (fun v27 ev27 => ?_)
        have f28 : v27.toInt = (114 : Int32).toInt + x2_4.toInt := by rw [ev27]; exact i_add (by omega) (by omega)
        refine lv_aload_n hx hb dX12_tells_17 rfl (lv_at hl 1 rfl) ?_
        refine q_gr (T := TX12) C S_4.1 ga0 1 kF_X12_13 dX12_tells_18 rfl rfl (by decide) rfl (by decide) rfl (fun g29 => ?_)
        refine lv_bipush (v := 114) hx hb dX12_tells_21 (by decide) ?_
        refine lv_iload_n hx hb dX12_tells_23 rfl (lv_at hl 0 rfl) ?_
        refine lv_iadd hx hb dX12_tells_24 ?_
        refine lv_topi (fun v30 ev30 => ?_)
        have f31 : v30.toInt = (114 : Int32).toInt + x2_4.toInt := by rw [ev30]; exact i_add (by omega) (by omega)
        refine lv_iconst (v := 4) hx hb dX12_tells_25 (by decide) ?_
        refine lv_isub hx hb dX12_tells_26 ?_
        refine lv_topi (fun v32 ev32 => ?_)
        have f33 : v32.toInt = v30.toInt - (4 : Int32).toInt := by rw [ev32]; exact i_sub (by omega) (by omega)
        have n34 : aN H_4 (fR D H_4 11 a0 1) = 2052 := len_31 S_4.1 g29
        refine q_iald C S_4.1 g29 (by omega) (by omega) dX12_tells_27 rfl (by decide) ?_
        refine lv_topi (fun v35 ev35 => ?_)
        refine q_iast C S_4 g26 (by omega) (by omega) dX12_tells_28 rfl (by decide) (by decide +kernel) (fun _ _ h => wk_low _ _ (by omega) (fun h9 => by omega) (fun h9 => by omega) (fun h9 => by omega) (fun j hj h9 => by omega) h) (fun H36 L36 S36 P36 => ?_) (hs := fun _ => Or.inr (vy_no (by omega) (by omega) (by omega) (by omega) (fun h9 hh9 => by omega) (fun j9 hj9 => by omega)))
        obtain ⟨v37, ev37⟩ : ∃ y : Int32, y = x2_4 + (-1) := ⟨_, rfl⟩
        have k_m1 : (-1 : Int32).toInt = -1 := by decide
        have f38 : v37.toInt = x2_4.toInt + (-1) := by rw [ev37]; exact i_addc k_m1 (by omega) (by omega)
        refine lv_iinc (v := v37) (lv' := [(2, .int v37), (0, .ref a0), (1, .int x1)]) hx hb dX12_tells_29 hl (k := 0) rfl (by rw [ev37]; rfl) (by decide) rfl (fun ls hl => ?_)
        refine lv_goto (tgt := 4) hx hb dX12_tells_32 (by decide) ?_
        exact ih4 v37 H36 L36 ls S36 (by omega) (by omega) (lv_sub hl [0, 1, 2] rfl)
  have k_239 : (239 : Int32).toInt = 239 := by decide
  exact Lp4 237 (239 : Int32) s.heap [] ls S (by omega)  (by omega) (lv_sub hl [0, 1, 2] rfl)

set_option maxRecDepth 100000 in
set_option maxHeartbeats 4000000 in
theorem c_X12_comesTo (l : Launch) (D : DD) (G : Nat → Nat) (a0 : Nat) (x1 : Int32) (ga0 : G a0 = 30) (ix1 : 0 ≤ x1.toInt ∧ x1.toInt ≤ 5) : CE l D G yX12_comesTo cX12_comesTo 2 (some .boolean) 2 [.ref a0, .int x1] (fun _ => True) [(31, 0)] (xI (fun H r H1 => 0 ≤ r.toInt ∧ r.toInt ≤ 1)) := by
  refine enter (by decide) (Nat.le_of_ble_eq_true rfl) ?_
  intro p e s m args below meth c ls Q hA hQ C hr hO hpre hl
  have hx := C.1
  have hb := C.2.1
  have S : Sd D G [(31, 0)] s.heap s.heap [] := Sd.start hO
  have hl : lv_has ls 2 [(0, .ref a0), (1, .int x1)] := hl
  refine lv_aload_n hx hb dX12_comesTo_0 rfl (lv_at hl 0 rfl) ?_
  refine lv_bipush (v := 100) hx hb dX12_comesTo_1 (by decide) ?_
  have k_100 : (100 : Int32).toInt = 100 := by decide
  refine callV_Ei C S (c_X12_drawn l D G a0 (100 : Int32) ga0 (by omega)) kV_X12_329 ga0 (trivial) (by decide +kernel) dX12_comesTo_3 hl.1 rfl rfl (by decide) cd_X12_drawn ⟨Nat.le_of_ble_eq_true rfl, Nat.le_of_ble_eq_true rfl, Nat.le_of_ble_eq_true rfl, Nat.le_of_ble_eq_true rfl, Nat.le_of_ble_eq_true rfl⟩ (fun v1 H1 L1 S1 K1 q1 => ?_)
  refine lv_aload_n hx hb dX12_comesTo_6 rfl (lv_at hl 0 rfl) ?_
  refine q_gr (T := TX12) C S1.1 ga0 1 kF_X12_13 dX12_comesTo_7 rfl rfl (by decide) rfl (by decide) rfl (fun g2 => ?_)
  refine lv_bipush (v := 7) hx hb dX12_comesTo_10 (by decide) ?_
  have n3 : aN H1 (fR D H1 11 a0 1) = 2052 := len_31 S1.1 g2
  have k_7 : (7 : Int32).toInt = 7 := by decide
  refine q_iald C S1.1 g2 (by omega) (by omega) dX12_comesTo_12 rfl (by decide) ?_
  refine lv_topi (fun v4 ev4 => ?_)
  refine lv_icmp_lt (tgt := 31) hx hb dX12_comesTo_13 (by decide) (fun c5 => ?_) (fun c5 => ?_)
  · have b5 : v1.toInt < v4.toInt := i_lt.mp c5
    refine lv_iconst (v := 1) hx hb dX12_comesTo_31 (by decide) ?_
    refine lv_goto (tgt := 36) hx hb dX12_comesTo_32 (by decide) ?_
    have k_1 : (1 : Int32).toInt = 1 := by decide
    exact retE_z hQ C S1 hr dX12_comesTo_36 (z01 (by omega) (by omega)) (by omega)
  · have b5 : ¬ v1.toInt < v4.toInt := fun z9 => c5 (i_lt.mpr z9)
    refine lv_aload_n hx hb dX12_comesTo_16 rfl (lv_at hl 0 rfl) ?_
    refine lv_bipush (v := 100) hx hb dX12_comesTo_17 (by decide) ?_
    refine callV_Ei C S1 (c_X12_drawn l D G a0 (100 : Int32) ga0 (by omega)) kV_X12_329 ga0 (trivial) (by decide +kernel) dX12_comesTo_19 hl.1 rfl rfl (by decide) cd_X12_drawn ⟨Nat.le_of_ble_eq_true rfl, Nat.le_of_ble_eq_true rfl, Nat.le_of_ble_eq_true rfl, Nat.le_of_ble_eq_true rfl, Nat.le_of_ble_eq_true rfl⟩ (fun v6 H6 L6 S6 K6 q6 => ?_)
    refine lv_aload_n hx hb dX12_comesTo_22 rfl (lv_at hl 0 rfl) ?_
    refine lv_iload_n hx hb dX12_comesTo_23 rfl (lv_at hl 1 rfl) ?_
    refine lv_iconst (v := 4) hx hb dX12_comesTo_24 (by decide) ?_
    have k_4 : (4 : Int32).toInt = 4 := by decide
    refine callV_Pi C S6.1 S6.2.1.2.1 (c_X12_of l D G a0 x1 (4 : Int32) ga0 (by omega) (by omega)) kV_X12_255 ga0 (trivial) dX12_comesTo_25 hl.1 rfl rfl (by decide) cd_X12_of ⟨Nat.le_of_ble_eq_true rfl, Nat.le_of_ble_eq_true rfl, Nat.le_of_ble_eq_true rfl, Nat.le_of_ble_eq_true rfl, Nat.le_of_ble_eq_true rfl⟩ (fun v7 q7 => ?_)
    refine lv_icmp_ge (tgt := 35) hx hb dX12_comesTo_28 (by decide) (fun c8 => ?_) (fun c8 => ?_)
    · have b8 : v7.toInt ≤ v6.toInt := i_le.mp c8
      refine lv_iconst (v := 0) hx hb dX12_comesTo_35 (by decide) ?_
      have k_0 : (0 : Int32).toInt = 0 := by decide
      exact retE_z hQ C S6 hr dX12_comesTo_36 (z01 (by omega) (by omega)) (by omega)
    · have b8 : ¬ v7.toInt ≤ v6.toInt := fun z9 => c8 (i_le.mpr z9)
      refine lv_iconst (v := 1) hx hb dX12_comesTo_31 (by decide) ?_
      refine lv_goto (tgt := 36) hx hb dX12_comesTo_32 (by decide) ?_
      have k_1 : (1 : Int32).toInt = 1 := by decide
      exact retE_z hQ C S6 hr dX12_comesTo_36 (z01 (by omega) (by omega)) (by omega)

set_option maxRecDepth 100000 in
set_option maxHeartbeats 4000000 in
theorem c_X12_finesOf (l : Launch) (D : DD) (G : Nat → Nat) (a0 : Nat) (x1 : Int32) (ga0 : G a0 = 30) : CE l D G yX12_finesOf cX12_finesOf 4 (some .int) 10 [.ref a0, .int x1] (fun _ => True) [(31, 0), (38, 0)] (xI (fun H r H1 => True)) := by
  refine enter (by decide) (Nat.le_of_ble_eq_true rfl) ?_
  intro p e s m args below meth c ls Q hA hQ C hr hO hpre hl
  have hx := C.1
  have hb := C.2.1
  have S : Sd D G [(31, 0), (38, 0)] s.heap s.heap [] := Sd.start hO
  have hl : lv_has ls 4 [(0, .ref a0), (1, .int x1)] := hl
  refine lv_iconst (v := 0) hx hb dX12_finesOf_0 (by decide) ?_
  refine lv_istore_n (lv' := [(2, .int (0 : Int32)), (0, .ref a0), (1, .int x1)]) hx hb dX12_finesOf_1 rfl hl (by decide) rfl (fun ls hl => ?_)
  refine lv_iconst (v := 0) hx hb dX12_finesOf_2 (by decide) ?_
  refine lv_istore_n (lv' := [(3, .int (0 : Int32)), (2, .int (0 : Int32)), (0, .ref a0), (1, .int x1)]) hx hb dX12_finesOf_3 rfl hl (by decide) rfl (fun ls hl => ?_)
  have Lp4 : ∀ (n : Nat) (x3_4 : Int32) (x2_4 : Int32) (H_4 : Heap) (L_4 : List Loc) (ls : Array Slot), (Sd D G [(31, 0), (38, 0)] s.heap H_4 L_4) → (0 ≤ x3_4.toInt ∧ x3_4.toInt ≤ 2147483647) → 2147483648 - x3_4.toInt ≤ (n : Int) → lv_has ls 4 [(3, .int x3_4), (2, .int x2_4), (0, .ref a0), (1, .int x1)] → W p l e (rmU 10 0 0) s m args below meth c H_4 L_4 0 0 Q (F0 m 4 ls []) := by
    intro n
    induction n with
    | zero =>
      intro x3_4 x2_4 H_4 L_4 ls S_4 j4_0 hn hl
      exact absurd hn (by omega)
    | succ n ih4 =>
      intro x3_4 x2_4 H_4 L_4 ls S_4 j4_0 hn hl
      refine lv_iload_n hx hb dX12_finesOf_4 rfl (lv_at hl 0 rfl) ?_
      refine lv_aload_n hx hb dX12_finesOf_5 rfl (lv_at hl 2 rfl) ?_
      refine callV_Pi C S_4.1 S_4.2.1.2.1 (c_X12_hearths l D G a0 ga0) kV_X12_67 ga0 (trivial) dX12_finesOf_6 hl.1 rfl rfl (by decide) cd_X12_hearths ⟨Nat.le_of_ble_eq_true rfl, Nat.le_of_ble_eq_true rfl, Nat.le_of_ble_eq_true rfl, Nat.le_of_ble_eq_true rfl, Nat.le_of_ble_eq_true rfl⟩ (fun v1 q1 => ?_)
      have r3 := i_rng x3_4
      refine lv_icmp_ge (tgt := 78) hx hb dX12_finesOf_9 (by decide) (fun c2 => ?_) (fun c2 => ?_)
      · have b2 : v1.toInt ≤ x3_4.toInt := i_le.mp c2
        refine lv_iload_n hx hb dX12_finesOf_78 rfl (lv_at hl 1 rfl) ?_
        exact retE_i hQ C S_4 hr dX12_finesOf_79 (trivial)
      · have b2 : ¬ v1.toInt ≤ x3_4.toInt := fun z9 => c2 (i_le.mpr z9)
        refine lv_aload_n hx hb dX12_finesOf_12 rfl (lv_at hl 2 rfl) ?_
        refine lv_iload_n hx hb dX12_finesOf_13 rfl (lv_at hl 0 rfl) ?_
        refine lv_iload_n hx hb dX12_finesOf_14 rfl (lv_at hl 3 rfl) ?_
        refine callV_Pi C S_4.1 S_4.2.1.2.1 (c_X12_isOf l D G a0 x3_4 x1 ga0 (by omega)) kV_X12_70 ga0 (trivial) dX12_finesOf_15 hl.1 rfl rfl (by decide) cd_X12_isOf ⟨Nat.le_of_ble_eq_true rfl, Nat.le_of_ble_eq_true rfl, Nat.le_of_ble_eq_true rfl, Nat.le_of_ble_eq_true rfl, Nat.le_of_ble_eq_true rfl⟩ (fun v4 q4 => ?_)
        have k_0 : (0 : Int32).toInt = 0 := by decide
        refine lv_if_eq (tgt := 72) hx hb dX12_finesOf_18 (by decide) (fun c5 => ?_) (fun c5 => ?_)
        · have b5 : v4.toInt = (0 : Int32).toInt := i_eq.mp c5
          obtain ⟨v6, ev6⟩ : ∃ y : Int32, y = x3_4 + (1) := ⟨_, rfl⟩
          have k_1 : (1 : Int32).toInt = 1 := by decide
          have f7 : v6.toInt = x3_4.toInt + (1) := by rw [ev6]; exact i_addc k_1 (by omega) (by omega)
          refine lv_iinc (v := v6) (lv' := [(3, .int v6), (2, .int x2_4), (0, .ref a0), (1, .int x1)]) hx hb dX12_finesOf_72 hl (k := 0) rfl (by rw [ev6]; rfl) (by decide) rfl (fun ls hl => ?_)
          refine lv_goto (tgt := 4) hx hb dX12_finesOf_75 (by decide) ?_
          exact ih4 v6 x2_4 H_4 L_4 ls S_4 (by omega) (by omega) (lv_sub hl [0, 1, 2, 3] rfl)
        · have b5 : ¬ v4.toInt = (0 : Int32).toInt := fun z9 => c5 (i_eq.mpr z9)
          refine lv_aload_n hx hb dX12_finesOf_21 rfl (lv_at hl 2 rfl) ?_
          refine lv_iload_n hx hb dX12_finesOf_22 rfl (lv_at hl 0 rfl) ?_
          refine callV_Pi C S_4.1 S_4.2.1.2.1 (c_X12_isHidden l D G a0 x3_4 ga0 (by omega)) kV_X12_281 ga0 (trivial) dX12_finesOf_23 hl.1 rfl rfl (by decide) cd_X12_isHidden ⟨Nat.le_of_ble_eq_true rfl, Nat.le_of_ble_eq_true rfl, Nat.le_of_ble_eq_true rfl, Nat.le_of_ble_eq_true rfl, Nat.le_of_ble_eq_true rfl⟩ (fun v8 q8 => ?_)
          refine lv_if_eq (tgt := 72) hx hb dX12_finesOf_26 (by decide) (fun c9 => ?_) (fun c9 => ?_)
          · have b9 : v8.toInt = (0 : Int32).toInt := i_eq.mp c9
            obtain ⟨v10, ev10⟩ : ∃ y : Int32, y = x3_4 + (1) := ⟨_, rfl⟩
            have k_1 : (1 : Int32).toInt = 1 := by decide
            have f11 : v10.toInt = x3_4.toInt + (1) := by rw [ev10]; exact i_addc k_1 (by omega) (by omega)
            refine lv_iinc (v := v10) (lv' := [(3, .int v10), (2, .int x2_4), (0, .ref a0), (1, .int x1)]) hx hb dX12_finesOf_72 hl (k := 0) rfl (by rw [ev10]; rfl) (by decide) rfl (fun ls hl => ?_)
            refine lv_goto (tgt := 4) hx hb dX12_finesOf_75 (by decide) ?_
            exact ih4 v10 x2_4 H_4 L_4 ls S_4 (by omega) (by omega) (lv_sub hl [0, 1, 2, 3] rfl)
          · have b9 : ¬ v8.toInt = (0 : Int32).toInt := fun z9 => c9 (i_eq.mpr z9)
            refine lv_aload_n hx hb dX12_finesOf_29 rfl (lv_at hl 2 rfl) ?_
            refine lv_bipush (v := 100) hx hb dX12_finesOf_30 (by decide) ?_
            have k_100 : (100 : Int32).toInt = 100 := by decide
            refine callV_Ei C S_4 (c_X12_drawn l D G a0 (100 : Int32) ga0 (by omega)) kV_X12_329 ga0 (trivial) (by decide +kernel) dX12_finesOf_32 hl.1 rfl rfl (by decide) cd_X12_drawn ⟨Nat.le_of_ble_eq_true rfl, Nat.le_of_ble_eq_true rfl, Nat.le_of_ble_eq_true rfl, Nat.le_of_ble_eq_true rfl, Nat.le_of_ble_eq_true rfl⟩ (fun v12 H12 L12 S12 K12 q12 => ?_)
            refine lv_aload_n hx hb dX12_finesOf_35 rfl (lv_at hl 2 rfl) ?_
            refine lv_iload_n hx hb dX12_finesOf_36 rfl (lv_at hl 0 rfl) ?_
            refine callV_Ei C S12 (c_X12_foundBy l D G a0 x3_4 ga0 (by omega)) kV_X12_284 ga0 (trivial) (by decide +kernel) dX12_finesOf_37 hl.1 rfl rfl (by decide) cd_X12_foundBy ⟨Nat.le_of_ble_eq_true rfl, Nat.le_of_ble_eq_true rfl, Nat.le_of_ble_eq_true rfl, Nat.le_of_ble_eq_true rfl, Nat.le_of_ble_eq_true rfl⟩ (fun v13 H13 L13 S13 K13 q13 => ?_)
            refine lv_icmp_lt (tgt := 46) hx hb dX12_finesOf_40 (by decide) (fun c14 => ?_) (fun c14 => ?_)
            · have b14 : v12.toInt < v13.toInt := i_lt.mp c14
              refine lv_aload_n hx hb dX12_finesOf_46 rfl (lv_at hl 2 rfl) ?_
              refine q_gr (T := TX12) C S13.1 ga0 1 kF_X12_13 dX12_finesOf_47 rfl rfl (by decide) rfl (by decide) rfl (fun g15 => ?_)
              refine lv_iload_n hx hb dX12_finesOf_50 rfl (lv_at hl 0 rfl) ?_
              refine lv_iconst (v := 5) hx hb dX12_finesOf_51 (by decide) ?_
              have k_5 : (5 : Int32).toInt = 5 := by decide
              refine callS_Pi C S13.1 S13.2.1.2.1 (c_X12_hearthAt l D G x3_4 (5 : Int32) (by omega) (by omega)) kS_X12_53 (trivial) dX12_finesOf_52 hl.1 cd_X12_hearthAt ⟨Nat.le_of_ble_eq_true rfl, Nat.le_of_ble_eq_true rfl, Nat.le_of_ble_eq_true rfl, Nat.le_of_ble_eq_true rfl, Nat.le_of_ble_eq_true rfl⟩ (fun v16 q16 => ?_)
              refine lv_iconst (v := 0) hx hb dX12_finesOf_55 (by decide) ?_
              have n17 : aN H13 (fR D H13 11 a0 1) = 2052 := len_31 S13.1 g15
              refine q_iast C S13 g15 (by omega) (by omega) dX12_finesOf_56 rfl (by decide) (by decide +kernel) (fun _ _ h => wk_low _ _ (by omega) (fun h9 => by omega) (fun h9 => by omega) (fun h9 => by omega) (fun j hj h9 => by omega) h) (fun H18 L18 S18 P18 => ?_) (hs := fun _ => Or.inr (vy_no (by omega) (by omega) (by omega) (by omega) (fun h9 hh9 => by omega) (fun j9 hj9 => by omega)))
              refine lv_aload_n hx hb dX12_finesOf_57 rfl (lv_at hl 2 rfl) ?_
              refine lv_iload_n hx hb dX12_finesOf_58 rfl (lv_at hl 0 rfl) ?_
              refine callV_Ev C S18 (c_X12_tells l D G a0 x3_4 ga0 (by omega)) kV_X12_332 ga0 (trivial) (by decide +kernel) dX12_finesOf_59 hl.1 rfl rfl (by decide) cd_X12_tells ⟨Nat.le_of_ble_eq_true rfl, Nat.le_of_ble_eq_true rfl, Nat.le_of_ble_eq_true rfl, Nat.le_of_ble_eq_true rfl, Nat.le_of_ble_eq_true rfl⟩ (fun H19 L19 S19 K19 q19 => ?_)
              refine lv_iload_n hx hb dX12_finesOf_62 rfl (lv_at hl 1 rfl) ?_
              refine lv_aload_n hx hb dX12_finesOf_63 rfl (lv_at hl 2 rfl) ?_
              refine q_gr (T := TX12) C S19.1 ga0 1 kF_X12_13 dX12_finesOf_64 rfl rfl (by decide) rfl (by decide) rfl (fun g20 => ?_)
              refine lv_bipush (v := 6) hx hb dX12_finesOf_67 (by decide) ?_
              have n21 : aN H19 (fR D H19 11 a0 1) = 2052 := len_31 S19.1 g20
              have k_6 : (6 : Int32).toInt = 6 := by decide
              refine q_iald C S19.1 g20 (by omega) (by omega) dX12_finesOf_69 rfl (by decide) ?_
              refine lv_topi (fun v22 ev22 => ?_)
              refine lv_iadd hx hb dX12_finesOf_70 ?_
              refine lv_topi (fun v23 ev23 => ?_)
              refine lv_istore_n (lv' := [(2, .int v23), (3, .int x3_4), (0, .ref a0), (1, .int x1)]) hx hb dX12_finesOf_71 rfl hl (by decide) rfl (fun ls hl => ?_)
              obtain ⟨v24, ev24⟩ : ∃ y : Int32, y = x3_4 + (1) := ⟨_, rfl⟩
              have k_1 : (1 : Int32).toInt = 1 := by decide
              have f25 : v24.toInt = x3_4.toInt + (1) := by rw [ev24]; exact i_addc k_1 (by omega) (by omega)
              refine lv_iinc (v := v24) (lv' := [(3, .int v24), (2, .int v23), (0, .ref a0), (1, .int x1)]) hx hb dX12_finesOf_72 hl (k := 1) rfl (by rw [ev24]; rfl) (by decide) rfl (fun ls hl => ?_)
              refine lv_goto (tgt := 4) hx hb dX12_finesOf_75 (by decide) ?_
              exact ih4 v24 v23 H19 L19 ls S19 (by omega) (by omega) (lv_sub hl [0, 1, 2, 3] rfl)
            · have b14 : ¬ v12.toInt < v13.toInt := fun z9 => c14 (i_lt.mpr z9)
              refine lv_goto (tgt := 72) hx hb dX12_finesOf_43 (by decide) ?_
              obtain ⟨v26, ev26⟩ : ∃ y : Int32, y = x3_4 + (1) := ⟨_, rfl⟩
              have k_1 : (1 : Int32).toInt = 1 := by decide
              have f27 : v26.toInt = x3_4.toInt + (1) := by rw [ev26]; exact i_addc k_1 (by omega) (by omega)
              refine lv_iinc (v := v26) (lv' := [(3, .int v26), (2, .int x2_4), (0, .ref a0), (1, .int x1)]) hx hb dX12_finesOf_72 hl (k := 0) rfl (by rw [ev26]; rfl) (by decide) rfl (fun ls hl => ?_)
              refine lv_goto (tgt := 4) hx hb dX12_finesOf_75 (by decide) ?_
              exact ih4 v26 x2_4 H13 L13 ls S13 (by omega) (by omega) (lv_sub hl [0, 1, 2, 3] rfl)
  have k_0 : (0 : Int32).toInt = 0 := by decide
  exact Lp4 2147483648 (0 : Int32) (0 : Int32) s.heap [] ls S (by omega)  (by omega) (lv_sub hl [0, 1, 2, 3] rfl)

set_option maxRecDepth 100000 in
set_option maxHeartbeats 4000000 in
theorem c_X12_oneQuarter (l : Launch) (D : DD) (G : Nat → Nat) (a0 : Nat) (x1 : Int32) (ga0 : G a0 = 30) (ix1 : 0 ≤ x1.toInt ∧ x1.toInt ≤ 1) : CE l D G yX12_oneQuarter cX12_oneQuarter 6 (some .int) 11 [.ref a0, .int x1] (fun _ => True) [(31, 0), (38, 0)] (xI (fun H r H1 => True)) := by
  refine enter (by decide) (Nat.le_of_ble_eq_true rfl) ?_
  intro p e s m args below meth c ls Q hA hQ C hr hO hpre hl
  have hx := C.1
  have hb := C.2.1
  have S : Sd D G [(31, 0), (38, 0)] s.heap s.heap [] := Sd.start hO
  have hl : lv_has ls 6 [(0, .ref a0), (1, .int x1)] := hl
  refine lv_iconst (v := 0) hx hb dX12_oneQuarter_0 (by decide) ?_
  refine lv_istore_n (lv' := [(2, .int (0 : Int32)), (0, .ref a0), (1, .int x1)]) hx hb dX12_oneQuarter_1 rfl hl (by decide) rfl (fun ls hl => ?_)
  refine lv_iconst (v := 0) hx hb dX12_oneQuarter_2 (by decide) ?_
  refine lv_istore_n (lv' := [(3, .int (0 : Int32)), (2, .int (0 : Int32)), (0, .ref a0), (1, .int x1)]) hx hb dX12_oneQuarter_3 rfl hl (by decide) rfl (fun ls hl => ?_)
  have Lp4 : ∀ (n : Nat) (x3_4 : Int32) (x2_4 : Int32) (H_4 : Heap) (L_4 : List Loc) (ls : Array Slot), (Sd D G [(31, 0), (38, 0)] s.heap H_4 L_4) → (0 ≤ x3_4.toInt ∧ x3_4.toInt ≤ 2147483647) → 2147483648 - x3_4.toInt ≤ (n : Int) → lv_has ls 6 [(3, .int x3_4), (2, .int x2_4), (0, .ref a0), (1, .int x1)] → W p l e (rmU 11 0 0) s m args below meth c H_4 L_4 0 0 Q (F0 m 4 ls []) := by
    intro n
    induction n with
    | zero =>
      intro x3_4 x2_4 H_4 L_4 ls S_4 j4_0 hn hl
      exact absurd hn (by omega)
    | succ n ih4 =>
      intro x3_4 x2_4 H_4 L_4 ls S_4 j4_0 hn hl
      refine lv_iload_n hx hb dX12_oneQuarter_4 rfl (lv_at hl 0 rfl) ?_
      refine lv_aload_n hx hb dX12_oneQuarter_5 rfl (lv_at hl 2 rfl) ?_
      refine callV_Pi C S_4.1 S_4.2.1.2.1 (c_X12_houses l D G a0 ga0) kV_X12_59 ga0 (trivial) dX12_oneQuarter_6 hl.1 rfl rfl (by decide) cd_X12_houses ⟨Nat.le_of_ble_eq_true rfl, Nat.le_of_ble_eq_true rfl, Nat.le_of_ble_eq_true rfl, Nat.le_of_ble_eq_true rfl, Nat.le_of_ble_eq_true rfl⟩ (fun v1 q1 => ?_)
      have r3 := i_rng x3_4
      refine lv_icmp_ge (tgt := 103) hx hb dX12_oneQuarter_9 (by decide) (fun c2 => ?_) (fun c2 => ?_)
      · have b2 : v1.toInt ≤ x3_4.toInt := i_le.mp c2
        refine lv_aload_n hx hb dX12_oneQuarter_103 rfl (lv_at hl 2 rfl) ?_
        refine q_gr (T := TX12) C S_4.1 ga0 1 kF_X12_13 dX12_oneQuarter_104 rfl rfl (by decide) rfl (by decide) rfl (fun g4 => ?_)
        refine lv_iconst (v := 4) hx hb dX12_oneQuarter_107 (by decide) ?_
        refine lv_sipush (v := 9999) hx hb dX12_oneQuarter_108 (by decide) ?_
        refine lv_aload_n hx hb dX12_oneQuarter_111 rfl (lv_at hl 2 rfl) ?_
        refine q_gr (T := TX12) C S_4.1 ga0 1 kF_X12_13 dX12_oneQuarter_112 rfl rfl (by decide) rfl (by decide) rfl (fun g5 => ?_)
        refine lv_iconst (v := 4) hx hb dX12_oneQuarter_115 (by decide) ?_
        have n6 : aN H_4 (fR D H_4 11 a0 1) = 2052 := len_31 S_4.1 g5
        have k_4 : (4 : Int32).toInt = 4 := by decide
        refine q_iald C S_4.1 g5 (by omega) (by omega) dX12_oneQuarter_116 rfl (by decide) ?_
        refine lv_topi (fun v7 ev7 => ?_)
        refine lv_iconst (v := 1) hx hb dX12_oneQuarter_117 (by decide) ?_
        have k_1 : (1 : Int32).toInt = 1 := by decide
        refine lv_iadd hx hb dX12_oneQuarter_118 ?_
        refine lv_topi (fun v8 ev8 => ?_)
        have k_9999 : (9999 : Int32).toInt = 9999 := by decide
        refine q_min C kN_X12_270 dX12_oneQuarter_119 hl.1 ⟨Nat.le_of_ble_eq_true rfl, Nat.le_of_ble_eq_true rfl, Nat.le_of_ble_eq_true rfl, Nat.le_of_ble_eq_true rfl⟩ (fun v9 fv9 => ?_)
        refine q_iast C S_4 g4 (by omega) (by omega) dX12_oneQuarter_122 rfl (by decide) (by decide +kernel) (fun _ _ h => wk_low _ _ (by omega) (fun h9 => by omega) (fun h9 => by omega) (fun h9 => by omega) (fun j hj h9 => by omega) h) (fun H10 L10 S10 P10 => ?_) (hs := fun _ => Or.inr (vy_no (by omega) (by omega) (by omega) (by omega) (fun h9 hh9 => by omega) (fun j9 hj9 => by omega)))
        refine lv_iload_n hx hb dX12_oneQuarter_123 rfl (lv_at hl 1 rfl) ?_
        exact retE_i hQ C S10 hr dX12_oneQuarter_124 (trivial)
      · have b2 : ¬ v1.toInt ≤ x3_4.toInt := fun z9 => c2 (i_le.mpr z9)
        refine lv_iload_n hx hb dX12_oneQuarter_12 rfl (lv_at hl 3 rfl) ?_
        have k_0 : (0 : Int32).toInt = 0 := by decide
        refine lv_if_ne (tgt := 32) hx hb dX12_oneQuarter_13 (by decide) (fun c11 => ?_) (fun c11 => ?_)
        · have b11 : ¬ x1.toInt = (0 : Int32).toInt := fun z9 => c11 (i_eq.mpr z9)
          refine lv_iconst (v := 0) hx hb dX12_oneQuarter_32 (by decide) ?_
          refine lv_istore (lv' := [(4, .int (0 : Int32)), (3, .int x3_4), (2, .int x2_4), (0, .ref a0), (1, .int x1)]) hx hb dX12_oneQuarter_33 hl (by decide) rfl (fun ls hl => ?_)
          refine lv_aload_n hx hb dX12_oneQuarter_35 rfl (lv_at hl 3 rfl) ?_
          refine lv_iload_n hx hb dX12_oneQuarter_36 rfl (lv_at hl 1 rfl) ?_
          refine lv_iconst (v := 0) hx hb dX12_oneQuarter_37 (by decide) ?_
          refine callV_Pi C S_4.1 S_4.2.1.2.1 (c_X12_of l D G a0 x3_4 (0 : Int32) ga0 (by omega) (by omega)) kV_X12_255 ga0 (trivial) dX12_oneQuarter_38 hl.1 rfl rfl (by decide) cd_X12_of ⟨Nat.le_of_ble_eq_true rfl, Nat.le_of_ble_eq_true rfl, Nat.le_of_ble_eq_true rfl, Nat.le_of_ble_eq_true rfl, Nat.le_of_ble_eq_true rfl⟩ (fun v12 q12 => ?_)
          refine lv_aload_n hx hb dX12_oneQuarter_41 rfl (lv_at hl 3 rfl) ?_
          refine lv_iload_n hx hb dX12_oneQuarter_42 rfl (lv_at hl 1 rfl) ?_
          refine callV_Ei C S_4 (c_X12_paysOf l D G a0 x3_4 ga0) kV_X12_293 ga0 (trivial) (by decide +kernel) dX12_oneQuarter_43 hl.1 rfl rfl (by decide) cd_X12_paysOf ⟨Nat.le_of_ble_eq_true rfl, Nat.le_of_ble_eq_true rfl, Nat.le_of_ble_eq_true rfl, Nat.le_of_ble_eq_true rfl, Nat.le_of_ble_eq_true rfl⟩ (fun v13 H13 L13 S13 K13 q13 => ?_)
          refine lv_iload hx hb dX12_oneQuarter_46 (lv_at hl 0 rfl) ?_
          refine lv_iadd hx hb dX12_oneQuarter_48 ?_
          refine lv_topi (fun v14 ev14 => ?_)
          refine q_min C kN_X12_270 dX12_oneQuarter_49 hl.1 ⟨Nat.le_of_ble_eq_true rfl, Nat.le_of_ble_eq_true rfl, Nat.le_of_ble_eq_true rfl, Nat.le_of_ble_eq_true rfl⟩ (fun v15 fv15 => ?_)
          refine lv_istore (lv' := [(5, .int v15), (4, .int (0 : Int32)), (3, .int x3_4), (2, .int x2_4), (0, .ref a0), (1, .int x1)]) hx hb dX12_oneQuarter_52 hl (by decide) rfl (fun ls hl => ?_)
          refine lv_aload_n hx hb dX12_oneQuarter_54 rfl (lv_at hl 4 rfl) ?_
          refine q_gr (T := TX12) C S13.1 ga0 1 kF_X12_13 dX12_oneQuarter_55 rfl rfl (by decide) rfl (by decide) rfl (fun g16 => ?_)
          refine lv_iload_n hx hb dX12_oneQuarter_58 rfl (lv_at hl 2 rfl) ?_
          refine lv_iconst (v := 0) hx hb dX12_oneQuarter_59 (by decide) ?_
          refine callS_Pi C S13.1 S13.2.1.2.1 (c_X12_houseAt l D G x3_4 (0 : Int32) (by omega) (by omega)) kS_X12_49 (trivial) dX12_oneQuarter_60 hl.1 cd_X12_houseAt ⟨Nat.le_of_ble_eq_true rfl, Nat.le_of_ble_eq_true rfl, Nat.le_of_ble_eq_true rfl, Nat.le_of_ble_eq_true rfl, Nat.le_of_ble_eq_true rfl⟩ (fun v17 q17 => ?_)
          refine lv_dup2_11 hx hb dX12_oneQuarter_63 rfl rfl ?_
          have n18 : aN H13 (fR D H13 11 a0 1) = 2052 := len_31 S13.1 g16
          refine q_iald C S13.1 g16 (by omega) (by omega) dX12_oneQuarter_64 rfl (by decide) ?_
          refine lv_topi (fun v19 ev19 => ?_)
          refine lv_iload hx hb dX12_oneQuarter_65 (lv_at hl 0 rfl) ?_
          refine lv_isub hx hb dX12_oneQuarter_67 ?_
          refine lv_topi (fun v20 ev20 => ?_)
          refine q_iast C S13 g16 (by omega) (by omega) dX12_oneQuarter_68 rfl (by decide) (by decide +kernel) (fun _ _ h => wk_low _ _ (by omega) (fun h9 => by omega) (fun h9 => by omega) (fun h9 => by omega) (fun j hj h9 => by omega) h) (fun H21 L21 S21 P21 => ?_) (hs := fun _ => Or.inr (vy_no (by omega) (by omega) (by omega) (by omega) (fun h9 hh9 => by omega) (fun j9 hj9 => by omega)))
          refine lv_aload_n hx hb dX12_oneQuarter_69 rfl (lv_at hl 4 rfl) ?_
          refine q_gr (T := TX12) C S21.1 ga0 1 kF_X12_13 dX12_oneQuarter_70 rfl rfl (by decide) rfl (by decide) rfl (fun g22 => ?_)
          refine lv_bipush (v := 9) hx hb dX12_oneQuarter_73 (by decide) ?_
          refine lv_sipush (v := 9999) hx hb dX12_oneQuarter_75 (by decide) ?_
          refine lv_aload_n hx hb dX12_oneQuarter_78 rfl (lv_at hl 4 rfl) ?_
          refine q_gr (T := TX12) C S21.1 ga0 1 kF_X12_13 dX12_oneQuarter_79 rfl rfl (by decide) rfl (by decide) rfl (fun g23 => ?_)
          refine lv_bipush (v := 9) hx hb dX12_oneQuarter_82 (by decide) ?_
          have n24 : aN H21 (fR D H21 11 a0 1) = 2052 := len_31 S21.1 g23
          have k_9 : (9 : Int32).toInt = 9 := by decide
          refine q_iald C S21.1 g23 (by omega) (by omega) dX12_oneQuarter_84 rfl (by decide) ?_
          refine lv_topi (fun v25 ev25 => ?_)
          refine lv_iload hx hb dX12_oneQuarter_85 (lv_at hl 0 rfl) ?_
          refine lv_iadd hx hb dX12_oneQuarter_87 ?_
          refine lv_topi (fun v26 ev26 => ?_)
          have k_9999 : (9999 : Int32).toInt = 9999 := by decide
          refine q_min C kN_X12_270 dX12_oneQuarter_88 hl.1 ⟨Nat.le_of_ble_eq_true rfl, Nat.le_of_ble_eq_true rfl, Nat.le_of_ble_eq_true rfl, Nat.le_of_ble_eq_true rfl⟩ (fun v27 fv27 => ?_)
          refine q_iast C S21 g22 (by omega) (by omega) dX12_oneQuarter_91 rfl (by decide) (by decide +kernel) (fun _ _ h => wk_low _ _ (by omega) (fun h9 => by omega) (fun h9 => by omega) (fun h9 => by omega) (fun j hj h9 => by omega) h) (fun H28 L28 S28 P28 => ?_) (hs := fun _ => Or.inr (vy_no (by omega) (by omega) (by omega) (by omega) (fun h9 hh9 => by omega) (fun j9 hj9 => by omega)))
          refine lv_iload_n hx hb dX12_oneQuarter_92 rfl (lv_at hl 3 rfl) ?_
          refine lv_iload hx hb dX12_oneQuarter_93 (lv_at hl 0 rfl) ?_
          refine lv_iadd hx hb dX12_oneQuarter_95 ?_
          refine lv_topi (fun v29 ev29 => ?_)
          refine lv_istore_n (lv' := [(2, .int v29), (5, .int v15), (4, .int (0 : Int32)), (3, .int x3_4), (0, .ref a0), (1, .int x1)]) hx hb dX12_oneQuarter_96 rfl hl (by decide) rfl (fun ls hl => ?_)
          obtain ⟨v30, ev30⟩ : ∃ y : Int32, y = x3_4 + (1) := ⟨_, rfl⟩
          have k_1 : (1 : Int32).toInt = 1 := by decide
          have f31 : v30.toInt = x3_4.toInt + (1) := by rw [ev30]; exact i_addc k_1 (by omega) (by omega)
          refine lv_iinc (v := v30) (lv' := [(3, .int v30), (2, .int v29), (5, .int v15), (4, .int (0 : Int32)), (0, .ref a0), (1, .int x1)]) hx hb dX12_oneQuarter_97 hl (k := 3) rfl (by rw [ev30]; rfl) (by decide) rfl (fun ls hl => ?_)
          refine lv_goto (tgt := 4) hx hb dX12_oneQuarter_100 (by decide) ?_
          exact ih4 v30 v29 H28 L28 ls S28 (by omega) (by omega) (lv_sub hl [0, 1, 4, 5] rfl)
        · have b11 : x1.toInt = (0 : Int32).toInt := i_eq.mp c11
          refine lv_aload_n hx hb dX12_oneQuarter_16 rfl (lv_at hl 2 rfl) ?_
          refine lv_iload_n hx hb dX12_oneQuarter_17 rfl (lv_at hl 0 rfl) ?_
          refine callV_Ei C S_4 (c_X12_comesTo l D G a0 x3_4 ga0 (by omega)) kV_X12_335 ga0 (trivial) (by decide +kernel) dX12_oneQuarter_18 hl.1 rfl rfl (by decide) cd_X12_comesTo ⟨Nat.le_of_ble_eq_true rfl, Nat.le_of_ble_eq_true rfl, Nat.le_of_ble_eq_true rfl, Nat.le_of_ble_eq_true rfl, Nat.le_of_ble_eq_true rfl⟩ (fun v32 H32 L32 S32 K32 q32 => ?_)
          refine lv_if_eq (tgt := 32) hx hb dX12_oneQuarter_21 (by decide) (fun c33 => ?_) (fun c33 => ?_)
          · have b33 : v32.toInt = (0 : Int32).toInt := i_eq.mp c33
            refine lv_iconst (v := 0) hx hb dX12_oneQuarter_32 (by decide) ?_
            refine lv_istore (lv' := [(4, .int (0 : Int32)), (3, .int x3_4), (2, .int x2_4), (0, .ref a0), (1, .int x1)]) hx hb dX12_oneQuarter_33 hl (by decide) rfl (fun ls hl => ?_)
            refine lv_aload_n hx hb dX12_oneQuarter_35 rfl (lv_at hl 3 rfl) ?_
            refine lv_iload_n hx hb dX12_oneQuarter_36 rfl (lv_at hl 1 rfl) ?_
            refine lv_iconst (v := 0) hx hb dX12_oneQuarter_37 (by decide) ?_
            refine callV_Pi C S32.1 S32.2.1.2.1 (c_X12_of l D G a0 x3_4 (0 : Int32) ga0 (by omega) (by omega)) kV_X12_255 ga0 (trivial) dX12_oneQuarter_38 hl.1 rfl rfl (by decide) cd_X12_of ⟨Nat.le_of_ble_eq_true rfl, Nat.le_of_ble_eq_true rfl, Nat.le_of_ble_eq_true rfl, Nat.le_of_ble_eq_true rfl, Nat.le_of_ble_eq_true rfl⟩ (fun v34 q34 => ?_)
            refine lv_aload_n hx hb dX12_oneQuarter_41 rfl (lv_at hl 3 rfl) ?_
            refine lv_iload_n hx hb dX12_oneQuarter_42 rfl (lv_at hl 1 rfl) ?_
            refine callV_Ei C S32 (c_X12_paysOf l D G a0 x3_4 ga0) kV_X12_293 ga0 (trivial) (by decide +kernel) dX12_oneQuarter_43 hl.1 rfl rfl (by decide) cd_X12_paysOf ⟨Nat.le_of_ble_eq_true rfl, Nat.le_of_ble_eq_true rfl, Nat.le_of_ble_eq_true rfl, Nat.le_of_ble_eq_true rfl, Nat.le_of_ble_eq_true rfl⟩ (fun v35 H35 L35 S35 K35 q35 => ?_)
            refine lv_iload hx hb dX12_oneQuarter_46 (lv_at hl 0 rfl) ?_
            refine lv_iadd hx hb dX12_oneQuarter_48 ?_
            refine lv_topi (fun v36 ev36 => ?_)
            refine q_min C kN_X12_270 dX12_oneQuarter_49 hl.1 ⟨Nat.le_of_ble_eq_true rfl, Nat.le_of_ble_eq_true rfl, Nat.le_of_ble_eq_true rfl, Nat.le_of_ble_eq_true rfl⟩ (fun v37 fv37 => ?_)
            refine lv_istore (lv' := [(5, .int v37), (4, .int (0 : Int32)), (3, .int x3_4), (2, .int x2_4), (0, .ref a0), (1, .int x1)]) hx hb dX12_oneQuarter_52 hl (by decide) rfl (fun ls hl => ?_)
            refine lv_aload_n hx hb dX12_oneQuarter_54 rfl (lv_at hl 4 rfl) ?_
            refine q_gr (T := TX12) C S35.1 ga0 1 kF_X12_13 dX12_oneQuarter_55 rfl rfl (by decide) rfl (by decide) rfl (fun g38 => ?_)
            refine lv_iload_n hx hb dX12_oneQuarter_58 rfl (lv_at hl 2 rfl) ?_
            refine lv_iconst (v := 0) hx hb dX12_oneQuarter_59 (by decide) ?_
            refine callS_Pi C S35.1 S35.2.1.2.1 (c_X12_houseAt l D G x3_4 (0 : Int32) (by omega) (by omega)) kS_X12_49 (trivial) dX12_oneQuarter_60 hl.1 cd_X12_houseAt ⟨Nat.le_of_ble_eq_true rfl, Nat.le_of_ble_eq_true rfl, Nat.le_of_ble_eq_true rfl, Nat.le_of_ble_eq_true rfl, Nat.le_of_ble_eq_true rfl⟩ (fun v39 q39 => ?_)
            refine lv_dup2_11 hx hb dX12_oneQuarter_63 rfl rfl ?_
            have n40 : aN H35 (fR D H35 11 a0 1) = 2052 := len_31 S35.1 g38
            refine q_iald C S35.1 g38 (by omega) (by omega) dX12_oneQuarter_64 rfl (by decide) ?_
            refine lv_topi (fun v41 ev41 => ?_)
            refine lv_iload hx hb dX12_oneQuarter_65 (lv_at hl 0 rfl) ?_
            refine lv_isub hx hb dX12_oneQuarter_67 ?_
            refine lv_topi (fun v42 ev42 => ?_)
            refine q_iast C S35 g38 (by omega) (by omega) dX12_oneQuarter_68 rfl (by decide) (by decide +kernel) (fun _ _ h => wk_low _ _ (by omega) (fun h9 => by omega) (fun h9 => by omega) (fun h9 => by omega) (fun j hj h9 => by omega) h) (fun H43 L43 S43 P43 => ?_) (hs := fun _ => Or.inr (vy_no (by omega) (by omega) (by omega) (by omega) (fun h9 hh9 => by omega) (fun j9 hj9 => by omega)))
            refine lv_aload_n hx hb dX12_oneQuarter_69 rfl (lv_at hl 4 rfl) ?_
            refine q_gr (T := TX12) C S43.1 ga0 1 kF_X12_13 dX12_oneQuarter_70 rfl rfl (by decide) rfl (by decide) rfl (fun g44 => ?_)
            refine lv_bipush (v := 9) hx hb dX12_oneQuarter_73 (by decide) ?_
            refine lv_sipush (v := 9999) hx hb dX12_oneQuarter_75 (by decide) ?_
            refine lv_aload_n hx hb dX12_oneQuarter_78 rfl (lv_at hl 4 rfl) ?_
            refine q_gr (T := TX12) C S43.1 ga0 1 kF_X12_13 dX12_oneQuarter_79 rfl rfl (by decide) rfl (by decide) rfl (fun g45 => ?_)
            refine lv_bipush (v := 9) hx hb dX12_oneQuarter_82 (by decide) ?_
            have n46 : aN H43 (fR D H43 11 a0 1) = 2052 := len_31 S43.1 g45
            have k_9 : (9 : Int32).toInt = 9 := by decide
            refine q_iald C S43.1 g45 (by omega) (by omega) dX12_oneQuarter_84 rfl (by decide) ?_
            refine lv_topi (fun v47 ev47 => ?_)
            refine lv_iload hx hb dX12_oneQuarter_85 (lv_at hl 0 rfl) ?_
            refine lv_iadd hx hb dX12_oneQuarter_87 ?_
            refine lv_topi (fun v48 ev48 => ?_)
            have k_9999 : (9999 : Int32).toInt = 9999 := by decide
            refine q_min C kN_X12_270 dX12_oneQuarter_88 hl.1 ⟨Nat.le_of_ble_eq_true rfl, Nat.le_of_ble_eq_true rfl, Nat.le_of_ble_eq_true rfl, Nat.le_of_ble_eq_true rfl⟩ (fun v49 fv49 => ?_)
            refine q_iast C S43 g44 (by omega) (by omega) dX12_oneQuarter_91 rfl (by decide) (by decide +kernel) (fun _ _ h => wk_low _ _ (by omega) (fun h9 => by omega) (fun h9 => by omega) (fun h9 => by omega) (fun j hj h9 => by omega) h) (fun H50 L50 S50 P50 => ?_) (hs := fun _ => Or.inr (vy_no (by omega) (by omega) (by omega) (by omega) (fun h9 hh9 => by omega) (fun j9 hj9 => by omega)))
            refine lv_iload_n hx hb dX12_oneQuarter_92 rfl (lv_at hl 3 rfl) ?_
            refine lv_iload hx hb dX12_oneQuarter_93 (lv_at hl 0 rfl) ?_
            refine lv_iadd hx hb dX12_oneQuarter_95 ?_
            refine lv_topi (fun v51 ev51 => ?_)
            refine lv_istore_n (lv' := [(2, .int v51), (5, .int v37), (4, .int (0 : Int32)), (3, .int x3_4), (0, .ref a0), (1, .int x1)]) hx hb dX12_oneQuarter_96 rfl hl (by decide) rfl (fun ls hl => ?_)
            obtain ⟨v52, ev52⟩ : ∃ y : Int32, y = x3_4 + (1) := ⟨_, rfl⟩
            have k_1 : (1 : Int32).toInt = 1 := by decide
            have f53 : v52.toInt = x3_4.toInt + (1) := by rw [ev52]; exact i_addc k_1 (by omega) (by omega)
            refine lv_iinc (v := v52) (lv' := [(3, .int v52), (2, .int v51), (5, .int v37), (4, .int (0 : Int32)), (0, .ref a0), (1, .int x1)]) hx hb dX12_oneQuarter_97 hl (k := 3) rfl (by rw [ev52]; rfl) (by decide) rfl (fun ls hl => ?_)
            refine lv_goto (tgt := 4) hx hb dX12_oneQuarter_100 (by decide) ?_
            exact ih4 v52 v51 H50 L50 ls S50 (by omega) (by omega) (lv_sub hl [0, 1, 4, 5] rfl)
          · have b33 : ¬ v32.toInt = (0 : Int32).toInt := fun z9 => c33 (i_eq.mpr z9)
            refine lv_aload_n hx hb dX12_oneQuarter_24 rfl (lv_at hl 2 rfl) ?_
            refine lv_iload_n hx hb dX12_oneQuarter_25 rfl (lv_at hl 0 rfl) ?_
            refine callV_Ei C S32 (c_X12_finesOf l D G a0 x3_4 ga0) kV_X12_338 ga0 (trivial) (by decide +kernel) dX12_oneQuarter_26 hl.1 rfl rfl (by decide) cd_X12_finesOf ⟨Nat.le_of_ble_eq_true rfl, Nat.le_of_ble_eq_true rfl, Nat.le_of_ble_eq_true rfl, Nat.le_of_ble_eq_true rfl, Nat.le_of_ble_eq_true rfl⟩ (fun v54 H54 L54 S54 K54 q54 => ?_)
            refine lv_goto (tgt := 33) hx hb dX12_oneQuarter_29 (by decide) ?_
            refine lv_istore (lv' := [(4, .int v54), (3, .int x3_4), (2, .int x2_4), (0, .ref a0), (1, .int x1)]) hx hb dX12_oneQuarter_33 hl (by decide) rfl (fun ls hl => ?_)
            refine lv_aload_n hx hb dX12_oneQuarter_35 rfl (lv_at hl 3 rfl) ?_
            refine lv_iload_n hx hb dX12_oneQuarter_36 rfl (lv_at hl 1 rfl) ?_
            refine lv_iconst (v := 0) hx hb dX12_oneQuarter_37 (by decide) ?_
            refine callV_Pi C S54.1 S54.2.1.2.1 (c_X12_of l D G a0 x3_4 (0 : Int32) ga0 (by omega) (by omega)) kV_X12_255 ga0 (trivial) dX12_oneQuarter_38 hl.1 rfl rfl (by decide) cd_X12_of ⟨Nat.le_of_ble_eq_true rfl, Nat.le_of_ble_eq_true rfl, Nat.le_of_ble_eq_true rfl, Nat.le_of_ble_eq_true rfl, Nat.le_of_ble_eq_true rfl⟩ (fun v55 q55 => ?_)
            refine lv_aload_n hx hb dX12_oneQuarter_41 rfl (lv_at hl 3 rfl) ?_
            refine lv_iload_n hx hb dX12_oneQuarter_42 rfl (lv_at hl 1 rfl) ?_
            refine callV_Ei C S54 (c_X12_paysOf l D G a0 x3_4 ga0) kV_X12_293 ga0 (trivial) (by decide +kernel) dX12_oneQuarter_43 hl.1 rfl rfl (by decide) cd_X12_paysOf ⟨Nat.le_of_ble_eq_true rfl, Nat.le_of_ble_eq_true rfl, Nat.le_of_ble_eq_true rfl, Nat.le_of_ble_eq_true rfl, Nat.le_of_ble_eq_true rfl⟩ (fun v56 H56 L56 S56 K56 q56 => ?_)
            refine lv_iload hx hb dX12_oneQuarter_46 (lv_at hl 0 rfl) ?_
            refine lv_iadd hx hb dX12_oneQuarter_48 ?_
            refine lv_topi (fun v57 ev57 => ?_)
            refine q_min C kN_X12_270 dX12_oneQuarter_49 hl.1 ⟨Nat.le_of_ble_eq_true rfl, Nat.le_of_ble_eq_true rfl, Nat.le_of_ble_eq_true rfl, Nat.le_of_ble_eq_true rfl⟩ (fun v58 fv58 => ?_)
            refine lv_istore (lv' := [(5, .int v58), (4, .int v54), (3, .int x3_4), (2, .int x2_4), (0, .ref a0), (1, .int x1)]) hx hb dX12_oneQuarter_52 hl (by decide) rfl (fun ls hl => ?_)
            refine lv_aload_n hx hb dX12_oneQuarter_54 rfl (lv_at hl 4 rfl) ?_
            refine q_gr (T := TX12) C S56.1 ga0 1 kF_X12_13 dX12_oneQuarter_55 rfl rfl (by decide) rfl (by decide) rfl (fun g59 => ?_)
            refine lv_iload_n hx hb dX12_oneQuarter_58 rfl (lv_at hl 2 rfl) ?_
            refine lv_iconst (v := 0) hx hb dX12_oneQuarter_59 (by decide) ?_
            refine callS_Pi C S56.1 S56.2.1.2.1 (c_X12_houseAt l D G x3_4 (0 : Int32) (by omega) (by omega)) kS_X12_49 (trivial) dX12_oneQuarter_60 hl.1 cd_X12_houseAt ⟨Nat.le_of_ble_eq_true rfl, Nat.le_of_ble_eq_true rfl, Nat.le_of_ble_eq_true rfl, Nat.le_of_ble_eq_true rfl, Nat.le_of_ble_eq_true rfl⟩ (fun v60 q60 => ?_)
            refine lv_dup2_11 hx hb dX12_oneQuarter_63 rfl rfl ?_
            have n61 : aN H56 (fR D H56 11 a0 1) = 2052 := len_31 S56.1 g59
            refine q_iald C S56.1 g59 (by omega) (by omega) dX12_oneQuarter_64 rfl (by decide) ?_
            refine lv_topi (fun v62 ev62 => ?_)
            refine lv_iload hx hb dX12_oneQuarter_65 (lv_at hl 0 rfl) ?_
            refine lv_isub hx hb dX12_oneQuarter_67 ?_
            refine lv_topi (fun v63 ev63 => ?_)
            refine q_iast C S56 g59 (by omega) (by omega) dX12_oneQuarter_68 rfl (by decide) (by decide +kernel) (fun _ _ h => wk_low _ _ (by omega) (fun h9 => by omega) (fun h9 => by omega) (fun h9 => by omega) (fun j hj h9 => by omega) h) (fun H64 L64 S64 P64 => ?_) (hs := fun _ => Or.inr (vy_no (by omega) (by omega) (by omega) (by omega) (fun h9 hh9 => by omega) (fun j9 hj9 => by omega)))
            refine lv_aload_n hx hb dX12_oneQuarter_69 rfl (lv_at hl 4 rfl) ?_
            refine q_gr (T := TX12) C S64.1 ga0 1 kF_X12_13 dX12_oneQuarter_70 rfl rfl (by decide) rfl (by decide) rfl (fun g65 => ?_)
            refine lv_bipush (v := 9) hx hb dX12_oneQuarter_73 (by decide) ?_
            refine lv_sipush (v := 9999) hx hb dX12_oneQuarter_75 (by decide) ?_
            refine lv_aload_n hx hb dX12_oneQuarter_78 rfl (lv_at hl 4 rfl) ?_
            refine q_gr (T := TX12) C S64.1 ga0 1 kF_X12_13 dX12_oneQuarter_79 rfl rfl (by decide) rfl (by decide) rfl (fun g66 => ?_)
            refine lv_bipush (v := 9) hx hb dX12_oneQuarter_82 (by decide) ?_
            have n67 : aN H64 (fR D H64 11 a0 1) = 2052 := len_31 S64.1 g66
            have k_9 : (9 : Int32).toInt = 9 := by decide
            refine q_iald C S64.1 g66 (by omega) (by omega) dX12_oneQuarter_84 rfl (by decide) ?_
            refine lv_topi (fun v68 ev68 => ?_)
            refine lv_iload hx hb dX12_oneQuarter_85 (lv_at hl 0 rfl) ?_
            refine lv_iadd hx hb dX12_oneQuarter_87 ?_
            refine lv_topi (fun v69 ev69 => ?_)
            have k_9999 : (9999 : Int32).toInt = 9999 := by decide
            refine q_min C kN_X12_270 dX12_oneQuarter_88 hl.1 ⟨Nat.le_of_ble_eq_true rfl, Nat.le_of_ble_eq_true rfl, Nat.le_of_ble_eq_true rfl, Nat.le_of_ble_eq_true rfl⟩ (fun v70 fv70 => ?_)
            refine q_iast C S64 g65 (by omega) (by omega) dX12_oneQuarter_91 rfl (by decide) (by decide +kernel) (fun _ _ h => wk_low _ _ (by omega) (fun h9 => by omega) (fun h9 => by omega) (fun h9 => by omega) (fun j hj h9 => by omega) h) (fun H71 L71 S71 P71 => ?_) (hs := fun _ => Or.inr (vy_no (by omega) (by omega) (by omega) (by omega) (fun h9 hh9 => by omega) (fun j9 hj9 => by omega)))
            refine lv_iload_n hx hb dX12_oneQuarter_92 rfl (lv_at hl 3 rfl) ?_
            refine lv_iload hx hb dX12_oneQuarter_93 (lv_at hl 0 rfl) ?_
            refine lv_iadd hx hb dX12_oneQuarter_95 ?_
            refine lv_topi (fun v72 ev72 => ?_)
            refine lv_istore_n (lv' := [(2, .int v72), (5, .int v58), (4, .int v54), (3, .int x3_4), (0, .ref a0), (1, .int x1)]) hx hb dX12_oneQuarter_96 rfl hl (by decide) rfl (fun ls hl => ?_)
            obtain ⟨v73, ev73⟩ : ∃ y : Int32, y = x3_4 + (1) := ⟨_, rfl⟩
            have k_1 : (1 : Int32).toInt = 1 := by decide
            have f74 : v73.toInt = x3_4.toInt + (1) := by rw [ev73]; exact i_addc k_1 (by omega) (by omega)
            refine lv_iinc (v := v73) (lv' := [(3, .int v73), (2, .int v72), (5, .int v58), (4, .int v54), (0, .ref a0), (1, .int x1)]) hx hb dX12_oneQuarter_97 hl (k := 3) rfl (by rw [ev73]; rfl) (by decide) rfl (fun ls hl => ?_)
            refine lv_goto (tgt := 4) hx hb dX12_oneQuarter_100 (by decide) ?_
            exact ih4 v73 v72 H71 L71 ls S71 (by omega) (by omega) (lv_sub hl [0, 1, 4, 5] rfl)
  have k_0 : (0 : Int32).toInt = 0 := by decide
  exact Lp4 2147483648 (0 : Int32) (0 : Int32) s.heap [] ls S (by omega)  (by omega) (lv_sub hl [0, 1, 2, 3] rfl)

set_option maxRecDepth 100000 in
set_option maxHeartbeats 4000000 in
theorem c_X12_goesOn (l : Launch) (D : DD) (G : Nat → Nat) (a0 : Nat) (x1 : Int32) (x2 : Int32) (ga0 : G a0 = 30) (ix2 : 0 ≤ x2.toInt ∧ x2.toInt ≤ 1) : CE l D G yX12_goesOn cX12_goesOn 5 (some .int) 12 [.ref a0, .int x1, .int x2] (fun _ => True) [(31, 0), (38, 0)] (xI (fun H r H1 => True)) := by
  refine enter (by decide) (Nat.le_of_ble_eq_true rfl) ?_
  intro p e s m args below meth c ls Q hA hQ C hr hO hpre hl
  have hx := C.1
  have hb := C.2.1
  have S : Sd D G [(31, 0), (38, 0)] s.heap s.heap [] := Sd.start hO
  have hl : lv_has ls 5 [(0, .ref a0), (1, .int x1), (2, .int x2)] := hl
  refine lv_iconst (v := 0) hx hb dX12_goesOn_0 (by decide) ?_
  refine lv_istore_n (lv' := [(3, .int (0 : Int32)), (0, .ref a0), (1, .int x1), (2, .int x2)]) hx hb dX12_goesOn_1 rfl hl (by decide) rfl (fun ls hl => ?_)
  refine lv_iconst (v := 0) hx hb dX12_goesOn_2 (by decide) ?_
  refine lv_istore (lv' := [(4, .int (0 : Int32)), (3, .int (0 : Int32)), (0, .ref a0), (1, .int x1), (2, .int x2)]) hx hb dX12_goesOn_3 hl (by decide) rfl (fun ls hl => ?_)
  have Lp5 : ∀ (n : Nat) (x4_5 : Int32) (x3_5 : Int32) (H_5 : Heap) (L_5 : List Loc) (ls : Array Slot), (Sd D G [(31, 0), (38, 0)] s.heap H_5 L_5) → (0 ≤ x4_5.toInt ∧ x4_5.toInt ≤ 2147483647) → 2147483648 - x4_5.toInt ≤ (n : Int) → lv_has ls 5 [(4, .int x4_5), (3, .int x3_5), (0, .ref a0), (1, .int x1), (2, .int x2)] → W p l e (rmU 12 0 0) s m args below meth c H_5 L_5 0 0 Q (F0 m 5 ls []) := by
    intro n
    induction n with
    | zero =>
      intro x4_5 x3_5 H_5 L_5 ls S_5 j5_0 hn hl
      exact absurd hn (by omega)
    | succ n ih5 =>
      intro x4_5 x3_5 H_5 L_5 ls S_5 j5_0 hn hl
      refine lv_iload hx hb dX12_goesOn_5 (lv_at hl 0 rfl) ?_
      refine lv_iload_n hx hb dX12_goesOn_7 rfl (lv_at hl 3 rfl) ?_
      have r2 := i_rng x1
      refine lv_icmp_ge (tgt := 25) hx hb dX12_goesOn_8 (by decide) (fun c1 => ?_) (fun c1 => ?_)
      · have b1 : x1.toInt ≤ x4_5.toInt := i_le.mp c1
        refine lv_iload_n hx hb dX12_goesOn_25 rfl (lv_at hl 1 rfl) ?_
        exact retE_i hQ C S_5 hr dX12_goesOn_26 (trivial)
      · have b1 : ¬ x1.toInt ≤ x4_5.toInt := fun z9 => c1 (i_le.mpr z9)
        refine lv_iload_n hx hb dX12_goesOn_11 rfl (lv_at hl 1 rfl) ?_
        refine lv_aload_n hx hb dX12_goesOn_12 rfl (lv_at hl 2 rfl) ?_
        refine lv_iload_n hx hb dX12_goesOn_13 rfl (lv_at hl 4 rfl) ?_
        refine callV_Ei C S_5 (c_X12_oneQuarter l D G a0 x2 ga0 (by omega)) kV_X12_341 ga0 (trivial) (by decide +kernel) dX12_goesOn_14 hl.1 rfl rfl (by decide) cd_X12_oneQuarter ⟨Nat.le_of_ble_eq_true rfl, Nat.le_of_ble_eq_true rfl, Nat.le_of_ble_eq_true rfl, Nat.le_of_ble_eq_true rfl, Nat.le_of_ble_eq_true rfl⟩ (fun v3 H3 L3 S3 K3 q3 => ?_)
        refine lv_iadd hx hb dX12_goesOn_17 ?_
        refine lv_topi (fun v4 ev4 => ?_)
        refine lv_istore_n (lv' := [(3, .int v4), (4, .int x4_5), (0, .ref a0), (1, .int x1), (2, .int x2)]) hx hb dX12_goesOn_18 rfl hl (by decide) rfl (fun ls hl => ?_)
        obtain ⟨v5, ev5⟩ : ∃ y : Int32, y = x4_5 + (1) := ⟨_, rfl⟩
        have k_1 : (1 : Int32).toInt = 1 := by decide
        have f6 : v5.toInt = x4_5.toInt + (1) := by rw [ev5]; exact i_addc k_1 (by omega) (by omega)
        refine lv_iinc (v := v5) (lv' := [(4, .int v5), (3, .int v4), (0, .ref a0), (1, .int x1), (2, .int x2)]) hx hb dX12_goesOn_19 hl (k := 1) rfl (by rw [ev5]; rfl) (by decide) rfl (fun ls hl => ?_)
        refine lv_goto (tgt := 5) hx hb dX12_goesOn_22 (by decide) ?_
        exact ih5 v5 v4 H3 L3 ls S3 (by omega) (by omega) (lv_sub hl [0, 1, 2, 3, 4] rfl)
  have k_0 : (0 : Int32).toInt = 0 := by decide
  exact Lp5 2147483648 (0 : Int32) (0 : Int32) s.heap [] ls S (by omega)  (by omega) (lv_sub hl [0, 1, 2, 3, 4] rfl)

set_option maxRecDepth 100000 in
set_option maxHeartbeats 4000000 in
theorem c_X12_quarters (l : Launch) (D : DD) (G : Nat → Nat) (a0 : Nat) (x1 : Int32) (ga0 : G a0 = 30) : CE l D G yX12_quarters cX12_quarters 2 (some .int) 13 [.ref a0, .int x1] (fun _ => True) [(30, 0), (31, 0), (38, 0), (35, 0), (30, 7)] (xI (fun H r H1 => (True) ∧ (∀ Vv Kv : Sg, MI D H a0 Vv Kv → MI D H1 a0 Vv Kv))) := by
  refine enter (by decide) (Nat.le_of_ble_eq_true rfl) ?_
  intro p e s m args below meth c ls Q hA hQ C hr hO hpre hl
  have hx := C.1
  have hb := C.2.1
  have S : Sd D G [(30, 0), (31, 0), (38, 0), (35, 0), (30, 7)] s.heap s.heap [] := Sd.start hO
  have hl : lv_has ls 2 [(0, .ref a0), (1, .int x1)] := hl
  have rk0 : ∀ Vv Kv : Sg, MI D s.heap a0 Vv Kv → MI D s.heap a0 Vv Kv := fun Vv Kv hv => hv
  refine lv_aload_n hx hb dX12_quarters_0 rfl (lv_at hl 0 rfl) ?_
  refine lv_iconst (v := 0) hx hb dX12_quarters_1 (by decide) ?_
  have k_0 : (0 : Int32).toInt = 0 := by decide
  refine q_put (T := TX12) C S ga0 0 kF_X12_3 dX12_quarters_2 rfl rfl (by decide) (by decide) rfl rfl rfl rfl rfl (vok_a rfl) (by decide +kernel) (fun H1 L1 S1 P1 => ?_)
  have rk1 : ∀ Vv Kv : Sg, MI D s.heap a0 Vv Kv → MI D H1 a0 Vv Kv := fun Vv Kv hv => (rk0 Vv Kv hv).keep S.1 ga0 (Pt.keep ga0 rfl (by decide) P1) (by decide)
  refine lv_aload_n hx hb dX12_quarters_5 rfl (lv_at hl 0 rfl) ?_
  refine lv_iload_n hx hb dX12_quarters_6 rfl (lv_at hl 1 rfl) ?_
  refine lv_iconst (v := 1) hx hb dX12_quarters_7 (by decide) ?_
  refine lv_bipush (v := 60) hx hb dX12_quarters_8 (by decide) ?_
  have k_1 : (1 : Int32).toInt = 1 := by decide
  have k_60 : (60 : Int32).toInt = 60 := by decide
  refine callS_Pi C S1.1 S1.2.1.2.1 (c_X12_in l D G x1 (1 : Int32) (60 : Int32)) kS_X12_63 (trivial) dX12_quarters_10 hl.1 cd_X12_in ⟨Nat.le_of_ble_eq_true rfl, Nat.le_of_ble_eq_true rfl, Nat.le_of_ble_eq_true rfl, Nat.le_of_ble_eq_true rfl, Nat.le_of_ble_eq_true rfl⟩ (fun v2 q2 => ?_)
  rcases q2 with q2 | q2
  · skip
    refine lv_if_ne (tgt := 20) hx hb dX12_quarters_13 (by decide) (fun c3 => ?_) (fun c3 => ?_)
    · have b3 : ¬ v2.toInt = (0 : Int32).toInt := fun z9 => c3 (i_eq.mpr z9)
      refine lv_iconst (v := 0) hx hb dX12_quarters_20 (by decide) ?_
      refine lv_iconst (v := 1) hx hb dX12_quarters_21 (by decide) ?_
      refine callV_Ei C S1 (c_X12_throwsIf l D G a0 (0 : Int32) (1 : Int32) ga0 (by omega)) kV_X12_246 ga0 (trivial) (by decide +kernel) dX12_quarters_22 hl.1 rfl rfl (by decide) cd_X12_throwsIf ⟨Nat.le_of_ble_eq_true rfl, Nat.le_of_ble_eq_true rfl, Nat.le_of_ble_eq_true rfl, Nat.le_of_ble_eq_true rfl, Nat.le_of_ble_eq_true rfl⟩ (fun v4 H4 L4 S4 K4 q4 => ?_)
      have rk4 : ∀ Vv Kv : Sg, MI D s.heap a0 Vv Kv → MI D H4 a0 Vv Kv := fun Vv Kv hv => (rk1 Vv Kv hv).keep S1.1 ga0 K4 (by decide +kernel)
      refine lv_if_eq (tgt := 30) hx hb dX12_quarters_25 (by decide) (fun c5 => ?_) (fun c5 => ?_)
      · have b5 : v4.toInt = (0 : Int32).toInt := i_eq.mp c5
        refine lv_aload_n hx hb dX12_quarters_30 rfl (lv_at hl 0 rfl) ?_
        refine callV_Ev C S4 (c_X12_remembers l D G a0 ga0) kV_X12_317 ga0 (trivial) (by decide +kernel) dX12_quarters_31 hl.1 rfl rfl (by decide) cd_X12_remembers ⟨Nat.le_of_ble_eq_true rfl, Nat.le_of_ble_eq_true rfl, Nat.le_of_ble_eq_true rfl, Nat.le_of_ble_eq_true rfl, Nat.le_of_ble_eq_true rfl⟩ (fun H6 L6 S6 K6 q6 => ?_)
        obtain ⟨q6, rq6⟩ := q6
        have rk6 : ∀ Vv Kv : Sg, MI D s.heap a0 Vv Kv → MI D H6 a0 Vv Kv := fun Vv Kv hv => rq6 Vv Kv (rk4 Vv Kv hv)
        refine lv_aload_n hx hb dX12_quarters_34 rfl (lv_at hl 0 rfl) ?_
        refine lv_iload_n hx hb dX12_quarters_35 rfl (lv_at hl 1 rfl) ?_
        refine lv_iconst (v := 0) hx hb dX12_quarters_36 (by decide) ?_
        refine callV_Ei C S6 (c_X12_goesOn l D G a0 x1 (0 : Int32) ga0 (by omega)) kV_X12_344 ga0 (trivial) (by decide +kernel) dX12_quarters_37 hl.1 rfl rfl (by decide) cd_X12_goesOn ⟨Nat.le_of_ble_eq_true rfl, Nat.le_of_ble_eq_true rfl, Nat.le_of_ble_eq_true rfl, Nat.le_of_ble_eq_true rfl, Nat.le_of_ble_eq_true rfl⟩ (fun v7 H7 L7 S7 K7 q7 => ?_)
        have rk7 : ∀ Vv Kv : Sg, MI D s.heap a0 Vv Kv → MI D H7 a0 Vv Kv := fun Vv Kv hv => (rk6 Vv Kv hv).keep S6.1 ga0 K7 (by decide +kernel)
        exact retE_i hQ C S7 hr dX12_quarters_40 (⟨trivial, rk7⟩)
      · have b5 : ¬ v4.toInt = (0 : Int32).toInt := fun z9 => c5 (i_eq.mpr z9)
        exact absurd b5 (by omega)
    · have b3 : v2.toInt = (0 : Int32).toInt := i_eq.mp c3
      exact absurd b3 (by omega)
  · skip
    refine lv_if_ne (tgt := 20) hx hb dX12_quarters_13 (by decide) (fun c8 => ?_) (fun c8 => ?_)
    · have b8 : ¬ v2.toInt = (0 : Int32).toInt := fun z9 => c8 (i_eq.mpr z9)
      exact absurd b8 (by omega)
    · have b8 : v2.toInt = (0 : Int32).toInt := i_eq.mp c8
      refine lv_iconst (v := 1) hx hb dX12_quarters_16 (by decide) ?_
      refine lv_goto (tgt := 21) hx hb dX12_quarters_17 (by decide) ?_
      refine lv_iconst (v := 1) hx hb dX12_quarters_21 (by decide) ?_
      refine callV_Ei C S1 (c_X12_throwsIf l D G a0 (1 : Int32) (1 : Int32) ga0 (by omega)) kV_X12_246 ga0 (trivial) (by decide +kernel) dX12_quarters_22 hl.1 rfl rfl (by decide) cd_X12_throwsIf ⟨Nat.le_of_ble_eq_true rfl, Nat.le_of_ble_eq_true rfl, Nat.le_of_ble_eq_true rfl, Nat.le_of_ble_eq_true rfl, Nat.le_of_ble_eq_true rfl⟩ (fun v9 H9 L9 S9 K9 q9 => ?_)
      have rk9 : ∀ Vv Kv : Sg, MI D s.heap a0 Vv Kv → MI D H9 a0 Vv Kv := fun Vv Kv hv => (rk1 Vv Kv hv).keep S1.1 ga0 K9 (by decide +kernel)
      refine lv_if_eq (tgt := 30) hx hb dX12_quarters_25 (by decide) (fun c10 => ?_) (fun c10 => ?_)
      · have b10 : v9.toInt = (0 : Int32).toInt := i_eq.mp c10
        exact absurd b10 (by omega)
      · have b10 : ¬ v9.toInt = (0 : Int32).toInt := fun z9 => c10 (i_eq.mpr z9)
        refine lv_iconst (v := 0) hx hb dX12_quarters_28 (by decide) ?_
        exact retE_i hQ C S9 hr dX12_quarters_29 (⟨trivial, rk9⟩)

set_option maxRecDepth 100000 in
set_option maxHeartbeats 4000000 in
theorem c_X12_ahead (l : Launch) (D : DD) (G : Nat → Nat) (a0 : Nat) (x1 : Int32) (x2 : Int32) (ga0 : G a0 = 30) : CE l D G yX12_ahead cX12_ahead 4 (some .int) 13 [.ref a0, .int x1, .int x2] (fun _ => True) [(30, 0), (31, 0), (38, 0), (34, 0), (31, 1)] (xI (fun H r H1 => (True) ∧ (∀ Vv Kv : Sg, MI D H a0 Vv Kv → MI D H1 a0 Vv Kv))) := by
  refine enter (by decide) (Nat.le_of_ble_eq_true rfl) ?_
  intro p e s m args below meth c ls Q hA hQ C hr hO hpre hl
  have hx := C.1
  have hb := C.2.1
  have S : Sd D G [(30, 0), (31, 0), (38, 0), (34, 0), (31, 1)] s.heap s.heap [] := Sd.start hO
  have hl : lv_has ls 4 [(0, .ref a0), (1, .int x1), (2, .int x2)] := hl
  have rk0 : ∀ Vv Kv : Sg, MI D s.heap a0 Vv Kv → MI D s.heap a0 Vv Kv := fun Vv Kv hv => hv
  refine lv_aload_n hx hb dX12_ahead_0 rfl (lv_at hl 0 rfl) ?_
  refine lv_iconst (v := 0) hx hb dX12_ahead_1 (by decide) ?_
  have k_0 : (0 : Int32).toInt = 0 := by decide
  refine q_put (T := TX12) C S ga0 0 kF_X12_3 dX12_ahead_2 rfl rfl (by decide) (by decide) rfl rfl rfl rfl rfl (vok_a rfl) (by decide +kernel) (fun H1 L1 S1 P1 => ?_)
  have rk1 : ∀ Vv Kv : Sg, MI D s.heap a0 Vv Kv → MI D H1 a0 Vv Kv := fun Vv Kv hv => (rk0 Vv Kv hv).keep S.1 ga0 (Pt.keep ga0 rfl (by decide) P1) (by decide)
  refine lv_aload_n hx hb dX12_ahead_5 rfl (lv_at hl 0 rfl) ?_
  refine lv_aload_n hx hb dX12_ahead_6 rfl (lv_at hl 0 rfl) ?_
  refine lv_iload_n hx hb dX12_ahead_7 rfl (lv_at hl 1 rfl) ?_
  refine callV_Pi C S1.1 S1.2.1.2.1 (c_X12_noHouse l D G a0 x1 ga0) kV_X12_299 ga0 (trivial) dX12_ahead_8 hl.1 rfl rfl (by decide) cd_X12_noHouse ⟨Nat.le_of_ble_eq_true rfl, Nat.le_of_ble_eq_true rfl, Nat.le_of_ble_eq_true rfl, Nat.le_of_ble_eq_true rfl, Nat.le_of_ble_eq_true rfl⟩ (fun v2 q2 => ?_)
  rcases q2 with q2 | q2
  · skip
    refine lv_iconst (v := 1) hx hb dX12_ahead_11 (by decide) ?_
    have k_1 : (1 : Int32).toInt = 1 := by decide
    refine callV_Ei C S1 (c_X12_throwsIf l D G a0 v2 (1 : Int32) ga0 (by omega)) kV_X12_246 ga0 (trivial) (by decide +kernel) dX12_ahead_12 hl.1 rfl rfl (by decide) cd_X12_throwsIf ⟨Nat.le_of_ble_eq_true rfl, Nat.le_of_ble_eq_true rfl, Nat.le_of_ble_eq_true rfl, Nat.le_of_ble_eq_true rfl, Nat.le_of_ble_eq_true rfl⟩ (fun v3 H3 L3 S3 K3 q3 => ?_)
    have rk3 : ∀ Vv Kv : Sg, MI D s.heap a0 Vv Kv → MI D H3 a0 Vv Kv := fun Vv Kv hv => (rk1 Vv Kv hv).keep S1.1 ga0 K3 (by decide +kernel)
    refine lv_if_ne (tgt := 30) hx hb dX12_ahead_15 (by decide) (fun c4 => ?_) (fun c4 => ?_)
    · have b4 : ¬ v3.toInt = (0 : Int32).toInt := fun z9 => c4 (i_eq.mpr z9)
      exact absurd b4 (by omega)
    · have b4 : v3.toInt = (0 : Int32).toInt := i_eq.mp c4
      refine lv_aload_n hx hb dX12_ahead_18 rfl (lv_at hl 0 rfl) ?_
      refine lv_iload_n hx hb dX12_ahead_19 rfl (lv_at hl 2 rfl) ?_
      refine callS_Pi C S3.1 S3.2.1.2.1 (c_X12_noAhead l D G x2) kS_X12_348 (trivial) dX12_ahead_20 hl.1 cd_X12_noAhead ⟨Nat.le_of_ble_eq_true rfl, Nat.le_of_ble_eq_true rfl, Nat.le_of_ble_eq_true rfl, Nat.le_of_ble_eq_true rfl, Nat.le_of_ble_eq_true rfl⟩ (fun v5 q5 => ?_)
      rcases q5 with q5 | q5
      · skip
        refine lv_iconst (v := 2) hx hb dX12_ahead_23 (by decide) ?_
        have k_2 : (2 : Int32).toInt = 2 := by decide
        refine callV_Ei C S3 (c_X12_throwsIf l D G a0 v5 (2 : Int32) ga0 (by omega)) kV_X12_246 ga0 (trivial) (by decide +kernel) dX12_ahead_24 hl.1 rfl rfl (by decide) cd_X12_throwsIf ⟨Nat.le_of_ble_eq_true rfl, Nat.le_of_ble_eq_true rfl, Nat.le_of_ble_eq_true rfl, Nat.le_of_ble_eq_true rfl, Nat.le_of_ble_eq_true rfl⟩ (fun v6 H6 L6 S6 K6 q6 => ?_)
        have rk6 : ∀ Vv Kv : Sg, MI D s.heap a0 Vv Kv → MI D H6 a0 Vv Kv := fun Vv Kv hv => (rk3 Vv Kv hv).keep S3.1 ga0 K6 (by decide +kernel)
        refine lv_if_eq (tgt := 32) hx hb dX12_ahead_27 (by decide) (fun c7 => ?_) (fun c7 => ?_)
        · have b7 : v6.toInt = (0 : Int32).toInt := i_eq.mp c7
          refine lv_aload_n hx hb dX12_ahead_32 rfl (lv_at hl 0 rfl) ?_
          refine callV_Ev C S6 (c_X12_keepsAll l D G a0 ga0) kV_X12_351 ga0 (trivial) (by decide +kernel) dX12_ahead_33 hl.1 rfl rfl (by decide) cd_X12_keepsAll ⟨Nat.le_of_ble_eq_true rfl, Nat.le_of_ble_eq_true rfl, Nat.le_of_ble_eq_true rfl, Nat.le_of_ble_eq_true rfl, Nat.le_of_ble_eq_true rfl⟩ (fun H8 L8 S8 K8 q8 => ?_)
          obtain ⟨q8, rq8⟩ := q8
          have rk8 : ∀ Vv Kv : Sg, MI D s.heap a0 Vv Kv → MT D H8 a0 Vv Kv := fun Vv Kv hv => rq8 Vv Kv (rk6 Vv Kv hv)
          refine lv_aload_n hx hb dX12_ahead_36 rfl (lv_at hl 0 rfl) ?_
          refine lv_iload_n hx hb dX12_ahead_37 rfl (lv_at hl 2 rfl) ?_
          refine lv_iconst (v := 1) hx hb dX12_ahead_38 (by decide) ?_
          refine callV_Ei C S8 (c_X12_goesOn l D G a0 x2 (1 : Int32) ga0 (by omega)) kV_X12_344 ga0 (trivial) (by decide +kernel) dX12_ahead_39 hl.1 rfl rfl (by decide) cd_X12_goesOn ⟨Nat.le_of_ble_eq_true rfl, Nat.le_of_ble_eq_true rfl, Nat.le_of_ble_eq_true rfl, Nat.le_of_ble_eq_true rfl, Nat.le_of_ble_eq_true rfl⟩ (fun v9 H9 L9 S9 K9 q9 => ?_)
          have rk9 : ∀ Vv Kv : Sg, MI D s.heap a0 Vv Kv → MT D H9 a0 Vv Kv := fun Vv Kv hv => (rk8 Vv Kv hv).keep S8.1 ga0 K9 (by decide +kernel)
          refine lv_pop hx hb dX12_ahead_42 rfl ?_
          refine lv_aload_n hx hb dX12_ahead_43 rfl (lv_at hl 0 rfl) ?_
          refine lv_iload_n hx hb dX12_ahead_44 rfl (lv_at hl 1 rfl) ?_
          refine lv_iconst (v := 0) hx hb dX12_ahead_45 (by decide) ?_
          refine callV_Pi C S9.1 S9.2.1.2.1 (c_X12_of l D G a0 x1 (0 : Int32) ga0 (by omega) (by omega)) kV_X12_255 ga0 (trivial) dX12_ahead_46 hl.1 rfl rfl (by decide) cd_X12_of ⟨Nat.le_of_ble_eq_true rfl, Nat.le_of_ble_eq_true rfl, Nat.le_of_ble_eq_true rfl, Nat.le_of_ble_eq_true rfl, Nat.le_of_ble_eq_true rfl⟩ (fun v10 q10 => ?_)
          refine lv_istore_n (lv' := [(3, .int v10), (0, .ref a0), (1, .int x1), (2, .int x2)]) hx hb dX12_ahead_49 rfl hl (by decide) rfl (fun ls hl => ?_)
          refine lv_aload_n hx hb dX12_ahead_50 rfl (lv_at hl 1 rfl) ?_
          refine callV_Ev C S9 (c_X12_bringsBack l D G a0 ga0) kV_X12_354 ga0 (trivial) (by decide +kernel) dX12_ahead_51 hl.1 rfl rfl (by decide) cd_X12_bringsBack ⟨Nat.le_of_ble_eq_true rfl, Nat.le_of_ble_eq_true rfl, Nat.le_of_ble_eq_true rfl, Nat.le_of_ble_eq_true rfl, Nat.le_of_ble_eq_true rfl⟩ (fun H11 L11 S11 K11 q11 => ?_)
          obtain ⟨q11, rq11⟩ := q11
          have rk11 : ∀ Vv Kv : Sg, MI D s.heap a0 Vv Kv → MT D H11 a0 Vv Kv := fun Vv Kv hv => rq11 Vv Kv (rk9 Vv Kv hv)
          refine lv_iload_n hx hb dX12_ahead_54 rfl (lv_at hl 0 rfl) ?_
          exact retE_i hQ C S11 hr dX12_ahead_55 (⟨trivial, fun Vv Kv hv => (rk11 Vv Kv hv).1⟩)
        · have b7 : ¬ v6.toInt = (0 : Int32).toInt := fun z9 => c7 (i_eq.mpr z9)
          exact absurd b7 (by omega)
      · skip
        refine lv_iconst (v := 2) hx hb dX12_ahead_23 (by decide) ?_
        have k_2 : (2 : Int32).toInt = 2 := by decide
        refine callV_Ei C S3 (c_X12_throwsIf l D G a0 v5 (2 : Int32) ga0 (by omega)) kV_X12_246 ga0 (trivial) (by decide +kernel) dX12_ahead_24 hl.1 rfl rfl (by decide) cd_X12_throwsIf ⟨Nat.le_of_ble_eq_true rfl, Nat.le_of_ble_eq_true rfl, Nat.le_of_ble_eq_true rfl, Nat.le_of_ble_eq_true rfl, Nat.le_of_ble_eq_true rfl⟩ (fun v12 H12 L12 S12 K12 q12 => ?_)
        have rk12 : ∀ Vv Kv : Sg, MI D s.heap a0 Vv Kv → MI D H12 a0 Vv Kv := fun Vv Kv hv => (rk3 Vv Kv hv).keep S3.1 ga0 K12 (by decide +kernel)
        refine lv_if_eq (tgt := 32) hx hb dX12_ahead_27 (by decide) (fun c13 => ?_) (fun c13 => ?_)
        · have b13 : v12.toInt = (0 : Int32).toInt := i_eq.mp c13
          exact absurd b13 (by omega)
        · have b13 : ¬ v12.toInt = (0 : Int32).toInt := fun z9 => c13 (i_eq.mpr z9)
          refine lv_iconst (v := 0) hx hb dX12_ahead_30 (by decide) ?_
          exact retE_i hQ C S12 hr dX12_ahead_31 (⟨trivial, rk12⟩)
  · skip
    refine lv_iconst (v := 1) hx hb dX12_ahead_11 (by decide) ?_
    have k_1 : (1 : Int32).toInt = 1 := by decide
    refine callV_Ei C S1 (c_X12_throwsIf l D G a0 v2 (1 : Int32) ga0 (by omega)) kV_X12_246 ga0 (trivial) (by decide +kernel) dX12_ahead_12 hl.1 rfl rfl (by decide) cd_X12_throwsIf ⟨Nat.le_of_ble_eq_true rfl, Nat.le_of_ble_eq_true rfl, Nat.le_of_ble_eq_true rfl, Nat.le_of_ble_eq_true rfl, Nat.le_of_ble_eq_true rfl⟩ (fun v14 H14 L14 S14 K14 q14 => ?_)
    have rk14 : ∀ Vv Kv : Sg, MI D s.heap a0 Vv Kv → MI D H14 a0 Vv Kv := fun Vv Kv hv => (rk1 Vv Kv hv).keep S1.1 ga0 K14 (by decide +kernel)
    refine lv_if_ne (tgt := 30) hx hb dX12_ahead_15 (by decide) (fun c15 => ?_) (fun c15 => ?_)
    · have b15 : ¬ v14.toInt = (0 : Int32).toInt := fun z9 => c15 (i_eq.mpr z9)
      refine lv_iconst (v := 0) hx hb dX12_ahead_30 (by decide) ?_
      exact retE_i hQ C S14 hr dX12_ahead_31 (⟨trivial, rk14⟩)
    · have b15 : v14.toInt = (0 : Int32).toInt := i_eq.mp c15
      exact absurd b15 (by omega)

set_option maxRecDepth 100000 in
set_option maxHeartbeats 4000000 in
theorem c_X12_broke (l : Launch) (D : DD) (G : Nat → Nat) (a0 : Nat) (x1 : Int32) (ga0 : G a0 = 30) : CE l D G yX12_broke cX12_broke 4 (some .int) 12 [.ref a0, .int x1] (fun _ => True) [(30, 0), (31, 0), (38, 0), (34, 0), (31, 1)] (xI (fun H r H1 => (True) ∧ (∀ Vv Kv : Sg, MI D H a0 Vv Kv → MI D H1 a0 Vv Kv))) := by
  refine enter (by decide) (Nat.le_of_ble_eq_true rfl) ?_
  intro p e s m args below meth c ls Q hA hQ C hr hO hpre hl
  have hx := C.1
  have hb := C.2.1
  have S : Sd D G [(30, 0), (31, 0), (38, 0), (34, 0), (31, 1)] s.heap s.heap [] := Sd.start hO
  have hl : lv_has ls 4 [(0, .ref a0), (1, .int x1)] := hl
  have rk0 : ∀ Vv Kv : Sg, MI D s.heap a0 Vv Kv → MI D s.heap a0 Vv Kv := fun Vv Kv hv => hv
  refine lv_aload_n hx hb dX12_broke_0 rfl (lv_at hl 0 rfl) ?_
  refine lv_iconst (v := 0) hx hb dX12_broke_1 (by decide) ?_
  have k_0 : (0 : Int32).toInt = 0 := by decide
  refine q_put (T := TX12) C S ga0 0 kF_X12_3 dX12_broke_2 rfl rfl (by decide) (by decide) rfl rfl rfl rfl rfl (vok_a rfl) (by decide +kernel) (fun H1 L1 S1 P1 => ?_)
  have rk1 : ∀ Vv Kv : Sg, MI D s.heap a0 Vv Kv → MI D H1 a0 Vv Kv := fun Vv Kv hv => (rk0 Vv Kv hv).keep S.1 ga0 (Pt.keep ga0 rfl (by decide) P1) (by decide)
  refine lv_aload_n hx hb dX12_broke_5 rfl (lv_at hl 0 rfl) ?_
  refine lv_aload_n hx hb dX12_broke_6 rfl (lv_at hl 0 rfl) ?_
  refine lv_iload_n hx hb dX12_broke_7 rfl (lv_at hl 1 rfl) ?_
  refine callV_Pi C S1.1 S1.2.1.2.1 (c_X12_noHouse l D G a0 x1 ga0) kV_X12_299 ga0 (trivial) dX12_broke_8 hl.1 rfl rfl (by decide) cd_X12_noHouse ⟨Nat.le_of_ble_eq_true rfl, Nat.le_of_ble_eq_true rfl, Nat.le_of_ble_eq_true rfl, Nat.le_of_ble_eq_true rfl, Nat.le_of_ble_eq_true rfl⟩ (fun v2 q2 => ?_)
  rcases q2 with q2 | q2
  · skip
    refine lv_iconst (v := 1) hx hb dX12_broke_11 (by decide) ?_
    have k_1 : (1 : Int32).toInt = 1 := by decide
    refine callV_Ei C S1 (c_X12_throwsIf l D G a0 v2 (1 : Int32) ga0 (by omega)) kV_X12_246 ga0 (trivial) (by decide +kernel) dX12_broke_12 hl.1 rfl rfl (by decide) cd_X12_throwsIf ⟨Nat.le_of_ble_eq_true rfl, Nat.le_of_ble_eq_true rfl, Nat.le_of_ble_eq_true rfl, Nat.le_of_ble_eq_true rfl, Nat.le_of_ble_eq_true rfl⟩ (fun v3 H3 L3 S3 K3 q3 => ?_)
    have rk3 : ∀ Vv Kv : Sg, MI D s.heap a0 Vv Kv → MI D H3 a0 Vv Kv := fun Vv Kv hv => (rk1 Vv Kv hv).keep S1.1 ga0 K3 (by decide +kernel)
    refine lv_if_eq (tgt := 20) hx hb dX12_broke_15 (by decide) (fun c4 => ?_) (fun c4 => ?_)
    · have b4 : v3.toInt = (0 : Int32).toInt := i_eq.mp c4
      refine lv_iconst (v := -1) hx hb dX12_broke_20 (by decide) ?_
      refine lv_istore_n (lv' := [(2, .int (-1 : Int32)), (0, .ref a0), (1, .int x1)]) hx hb dX12_broke_21 rfl hl (by decide) rfl (fun ls hl => ?_)
      refine lv_aload_n hx hb dX12_broke_22 rfl (lv_at hl 1 rfl) ?_
      refine callV_Ev C S3 (c_X12_keepsAll l D G a0 ga0) kV_X12_351 ga0 (trivial) (by decide +kernel) dX12_broke_23 hl.1 rfl rfl (by decide) cd_X12_keepsAll ⟨Nat.le_of_ble_eq_true rfl, Nat.le_of_ble_eq_true rfl, Nat.le_of_ble_eq_true rfl, Nat.le_of_ble_eq_true rfl, Nat.le_of_ble_eq_true rfl⟩ (fun H5 L5 S5 K5 q5 => ?_)
      obtain ⟨q5, rq5⟩ := q5
      have rk5 : ∀ Vv Kv : Sg, MI D s.heap a0 Vv Kv → MT D H5 a0 Vv Kv := fun Vv Kv hv => rq5 Vv Kv (rk3 Vv Kv hv)
      refine lv_iconst (v := 0) hx hb dX12_broke_26 (by decide) ?_
      refine lv_istore_n (lv' := [(3, .int (0 : Int32)), (2, .int (-1 : Int32)), (0, .ref a0), (1, .int x1)]) hx hb dX12_broke_27 rfl hl (by decide) rfl (fun ls hl => ?_)
      have Lp28 : ∀ (n : Nat) (x3_28 : Int32) (x2_28 : Int32) (H_28 : Heap) (L_28 : List Loc) (ls : Array Slot), (Sd D G [(30, 0), (31, 0), (38, 0), (34, 0), (31, 1)] s.heap H_28 L_28) → (0 ≤ x3_28.toInt ∧ x3_28.toInt ≤ 2147483647) → (∀ Vv Kv : Sg, MI D s.heap a0 Vv Kv → MT D H_28 a0 Vv Kv) → 2147483648 - x3_28.toInt ≤ (n : Int) → lv_has ls 4 [(3, .int x3_28), (2, .int x2_28), (0, .ref a0), (1, .int x1)] → W p l e (rmU 12 0 0) s m args below meth c H_28 L_28 0 0 Q (F0 m 28 ls []) := by
        intro n
        induction n with
        | zero =>
          intro x3_28 x2_28 H_28 L_28 ls S_28 j28_0 u28_0 hn hl
          exact absurd hn (by omega)
        | succ n ih28 =>
          intro x3_28 x2_28 H_28 L_28 ls S_28 j28_0 u28_0 hn hl
          refine lv_iload_n hx hb dX12_broke_28 rfl (lv_at hl 0 rfl) ?_
          refine lv_bipush (v := 100) hx hb dX12_broke_29 (by decide) ?_
          have k_100 : (100 : Int32).toInt = 100 := by decide
          refine lv_icmp_gt (tgt := 66) hx hb dX12_broke_31 (by decide) (fun c6 => ?_) (fun c6 => ?_)
          · have b6 : (100 : Int32).toInt < x3_28.toInt := i_lt.mp c6
            refine lv_aload_n hx hb dX12_broke_66 rfl (lv_at hl 2 rfl) ?_
            refine callV_Ev C S_28 (c_X12_bringsBack l D G a0 ga0) kV_X12_354 ga0 (trivial) (by decide +kernel) dX12_broke_67 hl.1 rfl rfl (by decide) cd_X12_bringsBack ⟨Nat.le_of_ble_eq_true rfl, Nat.le_of_ble_eq_true rfl, Nat.le_of_ble_eq_true rfl, Nat.le_of_ble_eq_true rfl, Nat.le_of_ble_eq_true rfl⟩ (fun H7 L7 S7 K7 q7 => ?_)
            obtain ⟨q7, rq7⟩ := q7
            have rk7 : ∀ Vv Kv : Sg, MI D s.heap a0 Vv Kv → MT D H7 a0 Vv Kv := fun Vv Kv hv => rq7 Vv Kv (u28_0 Vv Kv hv)
            refine lv_iload_n hx hb dX12_broke_70 rfl (lv_at hl 1 rfl) ?_
            exact retE_i hQ C S7 hr dX12_broke_71 (⟨trivial, fun Vv Kv hv => (rk7 Vv Kv hv).1⟩)
          · have b6 : ¬ (100 : Int32).toInt < x3_28.toInt := fun z9 => c6 (i_lt.mpr z9)
            refine lv_iload_n hx hb dX12_broke_34 rfl (lv_at hl 1 rfl) ?_
            refine lv_iconst (v := -1) hx hb dX12_broke_35 (by decide) ?_
            have k_m1 : (-1 : Int32).toInt = -1 := by decide
            refine lv_icmp_ne (tgt := 66) hx hb dX12_broke_36 (by decide) (fun c8 => ?_) (fun c8 => ?_)
            · have b8 : ¬ x2_28.toInt = (-1 : Int32).toInt := fun z9 => c8 (i_eq.mpr z9)
              refine lv_aload_n hx hb dX12_broke_66 rfl (lv_at hl 2 rfl) ?_
              refine callV_Ev C S_28 (c_X12_bringsBack l D G a0 ga0) kV_X12_354 ga0 (trivial) (by decide +kernel) dX12_broke_67 hl.1 rfl rfl (by decide) cd_X12_bringsBack ⟨Nat.le_of_ble_eq_true rfl, Nat.le_of_ble_eq_true rfl, Nat.le_of_ble_eq_true rfl, Nat.le_of_ble_eq_true rfl, Nat.le_of_ble_eq_true rfl⟩ (fun H9 L9 S9 K9 q9 => ?_)
              obtain ⟨q9, rq9⟩ := q9
              have rk9 : ∀ Vv Kv : Sg, MI D s.heap a0 Vv Kv → MT D H9 a0 Vv Kv := fun Vv Kv hv => rq9 Vv Kv (u28_0 Vv Kv hv)
              refine lv_iload_n hx hb dX12_broke_70 rfl (lv_at hl 1 rfl) ?_
              exact retE_i hQ C S9 hr dX12_broke_71 (⟨trivial, fun Vv Kv hv => (rk9 Vv Kv hv).1⟩)
            · have b8 : x2_28.toInt = (-1 : Int32).toInt := i_eq.mp c8
              refine lv_aload_n hx hb dX12_broke_39 rfl (lv_at hl 2 rfl) ?_
              refine lv_iload_n hx hb dX12_broke_40 rfl (lv_at hl 3 rfl) ?_
              refine lv_iconst (v := 0) hx hb dX12_broke_41 (by decide) ?_
              refine callV_Pi C S_28.1 S_28.2.1.2.1 (c_X12_of l D G a0 x1 (0 : Int32) ga0 (by omega) (by omega)) kV_X12_255 ga0 (trivial) dX12_broke_42 hl.1 rfl rfl (by decide) cd_X12_of ⟨Nat.le_of_ble_eq_true rfl, Nat.le_of_ble_eq_true rfl, Nat.le_of_ble_eq_true rfl, Nat.le_of_ble_eq_true rfl, Nat.le_of_ble_eq_true rfl⟩ (fun v10 q10 => ?_)
              refine lv_if_ne (tgt := 52) hx hb dX12_broke_45 (by decide) (fun c11 => ?_) (fun c11 => ?_)
              · have b11 : ¬ v10.toInt = (0 : Int32).toInt := fun z9 => c11 (i_eq.mpr z9)
                refine lv_iconst (v := -1) hx hb dX12_broke_52 (by decide) ?_
                refine lv_istore_n (lv' := [(2, .int (-1 : Int32)), (3, .int x3_28), (0, .ref a0), (1, .int x1)]) hx hb dX12_broke_53 rfl hl (by decide) rfl (fun ls hl => ?_)
                refine lv_aload_n hx hb dX12_broke_54 rfl (lv_at hl 2 rfl) ?_
                refine lv_iconst (v := 1) hx hb dX12_broke_55 (by decide) ?_
                refine callV_Ei C S_28 (c_X12_oneQuarter l D G a0 (1 : Int32) ga0 (by omega)) kV_X12_341 ga0 (trivial) (by decide +kernel) dX12_broke_56 hl.1 rfl rfl (by decide) cd_X12_oneQuarter ⟨Nat.le_of_ble_eq_true rfl, Nat.le_of_ble_eq_true rfl, Nat.le_of_ble_eq_true rfl, Nat.le_of_ble_eq_true rfl, Nat.le_of_ble_eq_true rfl⟩ (fun v12 H12 L12 S12 K12 q12 => ?_)
                have rk12 : ∀ Vv Kv : Sg, MI D s.heap a0 Vv Kv → MT D H12 a0 Vv Kv := fun Vv Kv hv => (u28_0 Vv Kv hv).keep S_28.1 ga0 K12 (by decide +kernel)
                refine lv_pop hx hb dX12_broke_59 rfl ?_
                obtain ⟨v13, ev13⟩ : ∃ y : Int32, y = x3_28 + (1) := ⟨_, rfl⟩
                have f14 : v13.toInt = x3_28.toInt + (1) := by rw [ev13]; exact i_addc k_1 (by omega) (by omega)
                refine lv_iinc (v := v13) (lv' := [(3, .int v13), (2, .int (-1 : Int32)), (0, .ref a0), (1, .int x1)]) hx hb dX12_broke_60 hl (k := 1) rfl (by rw [ev13]; rfl) (by decide) rfl (fun ls hl => ?_)
                refine lv_goto (tgt := 28) hx hb dX12_broke_63 (by decide) ?_
                exact ih28 v13 (-1 : Int32) H12 L12 ls S12 (by omega) rk12 (by omega) (lv_sub hl [0, 1, 2, 3] rfl)
              · have b11 : v10.toInt = (0 : Int32).toInt := i_eq.mp c11
                refine lv_iload_n hx hb dX12_broke_48 rfl (lv_at hl 0 rfl) ?_
                refine lv_goto (tgt := 53) hx hb dX12_broke_49 (by decide) ?_
                refine lv_istore_n (lv' := [(2, .int x3_28), (3, .int x3_28), (0, .ref a0), (1, .int x1)]) hx hb dX12_broke_53 rfl hl (by decide) rfl (fun ls hl => ?_)
                refine lv_aload_n hx hb dX12_broke_54 rfl (lv_at hl 2 rfl) ?_
                refine lv_iconst (v := 1) hx hb dX12_broke_55 (by decide) ?_
                refine callV_Ei C S_28 (c_X12_oneQuarter l D G a0 (1 : Int32) ga0 (by omega)) kV_X12_341 ga0 (trivial) (by decide +kernel) dX12_broke_56 hl.1 rfl rfl (by decide) cd_X12_oneQuarter ⟨Nat.le_of_ble_eq_true rfl, Nat.le_of_ble_eq_true rfl, Nat.le_of_ble_eq_true rfl, Nat.le_of_ble_eq_true rfl, Nat.le_of_ble_eq_true rfl⟩ (fun v15 H15 L15 S15 K15 q15 => ?_)
                have rk15 : ∀ Vv Kv : Sg, MI D s.heap a0 Vv Kv → MT D H15 a0 Vv Kv := fun Vv Kv hv => (u28_0 Vv Kv hv).keep S_28.1 ga0 K15 (by decide +kernel)
                refine lv_pop hx hb dX12_broke_59 rfl ?_
                obtain ⟨v16, ev16⟩ : ∃ y : Int32, y = x3_28 + (1) := ⟨_, rfl⟩
                have f17 : v16.toInt = x3_28.toInt + (1) := by rw [ev16]; exact i_addc k_1 (by omega) (by omega)
                refine lv_iinc (v := v16) (lv' := [(3, .int v16), (2, .int x3_28), (0, .ref a0), (1, .int x1)]) hx hb dX12_broke_60 hl (k := 1) rfl (by rw [ev16]; rfl) (by decide) rfl (fun ls hl => ?_)
                refine lv_goto (tgt := 28) hx hb dX12_broke_63 (by decide) ?_
                exact ih28 v16 x3_28 H15 L15 ls S15 (by omega) rk15 (by omega) (lv_sub hl [0, 1, 2, 3] rfl)
      have k_m1 : (-1 : Int32).toInt = -1 := by decide
      exact Lp28 2147483648 (0 : Int32) (-1 : Int32) H5 L5 ls S5 (by omega) rk5  (by omega) (lv_sub hl [0, 1, 2, 3] rfl)
    · have b4 : ¬ v3.toInt = (0 : Int32).toInt := fun z9 => c4 (i_eq.mpr z9)
      exact absurd b4 (by omega)
  · skip
    refine lv_iconst (v := 1) hx hb dX12_broke_11 (by decide) ?_
    have k_1 : (1 : Int32).toInt = 1 := by decide
    refine callV_Ei C S1 (c_X12_throwsIf l D G a0 v2 (1 : Int32) ga0 (by omega)) kV_X12_246 ga0 (trivial) (by decide +kernel) dX12_broke_12 hl.1 rfl rfl (by decide) cd_X12_throwsIf ⟨Nat.le_of_ble_eq_true rfl, Nat.le_of_ble_eq_true rfl, Nat.le_of_ble_eq_true rfl, Nat.le_of_ble_eq_true rfl, Nat.le_of_ble_eq_true rfl⟩ (fun v18 H18 L18 S18 K18 q18 => ?_)
    have rk18 : ∀ Vv Kv : Sg, MI D s.heap a0 Vv Kv → MI D H18 a0 Vv Kv := fun Vv Kv hv => (rk1 Vv Kv hv).keep S1.1 ga0 K18 (by decide +kernel)
    refine lv_if_eq (tgt := 20) hx hb dX12_broke_15 (by decide) (fun c19 => ?_) (fun c19 => ?_)
    · have b19 : v18.toInt = (0 : Int32).toInt := i_eq.mp c19
      exact absurd b19 (by omega)
    · have b19 : ¬ v18.toInt = (0 : Int32).toInt := fun z9 => c19 (i_eq.mpr z9)
      refine lv_iconst (v := 0) hx hb dX12_broke_18 (by decide) ?_
      exact retE_i hQ C S18 hr dX12_broke_19 (⟨trivial, rk18⟩)

set_option maxRecDepth 100000 in
set_option maxHeartbeats 4000000 in
theorem c_X12_first (l : Launch) (D : DD) (G : Nat → Nat) (a0 : Nat) (x1 : Int32) (ga0 : G a0 = 30) : CE l D G yX12_first cX12_first 4 (some .int) 12 [.ref a0, .int x1] (fun _ => True) [(30, 0), (31, 0), (38, 0), (34, 0), (31, 1)] (xI (fun H r H1 => (True) ∧ (∀ Vv Kv : Sg, MI D H a0 Vv Kv → MI D H1 a0 Vv Kv))) := by
  refine enter (by decide) (Nat.le_of_ble_eq_true rfl) ?_
  intro p e s m args below meth c ls Q hA hQ C hr hO hpre hl
  have hx := C.1
  have hb := C.2.1
  have S : Sd D G [(30, 0), (31, 0), (38, 0), (34, 0), (31, 1)] s.heap s.heap [] := Sd.start hO
  have hl : lv_has ls 4 [(0, .ref a0), (1, .int x1)] := hl
  have rk0 : ∀ Vv Kv : Sg, MI D s.heap a0 Vv Kv → MI D s.heap a0 Vv Kv := fun Vv Kv hv => hv
  refine lv_aload_n hx hb dX12_first_0 rfl (lv_at hl 0 rfl) ?_
  refine lv_iconst (v := 0) hx hb dX12_first_1 (by decide) ?_
  have k_0 : (0 : Int32).toInt = 0 := by decide
  refine q_put (T := TX12) C S ga0 0 kF_X12_3 dX12_first_2 rfl rfl (by decide) (by decide) rfl rfl rfl rfl rfl (vok_a rfl) (by decide +kernel) (fun H1 L1 S1 P1 => ?_)
  have rk1 : ∀ Vv Kv : Sg, MI D s.heap a0 Vv Kv → MI D H1 a0 Vv Kv := fun Vv Kv hv => (rk0 Vv Kv hv).keep S.1 ga0 (Pt.keep ga0 rfl (by decide) P1) (by decide)
  refine lv_aload_n hx hb dX12_first_5 rfl (lv_at hl 0 rfl) ?_
  refine lv_iload_n hx hb dX12_first_6 rfl (lv_at hl 1 rfl) ?_
  refine lv_iconst (v := 1) hx hb dX12_first_7 (by decide) ?_
  refine lv_sipush (v := 9999) hx hb dX12_first_8 (by decide) ?_
  have k_1 : (1 : Int32).toInt = 1 := by decide
  have k_9999 : (9999 : Int32).toInt = 9999 := by decide
  refine callS_Pi C S1.1 S1.2.1.2.1 (c_X12_in l D G x1 (1 : Int32) (9999 : Int32)) kS_X12_63 (trivial) dX12_first_11 hl.1 cd_X12_in ⟨Nat.le_of_ble_eq_true rfl, Nat.le_of_ble_eq_true rfl, Nat.le_of_ble_eq_true rfl, Nat.le_of_ble_eq_true rfl, Nat.le_of_ble_eq_true rfl⟩ (fun v2 q2 => ?_)
  rcases q2 with q2 | q2
  · skip
    refine lv_if_ne (tgt := 21) hx hb dX12_first_14 (by decide) (fun c3 => ?_) (fun c3 => ?_)
    · have b3 : ¬ v2.toInt = (0 : Int32).toInt := fun z9 => c3 (i_eq.mpr z9)
      refine lv_iconst (v := 0) hx hb dX12_first_21 (by decide) ?_
      refine lv_iconst (v := 1) hx hb dX12_first_22 (by decide) ?_
      refine callV_Ei C S1 (c_X12_throwsIf l D G a0 (0 : Int32) (1 : Int32) ga0 (by omega)) kV_X12_246 ga0 (trivial) (by decide +kernel) dX12_first_23 hl.1 rfl rfl (by decide) cd_X12_throwsIf ⟨Nat.le_of_ble_eq_true rfl, Nat.le_of_ble_eq_true rfl, Nat.le_of_ble_eq_true rfl, Nat.le_of_ble_eq_true rfl, Nat.le_of_ble_eq_true rfl⟩ (fun v4 H4 L4 S4 K4 q4 => ?_)
      have rk4 : ∀ Vv Kv : Sg, MI D s.heap a0 Vv Kv → MI D H4 a0 Vv Kv := fun Vv Kv hv => (rk1 Vv Kv hv).keep S1.1 ga0 K4 (by decide +kernel)
      refine lv_if_eq (tgt := 31) hx hb dX12_first_26 (by decide) (fun c5 => ?_) (fun c5 => ?_)
      · have b5 : v4.toInt = (0 : Int32).toInt := i_eq.mp c5
        refine lv_iconst (v := -1) hx hb dX12_first_31 (by decide) ?_
        refine lv_istore_n (lv' := [(2, .int (-1 : Int32)), (0, .ref a0), (1, .int x1)]) hx hb dX12_first_32 rfl hl (by decide) rfl (fun ls hl => ?_)
        refine lv_aload_n hx hb dX12_first_33 rfl (lv_at hl 1 rfl) ?_
        refine callV_Ev C S4 (c_X12_keepsAll l D G a0 ga0) kV_X12_351 ga0 (trivial) (by decide +kernel) dX12_first_34 hl.1 rfl rfl (by decide) cd_X12_keepsAll ⟨Nat.le_of_ble_eq_true rfl, Nat.le_of_ble_eq_true rfl, Nat.le_of_ble_eq_true rfl, Nat.le_of_ble_eq_true rfl, Nat.le_of_ble_eq_true rfl⟩ (fun H6 L6 S6 K6 q6 => ?_)
        obtain ⟨q6, rq6⟩ := q6
        have rk6 : ∀ Vv Kv : Sg, MI D s.heap a0 Vv Kv → MT D H6 a0 Vv Kv := fun Vv Kv hv => rq6 Vv Kv (rk4 Vv Kv hv)
        refine lv_iconst (v := 0) hx hb dX12_first_37 (by decide) ?_
        refine lv_istore_n (lv' := [(3, .int (0 : Int32)), (2, .int (-1 : Int32)), (0, .ref a0), (1, .int x1)]) hx hb dX12_first_38 rfl hl (by decide) rfl (fun ls hl => ?_)
        have Lp39 : ∀ (n : Nat) (x3_39 : Int32) (x2_39 : Int32) (H_39 : Heap) (L_39 : List Loc) (ls : Array Slot), (Sd D G [(30, 0), (31, 0), (38, 0), (34, 0), (31, 1)] s.heap H_39 L_39) → (0 ≤ x3_39.toInt ∧ x3_39.toInt ≤ 2147483647) → (∀ Vv Kv : Sg, MI D s.heap a0 Vv Kv → MT D H_39 a0 Vv Kv) → 2147483648 - x3_39.toInt ≤ (n : Int) → lv_has ls 4 [(3, .int x3_39), (2, .int x2_39), (0, .ref a0), (1, .int x1)] → W p l e (rmU 12 0 0) s m args below meth c H_39 L_39 0 0 Q (F0 m 39 ls []) := by
          intro n
          induction n with
          | zero =>
            intro x3_39 x2_39 H_39 L_39 ls S_39 j39_0 u39_0 hn hl
            exact absurd hn (by omega)
          | succ n ih39 =>
            intro x3_39 x2_39 H_39 L_39 ls S_39 j39_0 u39_0 hn hl
            refine lv_iload_n hx hb dX12_first_39 rfl (lv_at hl 0 rfl) ?_
            refine lv_bipush (v := 100) hx hb dX12_first_40 (by decide) ?_
            have k_100 : (100 : Int32).toInt = 100 := by decide
            refine lv_icmp_gt (tgt := 79) hx hb dX12_first_42 (by decide) (fun c7 => ?_) (fun c7 => ?_)
            · have b7 : (100 : Int32).toInt < x3_39.toInt := i_lt.mp c7
              refine lv_aload_n hx hb dX12_first_79 rfl (lv_at hl 2 rfl) ?_
              refine callV_Ev C S_39 (c_X12_bringsBack l D G a0 ga0) kV_X12_354 ga0 (trivial) (by decide +kernel) dX12_first_80 hl.1 rfl rfl (by decide) cd_X12_bringsBack ⟨Nat.le_of_ble_eq_true rfl, Nat.le_of_ble_eq_true rfl, Nat.le_of_ble_eq_true rfl, Nat.le_of_ble_eq_true rfl, Nat.le_of_ble_eq_true rfl⟩ (fun H8 L8 S8 K8 q8 => ?_)
              obtain ⟨q8, rq8⟩ := q8
              have rk8 : ∀ Vv Kv : Sg, MI D s.heap a0 Vv Kv → MT D H8 a0 Vv Kv := fun Vv Kv hv => rq8 Vv Kv (u39_0 Vv Kv hv)
              refine lv_iload_n hx hb dX12_first_83 rfl (lv_at hl 1 rfl) ?_
              exact retE_i hQ C S8 hr dX12_first_84 (⟨trivial, fun Vv Kv hv => (rk8 Vv Kv hv).1⟩)
            · have b7 : ¬ (100 : Int32).toInt < x3_39.toInt := fun z9 => c7 (i_lt.mpr z9)
              refine lv_iload_n hx hb dX12_first_45 rfl (lv_at hl 1 rfl) ?_
              refine lv_iconst (v := -1) hx hb dX12_first_46 (by decide) ?_
              have k_m1 : (-1 : Int32).toInt = -1 := by decide
              refine lv_icmp_ne (tgt := 79) hx hb dX12_first_47 (by decide) (fun c9 => ?_) (fun c9 => ?_)
              · have b9 : ¬ x2_39.toInt = (-1 : Int32).toInt := fun z9 => c9 (i_eq.mpr z9)
                refine lv_aload_n hx hb dX12_first_79 rfl (lv_at hl 2 rfl) ?_
                refine callV_Ev C S_39 (c_X12_bringsBack l D G a0 ga0) kV_X12_354 ga0 (trivial) (by decide +kernel) dX12_first_80 hl.1 rfl rfl (by decide) cd_X12_bringsBack ⟨Nat.le_of_ble_eq_true rfl, Nat.le_of_ble_eq_true rfl, Nat.le_of_ble_eq_true rfl, Nat.le_of_ble_eq_true rfl, Nat.le_of_ble_eq_true rfl⟩ (fun H10 L10 S10 K10 q10 => ?_)
                obtain ⟨q10, rq10⟩ := q10
                have rk10 : ∀ Vv Kv : Sg, MI D s.heap a0 Vv Kv → MT D H10 a0 Vv Kv := fun Vv Kv hv => rq10 Vv Kv (u39_0 Vv Kv hv)
                refine lv_iload_n hx hb dX12_first_83 rfl (lv_at hl 1 rfl) ?_
                exact retE_i hQ C S10 hr dX12_first_84 (⟨trivial, fun Vv Kv hv => (rk10 Vv Kv hv).1⟩)
              · have b9 : x2_39.toInt = (-1 : Int32).toInt := i_eq.mp c9
                refine lv_aload_n hx hb dX12_first_50 rfl (lv_at hl 2 rfl) ?_
                refine q_gr (T := TX12) C S_39.1 ga0 1 kF_X12_13 dX12_first_51 rfl rfl (by decide) rfl (by decide) rfl (fun g11 => ?_)
                refine lv_bipush (v := 9) hx hb dX12_first_54 (by decide) ?_
                have n12 : aN H_39 (fR D H_39 11 a0 1) = 2052 := len_31 S_39.1 g11
                have k_9 : (9 : Int32).toInt = 9 := by decide
                refine q_iald C S_39.1 g11 (by omega) (by omega) dX12_first_56 rfl (by decide) ?_
                refine lv_topi (fun v13 ev13 => ?_)
                refine lv_iload_n hx hb dX12_first_57 rfl (lv_at hl 3 rfl) ?_
                have r15 := i_rng v13
                refine lv_icmp_lt (tgt := 65) hx hb dX12_first_58 (by decide) (fun c14 => ?_) (fun c14 => ?_)
                · have b14 : v13.toInt < x1.toInt := i_lt.mp c14
                  refine lv_iconst (v := -1) hx hb dX12_first_65 (by decide) ?_
                  refine lv_istore_n (lv' := [(2, .int (-1 : Int32)), (3, .int x3_39), (0, .ref a0), (1, .int x1)]) hx hb dX12_first_66 rfl hl (by decide) rfl (fun ls hl => ?_)
                  refine lv_aload_n hx hb dX12_first_67 rfl (lv_at hl 2 rfl) ?_
                  refine lv_iconst (v := 1) hx hb dX12_first_68 (by decide) ?_
                  refine callV_Ei C S_39 (c_X12_oneQuarter l D G a0 (1 : Int32) ga0 (by omega)) kV_X12_341 ga0 (trivial) (by decide +kernel) dX12_first_69 hl.1 rfl rfl (by decide) cd_X12_oneQuarter ⟨Nat.le_of_ble_eq_true rfl, Nat.le_of_ble_eq_true rfl, Nat.le_of_ble_eq_true rfl, Nat.le_of_ble_eq_true rfl, Nat.le_of_ble_eq_true rfl⟩ (fun v16 H16 L16 S16 K16 q16 => ?_)
                  have rk16 : ∀ Vv Kv : Sg, MI D s.heap a0 Vv Kv → MT D H16 a0 Vv Kv := fun Vv Kv hv => (u39_0 Vv Kv hv).keep S_39.1 ga0 K16 (by decide +kernel)
                  refine lv_pop hx hb dX12_first_72 rfl ?_
                  obtain ⟨v17, ev17⟩ : ∃ y : Int32, y = x3_39 + (1) := ⟨_, rfl⟩
                  have f18 : v17.toInt = x3_39.toInt + (1) := by rw [ev17]; exact i_addc k_1 (by omega) (by omega)
                  refine lv_iinc (v := v17) (lv' := [(3, .int v17), (2, .int (-1 : Int32)), (0, .ref a0), (1, .int x1)]) hx hb dX12_first_73 hl (k := 1) rfl (by rw [ev17]; rfl) (by decide) rfl (fun ls hl => ?_)
                  refine lv_goto (tgt := 39) hx hb dX12_first_76 (by decide) ?_
                  exact ih39 v17 (-1 : Int32) H16 L16 ls S16 (by omega) rk16 (by omega) (lv_sub hl [0, 1, 2, 3] rfl)
                · have b14 : ¬ v13.toInt < x1.toInt := fun z9 => c14 (i_lt.mpr z9)
                  refine lv_iload_n hx hb dX12_first_61 rfl (lv_at hl 0 rfl) ?_
                  refine lv_goto (tgt := 66) hx hb dX12_first_62 (by decide) ?_
                  refine lv_istore_n (lv' := [(2, .int x3_39), (3, .int x3_39), (0, .ref a0), (1, .int x1)]) hx hb dX12_first_66 rfl hl (by decide) rfl (fun ls hl => ?_)
                  refine lv_aload_n hx hb dX12_first_67 rfl (lv_at hl 2 rfl) ?_
                  refine lv_iconst (v := 1) hx hb dX12_first_68 (by decide) ?_
                  refine callV_Ei C S_39 (c_X12_oneQuarter l D G a0 (1 : Int32) ga0 (by omega)) kV_X12_341 ga0 (trivial) (by decide +kernel) dX12_first_69 hl.1 rfl rfl (by decide) cd_X12_oneQuarter ⟨Nat.le_of_ble_eq_true rfl, Nat.le_of_ble_eq_true rfl, Nat.le_of_ble_eq_true rfl, Nat.le_of_ble_eq_true rfl, Nat.le_of_ble_eq_true rfl⟩ (fun v19 H19 L19 S19 K19 q19 => ?_)
                  have rk19 : ∀ Vv Kv : Sg, MI D s.heap a0 Vv Kv → MT D H19 a0 Vv Kv := fun Vv Kv hv => (u39_0 Vv Kv hv).keep S_39.1 ga0 K19 (by decide +kernel)
                  refine lv_pop hx hb dX12_first_72 rfl ?_
                  obtain ⟨v20, ev20⟩ : ∃ y : Int32, y = x3_39 + (1) := ⟨_, rfl⟩
                  have f21 : v20.toInt = x3_39.toInt + (1) := by rw [ev20]; exact i_addc k_1 (by omega) (by omega)
                  refine lv_iinc (v := v20) (lv' := [(3, .int v20), (2, .int x3_39), (0, .ref a0), (1, .int x1)]) hx hb dX12_first_73 hl (k := 1) rfl (by rw [ev20]; rfl) (by decide) rfl (fun ls hl => ?_)
                  refine lv_goto (tgt := 39) hx hb dX12_first_76 (by decide) ?_
                  exact ih39 v20 x3_39 H19 L19 ls S19 (by omega) rk19 (by omega) (lv_sub hl [0, 1, 2, 3] rfl)
        have k_m1 : (-1 : Int32).toInt = -1 := by decide
        exact Lp39 2147483648 (0 : Int32) (-1 : Int32) H6 L6 ls S6 (by omega) rk6  (by omega) (lv_sub hl [0, 1, 2, 3] rfl)
      · have b5 : ¬ v4.toInt = (0 : Int32).toInt := fun z9 => c5 (i_eq.mpr z9)
        exact absurd b5 (by omega)
    · have b3 : v2.toInt = (0 : Int32).toInt := i_eq.mp c3
      exact absurd b3 (by omega)
  · skip
    refine lv_if_ne (tgt := 21) hx hb dX12_first_14 (by decide) (fun c22 => ?_) (fun c22 => ?_)
    · have b22 : ¬ v2.toInt = (0 : Int32).toInt := fun z9 => c22 (i_eq.mpr z9)
      exact absurd b22 (by omega)
    · have b22 : v2.toInt = (0 : Int32).toInt := i_eq.mp c22
      refine lv_iconst (v := 1) hx hb dX12_first_17 (by decide) ?_
      refine lv_goto (tgt := 22) hx hb dX12_first_18 (by decide) ?_
      refine lv_iconst (v := 1) hx hb dX12_first_22 (by decide) ?_
      refine callV_Ei C S1 (c_X12_throwsIf l D G a0 (1 : Int32) (1 : Int32) ga0 (by omega)) kV_X12_246 ga0 (trivial) (by decide +kernel) dX12_first_23 hl.1 rfl rfl (by decide) cd_X12_throwsIf ⟨Nat.le_of_ble_eq_true rfl, Nat.le_of_ble_eq_true rfl, Nat.le_of_ble_eq_true rfl, Nat.le_of_ble_eq_true rfl, Nat.le_of_ble_eq_true rfl⟩ (fun v23 H23 L23 S23 K23 q23 => ?_)
      have rk23 : ∀ Vv Kv : Sg, MI D s.heap a0 Vv Kv → MI D H23 a0 Vv Kv := fun Vv Kv hv => (rk1 Vv Kv hv).keep S1.1 ga0 K23 (by decide +kernel)
      refine lv_if_eq (tgt := 31) hx hb dX12_first_26 (by decide) (fun c24 => ?_) (fun c24 => ?_)
      · have b24 : v23.toInt = (0 : Int32).toInt := i_eq.mp c24
        exact absurd b24 (by omega)
      · have b24 : ¬ v23.toInt = (0 : Int32).toInt := fun z9 => c24 (i_eq.mpr z9)
        refine lv_iconst (v := 0) hx hb dX12_first_29 (by decide) ?_
        exact retE_i hQ C S23 hr dX12_first_30 (⟨trivial, rk23⟩)

set_option maxRecDepth 100000 in
set_option maxHeartbeats 4000000 in
theorem c_X12_stacks (l : Launch) (D : DD) (G : Nat → Nat) (a0 : Nat) (x1 : Int32) (ga0 : G a0 = 30) : CE l D G yX12_stacks cX12_stacks 4 (some .int) 6 [.ref a0, .int x1] (fun _ => True) [(30, 0)] (xI (fun H r H1 => True)) := by
  refine enter (by decide) (Nat.le_of_ble_eq_true rfl) ?_
  intro p e s m args below meth c ls Q hA hQ C hr hO hpre hl
  have hx := C.1
  have hb := C.2.1
  have S : Sd D G [(30, 0)] s.heap s.heap [] := Sd.start hO
  have hl : lv_has ls 4 [(0, .ref a0), (1, .int x1)] := hl
  refine lv_aload_n hx hb dX12_stacks_0 rfl (lv_at hl 0 rfl) ?_
  refine lv_iconst (v := 0) hx hb dX12_stacks_1 (by decide) ?_
  have k_0 : (0 : Int32).toInt = 0 := by decide
  refine q_put (T := TX12) C S ga0 0 kF_X12_3 dX12_stacks_2 rfl rfl (by decide) (by decide) rfl rfl rfl rfl rfl (vok_a rfl) (by decide +kernel) (fun H1 L1 S1 P1 => ?_)
  refine lv_aload_n hx hb dX12_stacks_5 rfl (lv_at hl 0 rfl) ?_
  refine lv_iload_n hx hb dX12_stacks_6 rfl (lv_at hl 1 rfl) ?_
  refine lv_iconst (v := 0) hx hb dX12_stacks_7 (by decide) ?_
  refine lv_iconst (v := 4) hx hb dX12_stacks_8 (by decide) ?_
  have k_4 : (4 : Int32).toInt = 4 := by decide
  refine callS_Pi C S1.1 S1.2.1.2.1 (c_X12_in l D G x1 (0 : Int32) (4 : Int32)) kS_X12_63 (trivial) dX12_stacks_9 hl.1 cd_X12_in ⟨Nat.le_of_ble_eq_true rfl, Nat.le_of_ble_eq_true rfl, Nat.le_of_ble_eq_true rfl, Nat.le_of_ble_eq_true rfl, Nat.le_of_ble_eq_true rfl⟩ (fun v2 q2 => ?_)
  rcases q2 with q2 | q2
  · skip
    refine lv_if_ne (tgt := 19) hx hb dX12_stacks_12 (by decide) (fun c3 => ?_) (fun c3 => ?_)
    · have b3 : ¬ v2.toInt = (0 : Int32).toInt := fun z9 => c3 (i_eq.mpr z9)
      refine lv_iconst (v := 0) hx hb dX12_stacks_19 (by decide) ?_
      refine lv_iconst (v := 1) hx hb dX12_stacks_20 (by decide) ?_
      have k_1 : (1 : Int32).toInt = 1 := by decide
      refine callV_Ei C S1 (c_X12_throwsIf l D G a0 (0 : Int32) (1 : Int32) ga0 (by omega)) kV_X12_246 ga0 (trivial) (by decide +kernel) dX12_stacks_21 hl.1 rfl rfl (by decide) cd_X12_throwsIf ⟨Nat.le_of_ble_eq_true rfl, Nat.le_of_ble_eq_true rfl, Nat.le_of_ble_eq_true rfl, Nat.le_of_ble_eq_true rfl, Nat.le_of_ble_eq_true rfl⟩ (fun v4 H4 L4 S4 K4 q4 => ?_)
      refine lv_if_eq (tgt := 29) hx hb dX12_stacks_24 (by decide) (fun c5 => ?_) (fun c5 => ?_)
      · have b5 : v4.toInt = (0 : Int32).toInt := i_eq.mp c5
        refine lv_iconst (v := 0) hx hb dX12_stacks_29 (by decide) ?_
        refine lv_istore_n (lv' := [(2, .int (0 : Int32)), (0, .ref a0), (1, .int x1)]) hx hb dX12_stacks_30 rfl hl (by decide) rfl (fun ls hl => ?_)
        refine lv_iconst (v := 0) hx hb dX12_stacks_31 (by decide) ?_
        refine lv_istore_n (lv' := [(3, .int (0 : Int32)), (2, .int (0 : Int32)), (0, .ref a0), (1, .int x1)]) hx hb dX12_stacks_32 rfl hl (by decide) rfl (fun ls hl => ?_)
        have Lp33 : ∀ (n : Nat) (x3_33 : Int32) (x2_33 : Int32) (ls : Array Slot), (0 ≤ x3_33.toInt ∧ x3_33.toInt ≤ 2147483647) → 2147483648 - x3_33.toInt ≤ (n : Int) → lv_has ls 4 [(3, .int x3_33), (2, .int x2_33), (0, .ref a0), (1, .int x1)] → W p l e (rmU 6 0 0) s m args below meth c H4 L4 0 0 Q (F0 m 33 ls []) := by
          intro n
          induction n with
          | zero =>
            intro x3_33 x2_33 ls j33_0 hn hl
            exact absurd hn (by omega)
          | succ n ih33 =>
            intro x3_33 x2_33 ls j33_0 hn hl
            refine lv_iload_n hx hb dX12_stacks_33 rfl (lv_at hl 0 rfl) ?_
            refine lv_aload_n hx hb dX12_stacks_34 rfl (lv_at hl 2 rfl) ?_
            refine callV_Pi C S4.1 S4.2.1.2.1 (c_X12_houses l D G a0 ga0) kV_X12_59 ga0 (trivial) dX12_stacks_35 hl.1 rfl rfl (by decide) cd_X12_houses ⟨Nat.le_of_ble_eq_true rfl, Nat.le_of_ble_eq_true rfl, Nat.le_of_ble_eq_true rfl, Nat.le_of_ble_eq_true rfl, Nat.le_of_ble_eq_true rfl⟩ (fun v6 q6 => ?_)
            have r8 := i_rng x3_33
            refine lv_icmp_ge (tgt := 75) hx hb dX12_stacks_38 (by decide) (fun c7 => ?_) (fun c7 => ?_)
            · have b7 : v6.toInt ≤ x3_33.toInt := i_le.mp c7
              refine lv_iload_n hx hb dX12_stacks_75 rfl (lv_at hl 1 rfl) ?_
              exact retE_i hQ C S4 hr dX12_stacks_76 (trivial)
            · have b7 : ¬ v6.toInt ≤ x3_33.toInt := fun z9 => c7 (i_le.mpr z9)
              refine lv_iload_n hx hb dX12_stacks_41 rfl (lv_at hl 1 rfl) ?_
              refine lv_aload_n hx hb dX12_stacks_42 rfl (lv_at hl 2 rfl) ?_
              refine lv_iload_n hx hb dX12_stacks_43 rfl (lv_at hl 0 rfl) ?_
              refine lv_iconst (v := 3) hx hb dX12_stacks_44 (by decide) ?_
              have k_3 : (3 : Int32).toInt = 3 := by decide
              refine callV_Pi C S4.1 S4.2.1.2.1 (c_X12_of l D G a0 x3_33 (3 : Int32) ga0 (by omega) (by omega)) kV_X12_255 ga0 (trivial) dX12_stacks_45 hl.1 rfl rfl (by decide) cd_X12_of ⟨Nat.le_of_ble_eq_true rfl, Nat.le_of_ble_eq_true rfl, Nat.le_of_ble_eq_true rfl, Nat.le_of_ble_eq_true rfl, Nat.le_of_ble_eq_true rfl⟩ (fun v9 q9 => ?_)
              refine lv_iload_n hx hb dX12_stacks_48 rfl (lv_at hl 3 rfl) ?_
              refine callS_Pi C S4.1 S4.2.1.2.1 (c_X12_has l D G v9 x1) kS_X12_287 (trivial) dX12_stacks_49 hl.1 cd_X12_has ⟨Nat.le_of_ble_eq_true rfl, Nat.le_of_ble_eq_true rfl, Nat.le_of_ble_eq_true rfl, Nat.le_of_ble_eq_true rfl, Nat.le_of_ble_eq_true rfl⟩ (fun v10 q10 => ?_)
              refine lv_if_eq (tgt := 66) hx hb dX12_stacks_52 (by decide) (fun c11 => ?_) (fun c11 => ?_)
              · have b11 : v10.toInt = (0 : Int32).toInt := i_eq.mp c11
                refine lv_iconst (v := 0) hx hb dX12_stacks_66 (by decide) ?_
                refine lv_iadd hx hb dX12_stacks_67 ?_
                refine lv_topi (fun v12 ev12 => ?_)
                refine lv_istore_n (lv' := [(2, .int v12), (3, .int x3_33), (0, .ref a0), (1, .int x1)]) hx hb dX12_stacks_68 rfl hl (by decide) rfl (fun ls hl => ?_)
                obtain ⟨v13, ev13⟩ : ∃ y : Int32, y = x3_33 + (1) := ⟨_, rfl⟩
                have f14 : v13.toInt = x3_33.toInt + (1) := by rw [ev13]; exact i_addc k_1 (by omega) (by omega)
                refine lv_iinc (v := v13) (lv' := [(3, .int v13), (2, .int v12), (0, .ref a0), (1, .int x1)]) hx hb dX12_stacks_69 hl (k := 1) rfl (by rw [ev13]; rfl) (by decide) rfl (fun ls hl => ?_)
                refine lv_goto (tgt := 33) hx hb dX12_stacks_72 (by decide) ?_
                exact ih33 v13 v12 ls (by omega) (by omega) (lv_sub hl [0, 1, 2, 3] rfl)
              · have b11 : ¬ v10.toInt = (0 : Int32).toInt := fun z9 => c11 (i_eq.mpr z9)
                refine lv_aload_n hx hb dX12_stacks_55 rfl (lv_at hl 2 rfl) ?_
                refine lv_iload_n hx hb dX12_stacks_56 rfl (lv_at hl 0 rfl) ?_
                refine callV_Pi C S4.1 S4.2.1.2.1 (c_X12_smokeOf l D G a0 x3_33 ga0) kV_X12_308 ga0 (trivial) dX12_stacks_57 hl.1 rfl rfl (by decide) cd_X12_smokeOf ⟨Nat.le_of_ble_eq_true rfl, Nat.le_of_ble_eq_true rfl, Nat.le_of_ble_eq_true rfl, Nat.le_of_ble_eq_true rfl, Nat.le_of_ble_eq_true rfl⟩ (fun v15 q15 => ?_)
                refine callS_Pi C S4.1 S4.2.1.2.1 (c_J6_bitCount_0f7a4 l D G v15) kS_X12_142 (trivial) dX12_stacks_60 hl.1 cd_J6_bitCount_0f7a4 ⟨Nat.le_of_ble_eq_true rfl, Nat.le_of_ble_eq_true rfl, Nat.le_of_ble_eq_true rfl, Nat.le_of_ble_eq_true rfl, Nat.le_of_ble_eq_true rfl⟩ (fun v16 q16 => ?_)
                refine lv_goto (tgt := 67) hx hb dX12_stacks_63 (by decide) ?_
                refine lv_iadd hx hb dX12_stacks_67 ?_
                refine lv_topi (fun v17 ev17 => ?_)
                refine lv_istore_n (lv' := [(2, .int v17), (3, .int x3_33), (0, .ref a0), (1, .int x1)]) hx hb dX12_stacks_68 rfl hl (by decide) rfl (fun ls hl => ?_)
                obtain ⟨v18, ev18⟩ : ∃ y : Int32, y = x3_33 + (1) := ⟨_, rfl⟩
                have f19 : v18.toInt = x3_33.toInt + (1) := by rw [ev18]; exact i_addc k_1 (by omega) (by omega)
                refine lv_iinc (v := v18) (lv' := [(3, .int v18), (2, .int v17), (0, .ref a0), (1, .int x1)]) hx hb dX12_stacks_69 hl (k := 1) rfl (by rw [ev18]; rfl) (by decide) rfl (fun ls hl => ?_)
                refine lv_goto (tgt := 33) hx hb dX12_stacks_72 (by decide) ?_
                exact ih33 v18 v17 ls (by omega) (by omega) (lv_sub hl [0, 1, 2, 3] rfl)
        exact Lp33 2147483648 (0 : Int32) (0 : Int32) ls (by omega)  (by omega) (lv_sub hl [0, 1, 2, 3] rfl)
      · have b5 : ¬ v4.toInt = (0 : Int32).toInt := fun z9 => c5 (i_eq.mpr z9)
        exact absurd b5 (by omega)
    · have b3 : v2.toInt = (0 : Int32).toInt := i_eq.mp c3
      exact absurd b3 (by omega)
  · skip
    refine lv_if_ne (tgt := 19) hx hb dX12_stacks_12 (by decide) (fun c20 => ?_) (fun c20 => ?_)
    · have b20 : ¬ v2.toInt = (0 : Int32).toInt := fun z9 => c20 (i_eq.mpr z9)
      exact absurd b20 (by omega)
    · have b20 : v2.toInt = (0 : Int32).toInt := i_eq.mp c20
      refine lv_iconst (v := 1) hx hb dX12_stacks_15 (by decide) ?_
      refine lv_goto (tgt := 20) hx hb dX12_stacks_16 (by decide) ?_
      refine lv_iconst (v := 1) hx hb dX12_stacks_20 (by decide) ?_
      have k_1 : (1 : Int32).toInt = 1 := by decide
      refine callV_Ei C S1 (c_X12_throwsIf l D G a0 (1 : Int32) (1 : Int32) ga0 (by omega)) kV_X12_246 ga0 (trivial) (by decide +kernel) dX12_stacks_21 hl.1 rfl rfl (by decide) cd_X12_throwsIf ⟨Nat.le_of_ble_eq_true rfl, Nat.le_of_ble_eq_true rfl, Nat.le_of_ble_eq_true rfl, Nat.le_of_ble_eq_true rfl, Nat.le_of_ble_eq_true rfl⟩ (fun v21 H21 L21 S21 K21 q21 => ?_)
      refine lv_if_eq (tgt := 29) hx hb dX12_stacks_24 (by decide) (fun c22 => ?_) (fun c22 => ?_)
      · have b22 : v21.toInt = (0 : Int32).toInt := i_eq.mp c22
        exact absurd b22 (by omega)
      · have b22 : ¬ v21.toInt = (0 : Int32).toInt := fun z9 => c22 (i_eq.mpr z9)
        refine lv_iconst (v := 0) hx hb dX12_stacks_27 (by decide) ?_
        exact retE_i hQ C S21 hr dX12_stacks_28 (trivial)

set_option maxRecDepth 100000 in
set_option maxHeartbeats 4000000 in
theorem c_X12_towers (l : Launch) (D : DD) (G : Nat → Nat) (a0 : Nat) (ga0 : G a0 = 30) : CE l D G yX12_towers cX12_towers 4 (some .int) 7 [.ref a0] (fun _ => True) [(30, 0)] (xI (fun H r H1 => True)) := by
  refine enter (by decide) (Nat.le_of_ble_eq_true rfl) ?_
  intro p e s m args below meth c ls Q hA hQ C hr hO hpre hl
  have hx := C.1
  have hb := C.2.1
  have S : Sd D G [(30, 0)] s.heap s.heap [] := Sd.start hO
  have hl : lv_has ls 4 [(0, .ref a0)] := hl
  refine lv_aload_n hx hb dX12_towers_0 rfl (lv_at hl 0 rfl) ?_
  refine lv_iconst (v := 0) hx hb dX12_towers_1 (by decide) ?_
  have k_0 : (0 : Int32).toInt = 0 := by decide
  refine q_put (T := TX12) C S ga0 0 kF_X12_3 dX12_towers_2 rfl rfl (by decide) (by decide) rfl rfl rfl rfl rfl (vok_a rfl) (by decide +kernel) (fun H1 L1 S1 P1 => ?_)
  refine lv_iconst (v := -1) hx hb dX12_towers_5 (by decide) ?_
  refine lv_istore_n (lv' := [(1, .int (-1 : Int32)), (0, .ref a0)]) hx hb dX12_towers_6 rfl hl (by decide) rfl (fun ls hl => ?_)
  refine lv_bipush (v := 6) hx hb dX12_towers_7 (by decide) ?_
  refine lv_istore_n (lv' := [(2, .int (6 : Int32)), (1, .int (-1 : Int32)), (0, .ref a0)]) hx hb dX12_towers_9 rfl hl (by decide) rfl (fun ls hl => ?_)
  refine lv_iconst (v := 0) hx hb dX12_towers_10 (by decide) ?_
  refine lv_istore_n (lv' := [(3, .int (0 : Int32)), (2, .int (6 : Int32)), (1, .int (-1 : Int32)), (0, .ref a0)]) hx hb dX12_towers_11 rfl hl (by decide) rfl (fun ls hl => ?_)
  have Lp12 : ∀ (n : Nat) (x3_12 : Int32) (x2_12 : Int32) (x1_12 : Int32) (ls : Array Slot), (0 ≤ x3_12.toInt ∧ x3_12.toInt ≤ 2147483647) → 2147483648 - x3_12.toInt ≤ (n : Int) → lv_has ls 4 [(3, .int x3_12), (2, .int x2_12), (1, .int x1_12), (0, .ref a0)] → W p l e (rmU 7 0 0) s m args below meth c H1 L1 0 0 Q (F0 m 12 ls []) := by
    intro n
    induction n with
    | zero =>
      intro x3_12 x2_12 x1_12 ls j12_0 hn hl
      exact absurd hn (by omega)
    | succ n ih12 =>
      intro x3_12 x2_12 x1_12 ls j12_0 hn hl
      refine lv_iload_n hx hb dX12_towers_12 rfl (lv_at hl 0 rfl) ?_
      refine lv_bipush (v := 32) hx hb dX12_towers_13 (by decide) ?_
      have k_32 : (32 : Int32).toInt = 32 := by decide
      refine lv_icmp_ge (tgt := 50) hx hb dX12_towers_15 (by decide) (fun c2 => ?_) (fun c2 => ?_)
      · have b2 : (32 : Int32).toInt ≤ x3_12.toInt := i_le.mp c2
        refine lv_iload_n hx hb dX12_towers_50 rfl (lv_at hl 2 rfl) ?_
        exact retE_i hQ C S1 hr dX12_towers_51 (trivial)
      · have b2 : ¬ (32 : Int32).toInt ≤ x3_12.toInt := fun z9 => c2 (i_le.mpr z9)
        refine lv_iload_n hx hb dX12_towers_18 rfl (lv_at hl 0 rfl) ?_
        refine callS_Pi C S1.1 S1.2.1.2.1 (c_J6_bitCount_0f7a4 l D G x3_12) kS_X12_142 (trivial) dX12_towers_19 hl.1 cd_J6_bitCount_0f7a4 ⟨Nat.le_of_ble_eq_true rfl, Nat.le_of_ble_eq_true rfl, Nat.le_of_ble_eq_true rfl, Nat.le_of_ble_eq_true rfl, Nat.le_of_ble_eq_true rfl⟩ (fun v3 q3 => ?_)
        refine lv_iload_n hx hb dX12_towers_22 rfl (lv_at hl 1 rfl) ?_
        refine lv_icmp_ge (tgt := 44) hx hb dX12_towers_23 (by decide) (fun c4 => ?_) (fun c4 => ?_)
        · have b4 : x2_12.toInt ≤ v3.toInt := i_le.mp c4
          obtain ⟨v5, ev5⟩ : ∃ y : Int32, y = x3_12 + (1) := ⟨_, rfl⟩
          have k_1 : (1 : Int32).toInt = 1 := by decide
          have f6 : v5.toInt = x3_12.toInt + (1) := by rw [ev5]; exact i_addc k_1 (by omega) (by omega)
          refine lv_iinc (v := v5) (lv' := [(3, .int v5), (2, .int x2_12), (1, .int x1_12), (0, .ref a0)]) hx hb dX12_towers_44 hl (k := 0) rfl (by rw [ev5]; rfl) (by decide) rfl (fun ls hl => ?_)
          refine lv_goto (tgt := 12) hx hb dX12_towers_47 (by decide) ?_
          exact ih12 v5 x2_12 x1_12 ls (by omega) (by omega) (lv_sub hl [0, 1, 2, 3] rfl)
        · have b4 : ¬ x2_12.toInt ≤ v3.toInt := fun z9 => c4 (i_le.mpr z9)
          refine lv_aload_n hx hb dX12_towers_26 rfl (lv_at hl 3 rfl) ?_
          refine lv_iload_n hx hb dX12_towers_27 rfl (lv_at hl 0 rfl) ?_
          refine callV_Pi C S1.1 S1.2.1.2.1 (c_X12_seesAll l D G a0 x3_12 ga0) kV_X12_357 ga0 (trivial) dX12_towers_28 hl.1 rfl rfl (by decide) cd_X12_seesAll ⟨Nat.le_of_ble_eq_true rfl, Nat.le_of_ble_eq_true rfl, Nat.le_of_ble_eq_true rfl, Nat.le_of_ble_eq_true rfl, Nat.le_of_ble_eq_true rfl⟩ (fun v7 q7 => ?_)
          refine lv_if_ne (tgt := 37) hx hb dX12_towers_31 (by decide) (fun c8 => ?_) (fun c8 => ?_)
          · have b8 : ¬ v7.toInt = (0 : Int32).toInt := fun z9 => c8 (i_eq.mpr z9)
            refine lv_iload_n hx hb dX12_towers_37 rfl (lv_at hl 0 rfl) ?_
            refine lv_istore_n (lv' := [(1, .int x3_12), (3, .int x3_12), (2, .int x2_12), (0, .ref a0)]) hx hb dX12_towers_38 rfl hl (by decide) rfl (fun ls hl => ?_)
            refine lv_iload_n hx hb dX12_towers_39 rfl (lv_at hl 1 rfl) ?_
            refine callS_Pi C S1.1 S1.2.1.2.1 (c_J6_bitCount_0f7a4 l D G x3_12) kS_X12_142 (trivial) dX12_towers_40 hl.1 cd_J6_bitCount_0f7a4 ⟨Nat.le_of_ble_eq_true rfl, Nat.le_of_ble_eq_true rfl, Nat.le_of_ble_eq_true rfl, Nat.le_of_ble_eq_true rfl, Nat.le_of_ble_eq_true rfl⟩ (fun v9 q9 => ?_)
            refine lv_istore_n (lv' := [(2, .int v9), (1, .int x3_12), (3, .int x3_12), (0, .ref a0)]) hx hb dX12_towers_43 rfl hl (by decide) rfl (fun ls hl => ?_)
            obtain ⟨v10, ev10⟩ : ∃ y : Int32, y = x3_12 + (1) := ⟨_, rfl⟩
            have k_1 : (1 : Int32).toInt = 1 := by decide
            have f11 : v10.toInt = x3_12.toInt + (1) := by rw [ev10]; exact i_addc k_1 (by omega) (by omega)
            refine lv_iinc (v := v10) (lv' := [(3, .int v10), (2, .int v9), (1, .int x3_12), (0, .ref a0)]) hx hb dX12_towers_44 hl (k := 2) rfl (by rw [ev10]; rfl) (by decide) rfl (fun ls hl => ?_)
            refine lv_goto (tgt := 12) hx hb dX12_towers_47 (by decide) ?_
            exact ih12 v10 v9 x3_12 ls (by omega) (by omega) (lv_sub hl [0, 1, 2, 3] rfl)
          · have b8 : v7.toInt = (0 : Int32).toInt := i_eq.mp c8
            refine lv_goto (tgt := 44) hx hb dX12_towers_34 (by decide) ?_
            obtain ⟨v12, ev12⟩ : ∃ y : Int32, y = x3_12 + (1) := ⟨_, rfl⟩
            have k_1 : (1 : Int32).toInt = 1 := by decide
            have f13 : v12.toInt = x3_12.toInt + (1) := by rw [ev12]; exact i_addc k_1 (by omega) (by omega)
            refine lv_iinc (v := v12) (lv' := [(3, .int v12), (2, .int x2_12), (1, .int x1_12), (0, .ref a0)]) hx hb dX12_towers_44 hl (k := 0) rfl (by rw [ev12]; rfl) (by decide) rfl (fun ls hl => ?_)
            refine lv_goto (tgt := 12) hx hb dX12_towers_47 (by decide) ?_
            exact ih12 v12 x2_12 x1_12 ls (by omega) (by omega) (lv_sub hl [0, 1, 2, 3] rfl)
  have k_6 : (6 : Int32).toInt = 6 := by decide
  have k_m1 : (-1 : Int32).toInt = -1 := by decide
  exact Lp12 2147483648 (0 : Int32) (6 : Int32) (-1 : Int32) ls (by omega)  (by omega) (lv_sub hl [0, 1, 2, 3] rfl)

set_option maxRecDepth 100000 in
set_option maxHeartbeats 4000000 in
theorem c_X12_walls (l : Launch) (D : DD) (G : Nat → Nat) (a0 : Nat) (x1 : Int32) (x2 : Int32) (ga0 : G a0 = 30) : CE l D G yX12_walls cX12_walls 4 none 1 [.ref a0, .int x1, .int x2] (fun _ => True) [(31, 0)] (xV (fun H H1 => True)) := by
  refine enter (by decide) (Nat.le_of_ble_eq_true rfl) ?_
  intro p e s m args below meth c ls Q hA hQ C hr hO hpre hl
  have hx := C.1
  have hb := C.2.1
  have S : Sd D G [(31, 0)] s.heap s.heap [] := Sd.start hO
  have hl : lv_has ls 4 [(0, .ref a0), (1, .int x1), (2, .int x2)] := hl
  refine lv_iconst (v := 0) hx hb dX12_walls_0 (by decide) ?_
  refine lv_istore_n (lv' := [(3, .int (0 : Int32)), (0, .ref a0), (1, .int x1), (2, .int x2)]) hx hb dX12_walls_1 rfl hl (by decide) rfl (fun ls hl => ?_)
  have Lp2 : ∀ (n : Nat) (x3_2 : Int32) (H_2 : Heap) (L_2 : List Loc) (ls : Array Slot), (Sd D G [(31, 0)] s.heap H_2 L_2) → (0 ≤ x3_2.toInt ∧ x3_2.toInt ≤ 2147483647) → 2147483648 - x3_2.toInt ≤ (n : Int) → lv_has ls 4 [(3, .int x3_2), (0, .ref a0), (1, .int x1), (2, .int x2)] → W p l e (rmU 1 0 0) s m args below meth c H_2 L_2 0 0 Q (F0 m 2 ls []) := by
    intro n
    induction n with
    | zero =>
      intro x3_2 H_2 L_2 ls S_2 j2_0 hn hl
      exact absurd hn (by omega)
    | succ n ih2 =>
      intro x3_2 H_2 L_2 ls S_2 j2_0 hn hl
      refine lv_iload_n hx hb dX12_walls_2 rfl (lv_at hl 0 rfl) ?_
      refine lv_aload_n hx hb dX12_walls_3 rfl (lv_at hl 1 rfl) ?_
      refine callV_Pi C S_2.1 S_2.2.1.2.1 (c_X12_hearths l D G a0 ga0) kV_X12_67 ga0 (trivial) dX12_walls_4 hl.1 rfl rfl (by decide) cd_X12_hearths ⟨Nat.le_of_ble_eq_true rfl, Nat.le_of_ble_eq_true rfl, Nat.le_of_ble_eq_true rfl, Nat.le_of_ble_eq_true rfl, Nat.le_of_ble_eq_true rfl⟩ (fun v1 q1 => ?_)
      have r3 := i_rng x3_2
      refine lv_icmp_ge (tgt := 35) hx hb dX12_walls_7 (by decide) (fun c2 => ?_) (fun c2 => ?_)
      · have b2 : v1.toInt ≤ x3_2.toInt := i_le.mp c2
        exact retE_v hQ C S_2 hr dX12_walls_35 (trivial)
      · have b2 : ¬ v1.toInt ≤ x3_2.toInt := fun z9 => c2 (i_le.mpr z9)
        refine lv_iload_n hx hb dX12_walls_10 rfl (lv_at hl 2 rfl) ?_
        refine lv_iload_n hx hb dX12_walls_11 rfl (lv_at hl 0 rfl) ?_
        refine callS_Pi C S_2.1 S_2.2.1.2.1 (c_X12_has l D G x1 x3_2) kS_X12_287 (trivial) dX12_walls_12 hl.1 cd_X12_has ⟨Nat.le_of_ble_eq_true rfl, Nat.le_of_ble_eq_true rfl, Nat.le_of_ble_eq_true rfl, Nat.le_of_ble_eq_true rfl, Nat.le_of_ble_eq_true rfl⟩ (fun v4 q4 => ?_)
        have k_0 : (0 : Int32).toInt = 0 := by decide
        refine lv_if_eq (tgt := 29) hx hb dX12_walls_15 (by decide) (fun c5 => ?_) (fun c5 => ?_)
        · have b5 : v4.toInt = (0 : Int32).toInt := i_eq.mp c5
          obtain ⟨v6, ev6⟩ : ∃ y : Int32, y = x3_2 + (1) := ⟨_, rfl⟩
          have k_1 : (1 : Int32).toInt = 1 := by decide
          have f7 : v6.toInt = x3_2.toInt + (1) := by rw [ev6]; exact i_addc k_1 (by omega) (by omega)
          refine lv_iinc (v := v6) (lv' := [(3, .int v6), (0, .ref a0), (1, .int x1), (2, .int x2)]) hx hb dX12_walls_29 hl (k := 0) rfl (by rw [ev6]; rfl) (by decide) rfl (fun ls hl => ?_)
          refine lv_goto (tgt := 2) hx hb dX12_walls_32 (by decide) ?_
          exact ih2 v6 H_2 L_2 ls S_2 (by omega) (by omega) (lv_sub hl [0, 1, 2, 3] rfl)
        · have b5 : ¬ v4.toInt = (0 : Int32).toInt := fun z9 => c5 (i_eq.mpr z9)
          refine lv_aload_n hx hb dX12_walls_18 rfl (lv_at hl 1 rfl) ?_
          refine q_gr (T := TX12) C S_2.1 ga0 1 kF_X12_13 dX12_walls_19 rfl rfl (by decide) rfl (by decide) rfl (fun g8 => ?_)
          refine lv_iload_n hx hb dX12_walls_22 rfl (lv_at hl 0 rfl) ?_
          refine lv_iconst (v := 5) hx hb dX12_walls_23 (by decide) ?_
          have k_5 : (5 : Int32).toInt = 5 := by decide
          refine callS_Pi C S_2.1 S_2.2.1.2.1 (c_X12_hearthAt l D G x3_2 (5 : Int32) (by omega) (by omega)) kS_X12_53 (trivial) dX12_walls_24 hl.1 cd_X12_hearthAt ⟨Nat.le_of_ble_eq_true rfl, Nat.le_of_ble_eq_true rfl, Nat.le_of_ble_eq_true rfl, Nat.le_of_ble_eq_true rfl, Nat.le_of_ble_eq_true rfl⟩ (fun v9 q9 => ?_)
          refine lv_iload_n hx hb dX12_walls_27 rfl (lv_at hl 3 rfl) ?_
          have n10 : aN H_2 (fR D H_2 11 a0 1) = 2052 := len_31 S_2.1 g8
          refine q_iast C S_2 g8 (by omega) (by omega) dX12_walls_28 rfl (by decide) (by decide +kernel) (fun _ _ h => wk_low _ _ (by omega) (fun h9 => by omega) (fun h9 => by omega) (fun h9 => by omega) (fun j hj h9 => by omega) h) (fun H11 L11 S11 P11 => ?_) (hs := fun _ => Or.inr (vy_no (by omega) (by omega) (by omega) (by omega) (fun h9 hh9 => by omega) (fun j9 hj9 => by omega)))
          obtain ⟨v12, ev12⟩ : ∃ y : Int32, y = x3_2 + (1) := ⟨_, rfl⟩
          have k_1 : (1 : Int32).toInt = 1 := by decide
          have f13 : v12.toInt = x3_2.toInt + (1) := by rw [ev12]; exact i_addc k_1 (by omega) (by omega)
          refine lv_iinc (v := v12) (lv' := [(3, .int v12), (0, .ref a0), (1, .int x1), (2, .int x2)]) hx hb dX12_walls_29 hl (k := 0) rfl (by rw [ev12]; rfl) (by decide) rfl (fun ls hl => ?_)
          refine lv_goto (tgt := 2) hx hb dX12_walls_32 (by decide) ?_
          exact ih2 v12 H11 L11 ls S11 (by omega) (by omega) (lv_sub hl [0, 1, 2, 3] rfl)
  have k_0 : (0 : Int32).toInt = 0 := by decide
  exact Lp2 2147483648 (0 : Int32) s.heap [] ls S (by omega)  (by omega) (lv_sub hl [0, 1, 2, 3] rfl)

set_option maxRecDepth 100000 in
set_option maxHeartbeats 4000000 in
theorem c_X12_standsBy (l : Launch) (D : DD) (G : Nat → Nat) (a0 : Nat) (x1 : Int32) (x2 : Int32) (ga0 : G a0 = 30) : CE l D G yX12_standsBy cX12_standsBy 4 (some .int) 10 [.ref a0, .int x1, .int x2] (fun _ => True) [(31, 0), (38, 0)] (xI (fun H r H1 => True)) := by
  refine enter (by decide) (Nat.le_of_ble_eq_true rfl) ?_
  intro p e s m args below meth c ls Q hA hQ C hr hO hpre hl
  have hx := C.1
  have hb := C.2.1
  have S : Sd D G [(31, 0), (38, 0)] s.heap s.heap [] := Sd.start hO
  have hl : lv_has ls 4 [(0, .ref a0), (1, .int x1), (2, .int x2)] := hl
  refine lv_aload_n hx hb dX12_standsBy_0 rfl (lv_at hl 0 rfl) ?_
  refine lv_iload_n hx hb dX12_standsBy_1 rfl (lv_at hl 2 rfl) ?_
  refine lv_iconst (v := 1) hx hb dX12_standsBy_2 (by decide) ?_
  have k_1 : (1 : Int32).toInt = 1 := by decide
  refine callV_Ev C S (c_X12_walls l D G a0 x2 (1 : Int32) ga0) kV_X12_373 ga0 (trivial) (by decide +kernel) dX12_standsBy_3 hl.1 rfl rfl (by decide) cd_X12_walls ⟨Nat.le_of_ble_eq_true rfl, Nat.le_of_ble_eq_true rfl, Nat.le_of_ble_eq_true rfl, Nat.le_of_ble_eq_true rfl, Nat.le_of_ble_eq_true rfl⟩ (fun H1 L1 S1 K1 q1 => ?_)
  refine lv_iconst (v := 2) hx hb dX12_standsBy_6 (by decide) ?_
  refine lv_aload_n hx hb dX12_standsBy_7 rfl (lv_at hl 0 rfl) ?_
  refine lv_iload_n hx hb dX12_standsBy_8 rfl (lv_at hl 1 rfl) ?_
  refine callV_Pi C S1.1 S1.2.1.2.1 (c_X12_warmthOf l D G a0 x1 ga0) kV_X12_305 ga0 (trivial) dX12_standsBy_9 hl.1 rfl rfl (by decide) cd_X12_warmthOf ⟨Nat.le_of_ble_eq_true rfl, Nat.le_of_ble_eq_true rfl, Nat.le_of_ble_eq_true rfl, Nat.le_of_ble_eq_true rfl, Nat.le_of_ble_eq_true rfl⟩ (fun v2 q2 => ?_)
  have k_2 : (2 : Int32).toInt = 2 := by decide
  refine lv_imul hx hb dX12_standsBy_12 ?_
  refine lv_topi (fun v3 ev3 => ?_)
  refine lv_aload_n hx hb dX12_standsBy_13 rfl (lv_at hl 0 rfl) ?_
  refine lv_iload_n hx hb dX12_standsBy_14 rfl (lv_at hl 1 rfl) ?_
  refine callV_Ei C S1 (c_X12_paysOf l D G a0 x1 ga0) kV_X12_293 ga0 (trivial) (by decide +kernel) dX12_standsBy_15 hl.1 rfl rfl (by decide) cd_X12_paysOf ⟨Nat.le_of_ble_eq_true rfl, Nat.le_of_ble_eq_true rfl, Nat.le_of_ble_eq_true rfl, Nat.le_of_ble_eq_true rfl, Nat.le_of_ble_eq_true rfl⟩ (fun v4 H4 L4 S4 K4 q4 => ?_)
  refine lv_isub hx hb dX12_standsBy_18 ?_
  refine lv_topi (fun v5 ev5 => ?_)
  refine lv_aload_n hx hb dX12_standsBy_19 rfl (lv_at hl 0 rfl) ?_
  refine lv_iload_n hx hb dX12_standsBy_20 rfl (lv_at hl 2 rfl) ?_
  refine callV_Pi C S4.1 S4.2.1.2.1 (c_X12_costOf l D G a0 x2 ga0) kV_X12_376 ga0 (trivial) dX12_standsBy_21 hl.1 rfl rfl (by decide) cd_X12_costOf ⟨Nat.le_of_ble_eq_true rfl, Nat.le_of_ble_eq_true rfl, Nat.le_of_ble_eq_true rfl, Nat.le_of_ble_eq_true rfl, Nat.le_of_ble_eq_true rfl⟩ (fun v6 q6 => ?_)
  refine lv_isub hx hb dX12_standsBy_24 ?_
  refine lv_topi (fun v7 ev7 => ?_)
  refine lv_istore_n (lv' := [(3, .int v7), (0, .ref a0), (1, .int x1), (2, .int x2)]) hx hb dX12_standsBy_25 rfl hl (by decide) rfl (fun ls hl => ?_)
  refine lv_aload_n hx hb dX12_standsBy_26 rfl (lv_at hl 1 rfl) ?_
  refine lv_iload_n hx hb dX12_standsBy_27 rfl (lv_at hl 3 rfl) ?_
  refine lv_iconst (v := 0) hx hb dX12_standsBy_28 (by decide) ?_
  have k_0 : (0 : Int32).toInt = 0 := by decide
  refine callV_Ev C S4 (c_X12_walls l D G a0 x2 (0 : Int32) ga0) kV_X12_373 ga0 (trivial) (by decide +kernel) dX12_standsBy_29 hl.1 rfl rfl (by decide) cd_X12_walls ⟨Nat.le_of_ble_eq_true rfl, Nat.le_of_ble_eq_true rfl, Nat.le_of_ble_eq_true rfl, Nat.le_of_ble_eq_true rfl, Nat.le_of_ble_eq_true rfl⟩ (fun H8 L8 S8 K8 q8 => ?_)
  refine lv_iload_n hx hb dX12_standsBy_32 rfl (lv_at hl 0 rfl) ?_
  exact retE_i hQ C S8 hr dX12_standsBy_33 (trivial)

set_option maxRecDepth 100000 in
set_option maxHeartbeats 4000000 in
theorem c_X12_planOf (l : Launch) (D : DD) (G : Nat → Nat) (a0 : Nat) (x1 : Int32) (ga0 : G a0 = 30) : CE l D G yX12_planOf cX12_planOf 7 (some .int) 11 [.ref a0, .int x1] (fun _ => True) [(31, 0), (38, 0)] (xI (fun H r H1 => True)) := by
  refine enter (by decide) (Nat.le_of_ble_eq_true rfl) ?_
  intro p e s m args below meth c ls Q hA hQ C hr hO hpre hl
  have hx := C.1
  have hb := C.2.1
  have S : Sd D G [(31, 0), (38, 0)] s.heap s.heap [] := Sd.start hO
  have hl : lv_has ls 7 [(0, .ref a0), (1, .int x1)] := hl
  refine lv_aload_n hx hb dX12_planOf_0 rfl (lv_at hl 0 rfl) ?_
  refine lv_iload_n hx hb dX12_planOf_1 rfl (lv_at hl 1 rfl) ?_
  refine callV_Pi C S.1 S.2.1.2.1 (c_X12_openOf l D G a0 x1 ga0) kV_X12_379 ga0 (trivial) dX12_planOf_2 hl.1 rfl rfl (by decide) cd_X12_openOf ⟨Nat.le_of_ble_eq_true rfl, Nat.le_of_ble_eq_true rfl, Nat.le_of_ble_eq_true rfl, Nat.le_of_ble_eq_true rfl, Nat.le_of_ble_eq_true rfl⟩ (fun v1 q1 => ?_)
  refine lv_istore_n (lv' := [(2, .int v1), (0, .ref a0), (1, .int x1)]) hx hb dX12_planOf_5 rfl hl (by decide) rfl (fun ls hl => ?_)
  refine lv_iconst (v := 0) hx hb dX12_planOf_6 (by decide) ?_
  refine lv_istore_n (lv' := [(3, .int (0 : Int32)), (2, .int v1), (0, .ref a0), (1, .int x1)]) hx hb dX12_planOf_7 rfl hl (by decide) rfl (fun ls hl => ?_)
  refine lv_aload_n hx hb dX12_planOf_8 rfl (lv_at hl 2 rfl) ?_
  refine lv_iload_n hx hb dX12_planOf_9 rfl (lv_at hl 3 rfl) ?_
  refine lv_iconst (v := 0) hx hb dX12_planOf_10 (by decide) ?_
  have k_0 : (0 : Int32).toInt = 0 := by decide
  refine callV_Ei C S (c_X12_standsBy l D G a0 x1 (0 : Int32) ga0) kV_X12_382 ga0 (trivial) (by decide +kernel) dX12_planOf_11 hl.1 rfl rfl (by decide) cd_X12_standsBy ⟨Nat.le_of_ble_eq_true rfl, Nat.le_of_ble_eq_true rfl, Nat.le_of_ble_eq_true rfl, Nat.le_of_ble_eq_true rfl, Nat.le_of_ble_eq_true rfl⟩ (fun v2 H2 L2 S2 K2 q2 => ?_)
  refine lv_istore (lv' := [(4, .int v2), (3, .int (0 : Int32)), (2, .int v1), (0, .ref a0), (1, .int x1)]) hx hb dX12_planOf_14 hl (by decide) rfl (fun ls hl => ?_)
  refine lv_iconst (v := 1) hx hb dX12_planOf_16 (by decide) ?_
  refine lv_istore (lv' := [(5, .int (1 : Int32)), (4, .int v2), (3, .int (0 : Int32)), (2, .int v1), (0, .ref a0), (1, .int x1)]) hx hb dX12_planOf_17 hl (by decide) rfl (fun ls hl => ?_)
  have Lp19 : ∀ (n : Nat) (x5_19 : Int32) (x4_19 : Int32) (x3_19 : Int32) (H_19 : Heap) (L_19 : List Loc) (ls : Array Slot), (Sd D G [(31, 0), (38, 0)] s.heap H_19 L_19) → (1 ≤ x5_19.toInt ∧ x5_19.toInt ≤ 2147483647) → 2147483648 - x5_19.toInt ≤ (n : Int) → lv_has ls 7 [(5, .int x5_19), (4, .int x4_19), (3, .int x3_19), (2, .int v1), (0, .ref a0), (1, .int x1)] → W p l e (rmU 11 0 0) s m args below meth c H_19 L_19 0 0 Q (F0 m 19 ls []) := by
    intro n
    induction n with
    | zero =>
      intro x5_19 x4_19 x3_19 H_19 L_19 ls S_19 j19_0 hn hl
      exact absurd hn (by omega)
    | succ n ih19 =>
      intro x5_19 x4_19 x3_19 H_19 L_19 ls S_19 j19_0 hn hl
      refine lv_iload hx hb dX12_planOf_19 (lv_at hl 0 rfl) ?_
      refine lv_iload_n hx hb dX12_planOf_21 rfl (lv_at hl 3 rfl) ?_
      have r4 := i_rng x5_19
      refine lv_icmp_gt (tgt := 75) hx hb dX12_planOf_22 (by decide) (fun c3 => ?_) (fun c3 => ?_)
      · have b3 : v1.toInt < x5_19.toInt := i_lt.mp c3
        refine lv_iload_n hx hb dX12_planOf_75 rfl (lv_at hl 2 rfl) ?_
        exact retE_i hQ C S_19 hr dX12_planOf_76 (trivial)
      · have b3 : ¬ v1.toInt < x5_19.toInt := fun z9 => c3 (i_lt.mpr z9)
        refine lv_iload hx hb dX12_planOf_25 (lv_at hl 0 rfl) ?_
        refine lv_iload_n hx hb dX12_planOf_27 rfl (lv_at hl 3 rfl) ?_
        refine lv_iconst (v := -1) hx hb dX12_planOf_28 (by decide) ?_
        have k_m1 : (-1 : Int32).toInt = -1 := by decide
        refine lv_ixor hx hb dX12_planOf_29 ?_
        refine lv_topi (fun v5 ev5 => ?_)
        refine lv_iand hx hb dX12_planOf_30 ?_
        have r6 := i_rng v5
        refine lv_topi (fun v7 ev7 => ?_)
        have f8 : 0 ≤ v7.toInt ∧ v7.toInt ≤ x5_19.toInt := by rw [ev7]; exact i_andl (by omega)
        refine lv_if_eq (tgt := 37) hx hb dX12_planOf_31 (by decide) (fun c9 => ?_) (fun c9 => ?_)
        · have b9 : v7.toInt = (0 : Int32).toInt := i_eq.mp c9
          refine lv_aload_n hx hb dX12_planOf_37 rfl (lv_at hl 4 rfl) ?_
          refine lv_iload_n hx hb dX12_planOf_38 rfl (lv_at hl 5 rfl) ?_
          refine lv_iload hx hb dX12_planOf_39 (lv_at hl 0 rfl) ?_
          refine callV_Ei C S_19 (c_X12_standsBy l D G a0 x1 x5_19 ga0) kV_X12_382 ga0 (trivial) (by decide +kernel) dX12_planOf_41 hl.1 rfl rfl (by decide) cd_X12_standsBy ⟨Nat.le_of_ble_eq_true rfl, Nat.le_of_ble_eq_true rfl, Nat.le_of_ble_eq_true rfl, Nat.le_of_ble_eq_true rfl, Nat.le_of_ble_eq_true rfl⟩ (fun v10 H10 L10 S10 K10 q10 => ?_)
          refine lv_istore (lv' := [(6, .int v10), (5, .int x5_19), (4, .int x4_19), (3, .int x3_19), (2, .int v1), (0, .ref a0), (1, .int x1)]) hx hb dX12_planOf_44 hl (by decide) rfl (fun ls hl => ?_)
          refine lv_iload hx hb dX12_planOf_46 (lv_at hl 0 rfl) ?_
          refine lv_iload hx hb dX12_planOf_48 (lv_at hl 2 rfl) ?_
          refine lv_icmp_le (tgt := 58) hx hb dX12_planOf_50 (by decide) (fun c11 => ?_) (fun c11 => ?_)
          · have b11 : v10.toInt ≤ x4_19.toInt := i_le.mp c11
            refine lv_iload_n hx hb dX12_planOf_58 rfl (lv_at hl 3 rfl) ?_
            refine lv_istore_n (lv' := [(3, .int x3_19), (6, .int v10), (5, .int x5_19), (4, .int x4_19), (2, .int v1), (0, .ref a0), (1, .int x1)]) hx hb dX12_planOf_59 rfl hl (by decide) rfl (fun ls hl => ?_)
            refine lv_iload hx hb dX12_planOf_60 (lv_at hl 3 rfl) ?_
            refine lv_iload hx hb dX12_planOf_62 (lv_at hl 1 rfl) ?_
            refine q_max C kN_X12_370 dX12_planOf_64 hl.1 ⟨Nat.le_of_ble_eq_true rfl, Nat.le_of_ble_eq_true rfl, Nat.le_of_ble_eq_true rfl, Nat.le_of_ble_eq_true rfl⟩ (fun v12 fv12 => ?_)
            refine lv_istore (lv' := [(4, .int v12), (3, .int x3_19), (6, .int v10), (5, .int x5_19), (2, .int v1), (0, .ref a0), (1, .int x1)]) hx hb dX12_planOf_67 hl (by decide) rfl (fun ls hl => ?_)
            obtain ⟨v13, ev13⟩ : ∃ y : Int32, y = x5_19 + (1) := ⟨_, rfl⟩
            have k_1 : (1 : Int32).toInt = 1 := by decide
            have f14 : v13.toInt = x5_19.toInt + (1) := by rw [ev13]; exact i_addc k_1 (by omega) (by omega)
            refine lv_iinc (v := v13) (lv' := [(5, .int v13), (4, .int v12), (3, .int x3_19), (6, .int v10), (2, .int v1), (0, .ref a0), (1, .int x1)]) hx hb dX12_planOf_69 hl (k := 3) rfl (by rw [ev13]; rfl) (by decide) rfl (fun ls hl => ?_)
            refine lv_goto (tgt := 19) hx hb dX12_planOf_72 (by decide) ?_
            exact ih19 v13 v12 x3_19 H10 L10 ls S10 (by omega) (by omega) (lv_sub hl [0, 1, 2, 4, 5, 6] rfl)
          · have b11 : ¬ v10.toInt ≤ x4_19.toInt := fun z9 => c11 (i_le.mpr z9)
            refine lv_iload hx hb dX12_planOf_53 (lv_at hl 1 rfl) ?_
            refine lv_goto (tgt := 59) hx hb dX12_planOf_55 (by decide) ?_
            refine lv_istore_n (lv' := [(3, .int x5_19), (6, .int v10), (5, .int x5_19), (4, .int x4_19), (2, .int v1), (0, .ref a0), (1, .int x1)]) hx hb dX12_planOf_59 rfl hl (by decide) rfl (fun ls hl => ?_)
            refine lv_iload hx hb dX12_planOf_60 (lv_at hl 3 rfl) ?_
            refine lv_iload hx hb dX12_planOf_62 (lv_at hl 1 rfl) ?_
            refine q_max C kN_X12_370 dX12_planOf_64 hl.1 ⟨Nat.le_of_ble_eq_true rfl, Nat.le_of_ble_eq_true rfl, Nat.le_of_ble_eq_true rfl, Nat.le_of_ble_eq_true rfl⟩ (fun v15 fv15 => ?_)
            refine lv_istore (lv' := [(4, .int v15), (3, .int x5_19), (6, .int v10), (5, .int x5_19), (2, .int v1), (0, .ref a0), (1, .int x1)]) hx hb dX12_planOf_67 hl (by decide) rfl (fun ls hl => ?_)
            obtain ⟨v16, ev16⟩ : ∃ y : Int32, y = x5_19 + (1) := ⟨_, rfl⟩
            have k_1 : (1 : Int32).toInt = 1 := by decide
            have f17 : v16.toInt = x5_19.toInt + (1) := by rw [ev16]; exact i_addc k_1 (by omega) (by omega)
            refine lv_iinc (v := v16) (lv' := [(5, .int v16), (4, .int v15), (3, .int x5_19), (6, .int v10), (2, .int v1), (0, .ref a0), (1, .int x1)]) hx hb dX12_planOf_69 hl (k := 3) rfl (by rw [ev16]; rfl) (by decide) rfl (fun ls hl => ?_)
            refine lv_goto (tgt := 19) hx hb dX12_planOf_72 (by decide) ?_
            exact ih19 v16 v15 x5_19 H10 L10 ls S10 (by omega) (by omega) (lv_sub hl [0, 1, 2, 4, 5, 6] rfl)
        · have b9 : ¬ v7.toInt = (0 : Int32).toInt := fun z9 => c9 (i_eq.mpr z9)
          refine lv_goto (tgt := 69) hx hb dX12_planOf_34 (by decide) ?_
          obtain ⟨v18, ev18⟩ : ∃ y : Int32, y = x5_19 + (1) := ⟨_, rfl⟩
          have k_1 : (1 : Int32).toInt = 1 := by decide
          have f19 : v18.toInt = x5_19.toInt + (1) := by rw [ev18]; exact i_addc k_1 (by omega) (by omega)
          refine lv_iinc (v := v18) (lv' := [(5, .int v18), (4, .int x4_19), (3, .int x3_19), (2, .int v1), (0, .ref a0), (1, .int x1)]) hx hb dX12_planOf_69 hl (k := 0) rfl (by rw [ev18]; rfl) (by decide) rfl (fun ls hl => ?_)
          refine lv_goto (tgt := 19) hx hb dX12_planOf_72 (by decide) ?_
          exact ih19 v18 x4_19 x3_19 H_19 L_19 ls S_19 (by omega) (by omega) (lv_sub hl [0, 1, 2, 3, 4, 5] rfl)
  have k_1 : (1 : Int32).toInt = 1 := by decide
  exact Lp19 2147483647 (1 : Int32) v2 (0 : Int32) H2 L2 ls S2 (by omega)  (by omega) (lv_sub hl [0, 1, 2, 3, 4, 5] rfl)

set_option maxRecDepth 100000 in
set_option maxHeartbeats 4000000 in
theorem c_X12_plan (l : Launch) (D : DD) (G : Nat → Nat) (a0 : Nat) (x1 : Int32) (x2 : Int32) (ga0 : G a0 = 30) (ix2 : 0 ≤ x2.toInt ∧ x2.toInt ≤ 1) : CE l D G yX12_plan cX12_plan 4 (some .int) 12 [.ref a0, .int x1, .int x2] (fun _ => True) [(30, 0), (31, 0), (38, 0)] (xI (fun H r H1 => True)) := by
  refine enter (by decide) (Nat.le_of_ble_eq_true rfl) ?_
  intro p e s m args below meth c ls Q hA hQ C hr hO hpre hl
  have hx := C.1
  have hb := C.2.1
  have S : Sd D G [(30, 0), (31, 0), (38, 0)] s.heap s.heap [] := Sd.start hO
  have hl : lv_has ls 4 [(0, .ref a0), (1, .int x1), (2, .int x2)] := hl
  refine lv_aload_n hx hb dX12_plan_0 rfl (lv_at hl 0 rfl) ?_
  refine lv_iconst (v := 0) hx hb dX12_plan_1 (by decide) ?_
  have k_0 : (0 : Int32).toInt = 0 := by decide
  refine q_put (T := TX12) C S ga0 0 kF_X12_3 dX12_plan_2 rfl rfl (by decide) (by decide) rfl rfl rfl rfl rfl (vok_a rfl) (by decide +kernel) (fun H1 L1 S1 P1 => ?_)
  refine lv_aload_n hx hb dX12_plan_5 rfl (lv_at hl 0 rfl) ?_
  refine lv_aload_n hx hb dX12_plan_6 rfl (lv_at hl 0 rfl) ?_
  refine lv_iload_n hx hb dX12_plan_7 rfl (lv_at hl 1 rfl) ?_
  refine callV_Pi C S1.1 S1.2.1.2.1 (c_X12_noHouse l D G a0 x1 ga0) kV_X12_299 ga0 (trivial) dX12_plan_8 hl.1 rfl rfl (by decide) cd_X12_noHouse ⟨Nat.le_of_ble_eq_true rfl, Nat.le_of_ble_eq_true rfl, Nat.le_of_ble_eq_true rfl, Nat.le_of_ble_eq_true rfl, Nat.le_of_ble_eq_true rfl⟩ (fun v2 q2 => ?_)
  rcases q2 with q2 | q2
  · skip
    refine lv_iconst (v := 1) hx hb dX12_plan_11 (by decide) ?_
    have k_1 : (1 : Int32).toInt = 1 := by decide
    refine callV_Ei C S1 (c_X12_throwsIf l D G a0 v2 (1 : Int32) ga0 (by omega)) kV_X12_246 ga0 (trivial) (by decide +kernel) dX12_plan_12 hl.1 rfl rfl (by decide) cd_X12_throwsIf ⟨Nat.le_of_ble_eq_true rfl, Nat.le_of_ble_eq_true rfl, Nat.le_of_ble_eq_true rfl, Nat.le_of_ble_eq_true rfl, Nat.le_of_ble_eq_true rfl⟩ (fun v3 H3 L3 S3 K3 q3 => ?_)
    refine lv_if_eq (tgt := 20) hx hb dX12_plan_15 (by decide) (fun c4 => ?_) (fun c4 => ?_)
    · have b4 : v3.toInt = (0 : Int32).toInt := i_eq.mp c4
      refine lv_aload_n hx hb dX12_plan_20 rfl (lv_at hl 0 rfl) ?_
      refine lv_iload_n hx hb dX12_plan_21 rfl (lv_at hl 1 rfl) ?_
      refine callV_Ei C S3 (c_X12_planOf l D G a0 x1 ga0) kV_X12_385 ga0 (trivial) (by decide +kernel) dX12_plan_22 hl.1 rfl rfl (by decide) cd_X12_planOf ⟨Nat.le_of_ble_eq_true rfl, Nat.le_of_ble_eq_true rfl, Nat.le_of_ble_eq_true rfl, Nat.le_of_ble_eq_true rfl, Nat.le_of_ble_eq_true rfl⟩ (fun v5 H5 L5 S5 K5 q5 => ?_)
      refine lv_istore_n (lv' := [(3, .int v5), (0, .ref a0), (1, .int x1), (2, .int x2)]) hx hb dX12_plan_25 rfl hl (by decide) rfl (fun ls hl => ?_)
      refine lv_iload_n hx hb dX12_plan_26 rfl (lv_at hl 3 rfl) ?_
      refine lv_if_eq (tgt := 39) hx hb dX12_plan_27 (by decide) (fun c6 => ?_) (fun c6 => ?_)
      · have b6 : x2.toInt = (0 : Int32).toInt := i_eq.mp c6
        refine lv_iload_n hx hb dX12_plan_39 rfl (lv_at hl 0 rfl) ?_
        exact retE_i hQ C S5 hr dX12_plan_40 (trivial)
      · have b6 : ¬ x2.toInt = (0 : Int32).toInt := fun z9 => c6 (i_eq.mpr z9)
        refine lv_aload_n hx hb dX12_plan_30 rfl (lv_at hl 1 rfl) ?_
        refine lv_iload_n hx hb dX12_plan_31 rfl (lv_at hl 2 rfl) ?_
        refine lv_iload_n hx hb dX12_plan_32 rfl (lv_at hl 0 rfl) ?_
        refine callV_Ei C S5 (c_X12_standsBy l D G a0 x1 v5 ga0) kV_X12_382 ga0 (trivial) (by decide +kernel) dX12_plan_33 hl.1 rfl rfl (by decide) cd_X12_standsBy ⟨Nat.le_of_ble_eq_true rfl, Nat.le_of_ble_eq_true rfl, Nat.le_of_ble_eq_true rfl, Nat.le_of_ble_eq_true rfl, Nat.le_of_ble_eq_true rfl⟩ (fun v7 H7 L7 S7 K7 q7 => ?_)
        refine lv_goto (tgt := 40) hx hb dX12_plan_36 (by decide) ?_
        exact retE_i hQ C S7 hr dX12_plan_40 (trivial)
    · have b4 : ¬ v3.toInt = (0 : Int32).toInt := fun z9 => c4 (i_eq.mpr z9)
      exact absurd b4 (by omega)
  · skip
    refine lv_iconst (v := 1) hx hb dX12_plan_11 (by decide) ?_
    have k_1 : (1 : Int32).toInt = 1 := by decide
    refine callV_Ei C S1 (c_X12_throwsIf l D G a0 v2 (1 : Int32) ga0 (by omega)) kV_X12_246 ga0 (trivial) (by decide +kernel) dX12_plan_12 hl.1 rfl rfl (by decide) cd_X12_throwsIf ⟨Nat.le_of_ble_eq_true rfl, Nat.le_of_ble_eq_true rfl, Nat.le_of_ble_eq_true rfl, Nat.le_of_ble_eq_true rfl, Nat.le_of_ble_eq_true rfl⟩ (fun v8 H8 L8 S8 K8 q8 => ?_)
    refine lv_if_eq (tgt := 20) hx hb dX12_plan_15 (by decide) (fun c9 => ?_) (fun c9 => ?_)
    · have b9 : v8.toInt = (0 : Int32).toInt := i_eq.mp c9
      exact absurd b9 (by omega)
    · have b9 : ¬ v8.toInt = (0 : Int32).toInt := fun z9 => c9 (i_eq.mpr z9)
      refine lv_iconst (v := 0) hx hb dX12_plan_18 (by decide) ?_
      exact retE_i hQ C S8 hr dX12_plan_19 (trivial)

set_option maxRecDepth 100000 in
set_option maxHeartbeats 4000000 in
theorem c_X12_paysWith (l : Launch) (D : DD) (G : Nat → Nat) (a0 : Nat) (x1 : Int32) (x2 : Int32) (ga0 : G a0 = 30) : CE l D G yX12_paysWith cX12_paysWith 4 (some .int) 10 [.ref a0, .int x1, .int x2] (fun _ => True) [(31, 0), (38, 0)] (xI (fun H r H1 => True)) := by
  refine enter (by decide) (Nat.le_of_ble_eq_true rfl) ?_
  intro p e s m args below meth c ls Q hA hQ C hr hO hpre hl
  have hx := C.1
  have hb := C.2.1
  have S : Sd D G [(31, 0), (38, 0)] s.heap s.heap [] := Sd.start hO
  have hl : lv_has ls 4 [(0, .ref a0), (1, .int x1), (2, .int x2)] := hl
  refine lv_aload_n hx hb dX12_paysWith_0 rfl (lv_at hl 0 rfl) ?_
  refine lv_iload_n hx hb dX12_paysWith_1 rfl (lv_at hl 2 rfl) ?_
  refine lv_iconst (v := 1) hx hb dX12_paysWith_2 (by decide) ?_
  have k_1 : (1 : Int32).toInt = 1 := by decide
  refine callV_Ev C S (c_X12_walls l D G a0 x2 (1 : Int32) ga0) kV_X12_373 ga0 (trivial) (by decide +kernel) dX12_paysWith_3 hl.1 rfl rfl (by decide) cd_X12_walls ⟨Nat.le_of_ble_eq_true rfl, Nat.le_of_ble_eq_true rfl, Nat.le_of_ble_eq_true rfl, Nat.le_of_ble_eq_true rfl, Nat.le_of_ble_eq_true rfl⟩ (fun H1 L1 S1 K1 q1 => ?_)
  refine lv_aload_n hx hb dX12_paysWith_6 rfl (lv_at hl 0 rfl) ?_
  refine lv_iload_n hx hb dX12_paysWith_7 rfl (lv_at hl 1 rfl) ?_
  refine callV_Ei C S1 (c_X12_paysOf l D G a0 x1 ga0) kV_X12_293 ga0 (trivial) (by decide +kernel) dX12_paysWith_8 hl.1 rfl rfl (by decide) cd_X12_paysOf ⟨Nat.le_of_ble_eq_true rfl, Nat.le_of_ble_eq_true rfl, Nat.le_of_ble_eq_true rfl, Nat.le_of_ble_eq_true rfl, Nat.le_of_ble_eq_true rfl⟩ (fun v2 H2 L2 S2 K2 q2 => ?_)
  refine lv_istore_n (lv' := [(3, .int v2), (0, .ref a0), (1, .int x1), (2, .int x2)]) hx hb dX12_paysWith_11 rfl hl (by decide) rfl (fun ls hl => ?_)
  refine lv_aload_n hx hb dX12_paysWith_12 rfl (lv_at hl 1 rfl) ?_
  refine lv_iload_n hx hb dX12_paysWith_13 rfl (lv_at hl 3 rfl) ?_
  refine lv_iconst (v := 0) hx hb dX12_paysWith_14 (by decide) ?_
  have k_0 : (0 : Int32).toInt = 0 := by decide
  refine callV_Ev C S2 (c_X12_walls l D G a0 x2 (0 : Int32) ga0) kV_X12_373 ga0 (trivial) (by decide +kernel) dX12_paysWith_15 hl.1 rfl rfl (by decide) cd_X12_walls ⟨Nat.le_of_ble_eq_true rfl, Nat.le_of_ble_eq_true rfl, Nat.le_of_ble_eq_true rfl, Nat.le_of_ble_eq_true rfl, Nat.le_of_ble_eq_true rfl⟩ (fun H3 L3 S3 K3 q3 => ?_)
  refine lv_iload_n hx hb dX12_paysWith_18 rfl (lv_at hl 0 rfl) ?_
  exact retE_i hQ C S3 hr dX12_paysWith_19 (trivial)

set_option maxRecDepth 100000 in
set_option maxHeartbeats 4000000 in
theorem c_X12_yieldOf (l : Launch) (D : DD) (G : Nat → Nat) (a0 : Nat) (x1 : Int32) (ga0 : G a0 = 30) : CE l D G yX12_yieldOf cX12_yieldOf 5 (some .int) 12 [.ref a0, .int x1] (fun _ => True) [(31, 0), (38, 0)] (xI (fun H r H1 => True)) := by
  refine enter (by decide) (Nat.le_of_ble_eq_true rfl) ?_
  intro p e s m args below meth c ls Q hA hQ C hr hO hpre hl
  have hx := C.1
  have hb := C.2.1
  have S : Sd D G [(31, 0), (38, 0)] s.heap s.heap [] := Sd.start hO
  have hl : lv_has ls 5 [(0, .ref a0), (1, .int x1)] := hl
  refine lv_aload_n hx hb dX12_yieldOf_0 rfl (lv_at hl 0 rfl) ?_
  refine q_gr (T := TX12) C S.1 ga0 1 kF_X12_13 dX12_yieldOf_1 rfl rfl (by decide) rfl (by decide) rfl (fun g1 => ?_)
  refine lv_iconst (v := 5) hx hb dX12_yieldOf_4 (by decide) ?_
  have n2 : aN s.heap (fR D s.heap 11 a0 1) = 2052 := len_31 S.1 g1
  have k_5 : (5 : Int32).toInt = 5 := by decide
  refine q_iald C S.1 g1 (by omega) (by omega) dX12_yieldOf_5 rfl (by decide) ?_
  refine lv_topi (fun v3 ev3 => ?_)
  refine lv_istore_n (lv' := [(2, .int v3), (0, .ref a0), (1, .int x1)]) hx hb dX12_yieldOf_6 rfl hl (by decide) rfl (fun ls hl => ?_)
  refine lv_aload_n hx hb dX12_yieldOf_7 rfl (lv_at hl 1 rfl) ?_
  refine q_gr (T := TX12) C S.1 ga0 1 kF_X12_13 dX12_yieldOf_8 rfl rfl (by decide) rfl (by decide) rfl (fun g4 => ?_)
  refine lv_iconst (v := 5) hx hb dX12_yieldOf_11 (by decide) ?_
  refine lv_iload_n hx hb dX12_yieldOf_12 rfl (lv_at hl 2 rfl) ?_
  refine q_iast C S g4 (by omega) (by omega) dX12_yieldOf_13 rfl (by decide) (by decide +kernel) (fun _ _ h => wk_low _ _ (by omega) (fun h9 => by omega) (fun h9 => by omega) (fun h9 => by omega) (fun j hj h9 => by omega) h) (fun H5 L5 S5 P5 => ?_) (hs := fun _ => Or.inr (vy_no (by omega) (by omega) (by omega) (by omega) (fun h9 hh9 => by omega) (fun j9 hj9 => by omega)))
  refine lv_iconst (v := 0) hx hb dX12_yieldOf_14 (by decide) ?_
  refine lv_istore_n (lv' := [(3, .int (0 : Int32)), (2, .int v3), (0, .ref a0), (1, .int x1)]) hx hb dX12_yieldOf_15 rfl hl (by decide) rfl (fun ls hl => ?_)
  refine lv_iconst (v := 0) hx hb dX12_yieldOf_16 (by decide) ?_
  refine lv_istore (lv' := [(4, .int (0 : Int32)), (3, .int (0 : Int32)), (2, .int v3), (0, .ref a0), (1, .int x1)]) hx hb dX12_yieldOf_17 hl (by decide) rfl (fun ls hl => ?_)
  have Lp19 : ∀ (n : Nat) (x4_19 : Int32) (x3_19 : Int32) (H_19 : Heap) (L_19 : List Loc) (ls : Array Slot), (Sd D G [(31, 0), (38, 0)] s.heap H_19 L_19) → (0 ≤ x4_19.toInt ∧ x4_19.toInt ≤ 2147483647) → 2147483648 - x4_19.toInt ≤ (n : Int) → lv_has ls 5 [(4, .int x4_19), (3, .int x3_19), (2, .int v3), (0, .ref a0)] → W p l e (rmU 12 0 0) s m args below meth c H_19 L_19 0 0 Q (F0 m 19 ls []) := by
    intro n
    induction n with
    | zero =>
      intro x4_19 x3_19 H_19 L_19 ls S_19 j19_0 hn hl
      exact absurd hn (by omega)
    | succ n ih19 =>
      intro x4_19 x3_19 H_19 L_19 ls S_19 j19_0 hn hl
      refine lv_iload hx hb dX12_yieldOf_19 (lv_at hl 0 rfl) ?_
      refine lv_aload_n hx hb dX12_yieldOf_21 rfl (lv_at hl 3 rfl) ?_
      refine callV_Pi C S_19.1 S_19.2.1.2.1 (c_X12_houses l D G a0 ga0) kV_X12_59 ga0 (trivial) dX12_yieldOf_22 hl.1 rfl rfl (by decide) cd_X12_houses ⟨Nat.le_of_ble_eq_true rfl, Nat.le_of_ble_eq_true rfl, Nat.le_of_ble_eq_true rfl, Nat.le_of_ble_eq_true rfl, Nat.le_of_ble_eq_true rfl⟩ (fun v6 q6 => ?_)
      have r8 := i_rng x4_19
      refine lv_icmp_ge (tgt := 49) hx hb dX12_yieldOf_25 (by decide) (fun c7 => ?_) (fun c7 => ?_)
      · have b7 : v6.toInt ≤ x4_19.toInt := i_le.mp c7
        refine lv_aload_n hx hb dX12_yieldOf_49 rfl (lv_at hl 3 rfl) ?_
        refine q_gr (T := TX12) C S_19.1 ga0 1 kF_X12_13 dX12_yieldOf_50 rfl rfl (by decide) rfl (by decide) rfl (fun g9 => ?_)
        refine lv_iconst (v := 5) hx hb dX12_yieldOf_53 (by decide) ?_
        refine lv_iload_n hx hb dX12_yieldOf_54 rfl (lv_at hl 2 rfl) ?_
        have n10 : aN H_19 (fR D H_19 11 a0 1) = 2052 := len_31 S_19.1 g9
        refine q_iast C S_19 g9 (by omega) (by omega) dX12_yieldOf_55 rfl (by decide) (by decide +kernel) (fun _ _ h => wk_low _ _ (by omega) (fun h9 => by omega) (fun h9 => by omega) (fun h9 => by omega) (fun j hj h9 => by omega) h) (fun H11 L11 S11 P11 => ?_) (hs := fun _ => Or.inr (vy_no (by omega) (by omega) (by omega) (by omega) (fun h9 hh9 => by omega) (fun j9 hj9 => by omega)))
        refine lv_iload_n hx hb dX12_yieldOf_56 rfl (lv_at hl 1 rfl) ?_
        exact retE_i hQ C S11 hr dX12_yieldOf_57 (trivial)
      · have b7 : ¬ v6.toInt ≤ x4_19.toInt := fun z9 => c7 (i_le.mpr z9)
        refine lv_iload_n hx hb dX12_yieldOf_28 rfl (lv_at hl 1 rfl) ?_
        refine lv_aload_n hx hb dX12_yieldOf_29 rfl (lv_at hl 3 rfl) ?_
        refine lv_iload hx hb dX12_yieldOf_30 (lv_at hl 0 rfl) ?_
        refine lv_aload_n hx hb dX12_yieldOf_32 rfl (lv_at hl 3 rfl) ?_
        refine lv_iload hx hb dX12_yieldOf_33 (lv_at hl 0 rfl) ?_
        refine callV_Ei C S_19 (c_X12_planOf l D G a0 x4_19 ga0) kV_X12_385 ga0 (trivial) (by decide +kernel) dX12_yieldOf_35 hl.1 rfl rfl (by decide) cd_X12_planOf ⟨Nat.le_of_ble_eq_true rfl, Nat.le_of_ble_eq_true rfl, Nat.le_of_ble_eq_true rfl, Nat.le_of_ble_eq_true rfl, Nat.le_of_ble_eq_true rfl⟩ (fun v12 H12 L12 S12 K12 q12 => ?_)
        refine callV_Ei C S12 (c_X12_paysWith l D G a0 x4_19 v12 ga0) kV_X12_388 ga0 (trivial) (by decide +kernel) dX12_yieldOf_38 hl.1 rfl rfl (by decide) cd_X12_paysWith ⟨Nat.le_of_ble_eq_true rfl, Nat.le_of_ble_eq_true rfl, Nat.le_of_ble_eq_true rfl, Nat.le_of_ble_eq_true rfl, Nat.le_of_ble_eq_true rfl⟩ (fun v13 H13 L13 S13 K13 q13 => ?_)
        refine lv_iadd hx hb dX12_yieldOf_41 ?_
        refine lv_topi (fun v14 ev14 => ?_)
        refine lv_istore_n (lv' := [(3, .int v14), (4, .int x4_19), (2, .int v3), (0, .ref a0)]) hx hb dX12_yieldOf_42 rfl hl (by decide) rfl (fun ls hl => ?_)
        obtain ⟨v15, ev15⟩ : ∃ y : Int32, y = x4_19 + (1) := ⟨_, rfl⟩
        have k_1 : (1 : Int32).toInt = 1 := by decide
        have f16 : v15.toInt = x4_19.toInt + (1) := by rw [ev15]; exact i_addc k_1 (by omega) (by omega)
        refine lv_iinc (v := v15) (lv' := [(4, .int v15), (3, .int v14), (2, .int v3), (0, .ref a0)]) hx hb dX12_yieldOf_43 hl (k := 1) rfl (by rw [ev15]; rfl) (by decide) rfl (fun ls hl => ?_)
        refine lv_goto (tgt := 19) hx hb dX12_yieldOf_46 (by decide) ?_
        exact ih19 v15 v14 H13 L13 ls S13 (by omega) (by omega) (lv_sub hl [0, 1, 2, 3] rfl)
  have k_0 : (0 : Int32).toInt = 0 := by decide
  exact Lp19 2147483648 (0 : Int32) (0 : Int32) H5 L5 ls S5 (by omega)  (by omega) (lv_sub hl [0, 1, 2, 3] rfl)

set_option maxRecDepth 100000 in
set_option maxHeartbeats 4000000 in
theorem c_X12_brings (l : Launch) (D : DD) (G : Nat → Nat) (a0 : Nat) (x1 : Int32) (ga0 : G a0 = 30) : CE l D G yX12_brings cX12_brings 2 (some .int) 13 [.ref a0, .int x1] (fun _ => True) [(30, 0), (31, 0), (38, 0)] (xI (fun H r H1 => True)) := by
  refine enter (by decide) (Nat.le_of_ble_eq_true rfl) ?_
  intro p e s m args below meth c ls Q hA hQ C hr hO hpre hl
  have hx := C.1
  have hb := C.2.1
  have S : Sd D G [(30, 0), (31, 0), (38, 0)] s.heap s.heap [] := Sd.start hO
  have hl : lv_has ls 2 [(0, .ref a0), (1, .int x1)] := hl
  refine lv_aload_n hx hb dX12_brings_0 rfl (lv_at hl 0 rfl) ?_
  refine lv_iconst (v := 0) hx hb dX12_brings_1 (by decide) ?_
  have k_0 : (0 : Int32).toInt = 0 := by decide
  refine q_put (T := TX12) C S ga0 0 kF_X12_3 dX12_brings_2 rfl rfl (by decide) (by decide) rfl rfl rfl rfl rfl (vok_a rfl) (by decide +kernel) (fun H1 L1 S1 P1 => ?_)
  refine lv_aload_n hx hb dX12_brings_5 rfl (lv_at hl 0 rfl) ?_
  refine lv_iload_n hx hb dX12_brings_6 rfl (lv_at hl 1 rfl) ?_
  refine callS_Pi C S1.1 S1.2.1.2.1 (c_X12_noRate l D G x1) kS_X12_326 (trivial) dX12_brings_7 hl.1 cd_X12_noRate ⟨Nat.le_of_ble_eq_true rfl, Nat.le_of_ble_eq_true rfl, Nat.le_of_ble_eq_true rfl, Nat.le_of_ble_eq_true rfl, Nat.le_of_ble_eq_true rfl⟩ (fun v2 q2 => ?_)
  rcases q2 with q2 | q2
  · skip
    refine lv_iconst (v := 1) hx hb dX12_brings_10 (by decide) ?_
    have k_1 : (1 : Int32).toInt = 1 := by decide
    refine callV_Ei C S1 (c_X12_throwsIf l D G a0 v2 (1 : Int32) ga0 (by omega)) kV_X12_246 ga0 (trivial) (by decide +kernel) dX12_brings_11 hl.1 rfl rfl (by decide) cd_X12_throwsIf ⟨Nat.le_of_ble_eq_true rfl, Nat.le_of_ble_eq_true rfl, Nat.le_of_ble_eq_true rfl, Nat.le_of_ble_eq_true rfl, Nat.le_of_ble_eq_true rfl⟩ (fun v3 H3 L3 S3 K3 q3 => ?_)
    refine lv_if_eq (tgt := 21) hx hb dX12_brings_14 (by decide) (fun c4 => ?_) (fun c4 => ?_)
    · have b4 : v3.toInt = (0 : Int32).toInt := i_eq.mp c4
      refine lv_aload_n hx hb dX12_brings_21 rfl (lv_at hl 0 rfl) ?_
      refine lv_iload_n hx hb dX12_brings_22 rfl (lv_at hl 1 rfl) ?_
      refine callV_Ei C S3 (c_X12_yieldOf l D G a0 x1 ga0) kV_X12_391 ga0 (trivial) (by decide +kernel) dX12_brings_23 hl.1 rfl rfl (by decide) cd_X12_yieldOf ⟨Nat.le_of_ble_eq_true rfl, Nat.le_of_ble_eq_true rfl, Nat.le_of_ble_eq_true rfl, Nat.le_of_ble_eq_true rfl, Nat.le_of_ble_eq_true rfl⟩ (fun v5 H5 L5 S5 K5 q5 => ?_)
      exact retE_i hQ C S5 hr dX12_brings_26 (trivial)
    · have b4 : ¬ v3.toInt = (0 : Int32).toInt := fun z9 => c4 (i_eq.mpr z9)
      exact absurd b4 (by omega)
  · skip
    refine lv_iconst (v := 1) hx hb dX12_brings_10 (by decide) ?_
    have k_1 : (1 : Int32).toInt = 1 := by decide
    refine callV_Ei C S1 (c_X12_throwsIf l D G a0 v2 (1 : Int32) ga0 (by omega)) kV_X12_246 ga0 (trivial) (by decide +kernel) dX12_brings_11 hl.1 rfl rfl (by decide) cd_X12_throwsIf ⟨Nat.le_of_ble_eq_true rfl, Nat.le_of_ble_eq_true rfl, Nat.le_of_ble_eq_true rfl, Nat.le_of_ble_eq_true rfl, Nat.le_of_ble_eq_true rfl⟩ (fun v6 H6 L6 S6 K6 q6 => ?_)
    refine lv_if_eq (tgt := 21) hx hb dX12_brings_14 (by decide) (fun c7 => ?_) (fun c7 => ?_)
    · have b7 : v6.toInt = (0 : Int32).toInt := i_eq.mp c7
      exact absurd b7 (by omega)
    · have b7 : ¬ v6.toInt = (0 : Int32).toInt := fun z9 => c7 (i_eq.mpr z9)
      refine lv_iconst (v := 0) hx hb dX12_brings_17 (by decide) ?_
      refine lv_goto (tgt := 26) hx hb dX12_brings_18 (by decide) ?_
      exact retE_i hQ C S6 hr dX12_brings_26 (trivial)

set_option maxRecDepth 100000 in
set_option maxHeartbeats 4000000 in
theorem c_X12_dear (l : Launch) (D : DD) (G : Nat → Nat) (a0 : Nat) (ga0 : G a0 = 30) : CE l D G yX12_dear cX12_dear 5 (some .int) 13 [.ref a0] (fun _ => True) [(30, 0), (31, 0), (38, 0)] (xI (fun H r H1 => True)) := by
  refine enter (by decide) (Nat.le_of_ble_eq_true rfl) ?_
  intro p e s m args below meth c ls Q hA hQ C hr hO hpre hl
  have hx := C.1
  have hb := C.2.1
  have S : Sd D G [(30, 0), (31, 0), (38, 0)] s.heap s.heap [] := Sd.start hO
  have hl : lv_has ls 5 [(0, .ref a0)] := hl
  refine lv_aload_n hx hb dX12_dear_0 rfl (lv_at hl 0 rfl) ?_
  refine lv_iconst (v := 0) hx hb dX12_dear_1 (by decide) ?_
  have k_0 : (0 : Int32).toInt = 0 := by decide
  refine q_put (T := TX12) C S ga0 0 kF_X12_3 dX12_dear_2 rfl rfl (by decide) (by decide) rfl rfl rfl rfl rfl (vok_a rfl) (by decide +kernel) (fun H1 L1 S1 P1 => ?_)
  refine lv_iconst (v := 0) hx hb dX12_dear_5 (by decide) ?_
  refine lv_istore_n (lv' := [(1, .int (0 : Int32)), (0, .ref a0)]) hx hb dX12_dear_6 rfl hl (by decide) rfl (fun ls hl => ?_)
  refine lv_iconst (v := -1) hx hb dX12_dear_7 (by decide) ?_
  refine lv_istore_n (lv' := [(2, .int (-1 : Int32)), (1, .int (0 : Int32)), (0, .ref a0)]) hx hb dX12_dear_8 rfl hl (by decide) rfl (fun ls hl => ?_)
  refine lv_iconst (v := 0) hx hb dX12_dear_9 (by decide) ?_
  refine lv_istore_n (lv' := [(3, .int (0 : Int32)), (2, .int (-1 : Int32)), (1, .int (0 : Int32)), (0, .ref a0)]) hx hb dX12_dear_10 rfl hl (by decide) rfl (fun ls hl => ?_)
  have Lp11 : ∀ (n : Nat) (x3_11 : Int32) (x2_11 : Int32) (x1_11 : Int32) (H_11 : Heap) (L_11 : List Loc) (ls : Array Slot), (Sd D G [(30, 0), (31, 0), (38, 0)] s.heap H_11 L_11) → (0 ≤ x3_11.toInt ∧ x3_11.toInt ≤ 2147483647) → 2147483648 - x3_11.toInt ≤ (n : Int) → lv_has ls 5 [(3, .int x3_11), (2, .int x2_11), (1, .int x1_11), (0, .ref a0)] → W p l e (rmU 13 0 0) s m args below meth c H_11 L_11 0 0 Q (F0 m 11 ls []) := by
    intro n
    induction n with
    | zero =>
      intro x3_11 x2_11 x1_11 H_11 L_11 ls S_11 j11_0 hn hl
      exact absurd hn (by omega)
    | succ n ih11 =>
      intro x3_11 x2_11 x1_11 H_11 L_11 ls S_11 j11_0 hn hl
      refine lv_iload_n hx hb dX12_dear_11 rfl (lv_at hl 0 rfl) ?_
      refine lv_bipush (v := 20) hx hb dX12_dear_12 (by decide) ?_
      have k_20 : (20 : Int32).toInt = 20 := by decide
      refine lv_icmp_gt (tgt := 49) hx hb dX12_dear_14 (by decide) (fun c2 => ?_) (fun c2 => ?_)
      · have b2 : (20 : Int32).toInt < x3_11.toInt := i_lt.mp c2
        refine lv_iload_n hx hb dX12_dear_49 rfl (lv_at hl 2 rfl) ?_
        exact retE_i hQ C S_11 hr dX12_dear_50 (trivial)
      · have b2 : ¬ (20 : Int32).toInt < x3_11.toInt := fun z9 => c2 (i_lt.mpr z9)
        refine lv_aload_n hx hb dX12_dear_17 rfl (lv_at hl 3 rfl) ?_
        refine lv_iload_n hx hb dX12_dear_18 rfl (lv_at hl 0 rfl) ?_
        refine callV_Ei C S_11 (c_X12_yieldOf l D G a0 x3_11 ga0) kV_X12_391 ga0 (trivial) (by decide +kernel) dX12_dear_19 hl.1 rfl rfl (by decide) cd_X12_yieldOf ⟨Nat.le_of_ble_eq_true rfl, Nat.le_of_ble_eq_true rfl, Nat.le_of_ble_eq_true rfl, Nat.le_of_ble_eq_true rfl, Nat.le_of_ble_eq_true rfl⟩ (fun v3 H3 L3 S3 K3 q3 => ?_)
        refine lv_istore (lv' := [(4, .int v3), (3, .int x3_11), (2, .int x2_11), (1, .int x1_11), (0, .ref a0)]) hx hb dX12_dear_22 hl (by decide) rfl (fun ls hl => ?_)
        refine lv_iload hx hb dX12_dear_24 (lv_at hl 0 rfl) ?_
        refine lv_iload_n hx hb dX12_dear_26 rfl (lv_at hl 2 rfl) ?_
        refine lv_icmp_le (tgt := 34) hx hb dX12_dear_27 (by decide) (fun c4 => ?_) (fun c4 => ?_)
        · have b4 : v3.toInt ≤ x2_11.toInt := i_le.mp c4
          refine lv_iload_n hx hb dX12_dear_34 rfl (lv_at hl 3 rfl) ?_
          refine lv_istore_n (lv' := [(1, .int x1_11), (4, .int v3), (3, .int x3_11), (2, .int x2_11), (0, .ref a0)]) hx hb dX12_dear_35 rfl hl (by decide) rfl (fun ls hl => ?_)
          refine lv_iload_n hx hb dX12_dear_36 rfl (lv_at hl 3 rfl) ?_
          refine lv_iload hx hb dX12_dear_37 (lv_at hl 1 rfl) ?_
          refine q_max C kN_X12_370 dX12_dear_39 hl.1 ⟨Nat.le_of_ble_eq_true rfl, Nat.le_of_ble_eq_true rfl, Nat.le_of_ble_eq_true rfl, Nat.le_of_ble_eq_true rfl⟩ (fun v5 fv5 => ?_)
          refine lv_istore_n (lv' := [(2, .int v5), (1, .int x1_11), (4, .int v3), (3, .int x3_11), (0, .ref a0)]) hx hb dX12_dear_42 rfl hl (by decide) rfl (fun ls hl => ?_)
          obtain ⟨v6, ev6⟩ : ∃ y : Int32, y = x3_11 + (1) := ⟨_, rfl⟩
          have k_1 : (1 : Int32).toInt = 1 := by decide
          have f7 : v6.toInt = x3_11.toInt + (1) := by rw [ev6]; exact i_addc k_1 (by omega) (by omega)
          refine lv_iinc (v := v6) (lv' := [(3, .int v6), (2, .int v5), (1, .int x1_11), (4, .int v3), (0, .ref a0)]) hx hb dX12_dear_43 hl (k := 3) rfl (by rw [ev6]; rfl) (by decide) rfl (fun ls hl => ?_)
          refine lv_goto (tgt := 11) hx hb dX12_dear_46 (by decide) ?_
          exact ih11 v6 v5 x1_11 H3 L3 ls S3 (by omega) (by omega) (lv_sub hl [0, 1, 2, 4] rfl)
        · have b4 : ¬ v3.toInt ≤ x2_11.toInt := fun z9 => c4 (i_le.mpr z9)
          refine lv_iload_n hx hb dX12_dear_30 rfl (lv_at hl 1 rfl) ?_
          refine lv_goto (tgt := 35) hx hb dX12_dear_31 (by decide) ?_
          refine lv_istore_n (lv' := [(1, .int x3_11), (4, .int v3), (3, .int x3_11), (2, .int x2_11), (0, .ref a0)]) hx hb dX12_dear_35 rfl hl (by decide) rfl (fun ls hl => ?_)
          refine lv_iload_n hx hb dX12_dear_36 rfl (lv_at hl 3 rfl) ?_
          refine lv_iload hx hb dX12_dear_37 (lv_at hl 1 rfl) ?_
          refine q_max C kN_X12_370 dX12_dear_39 hl.1 ⟨Nat.le_of_ble_eq_true rfl, Nat.le_of_ble_eq_true rfl, Nat.le_of_ble_eq_true rfl, Nat.le_of_ble_eq_true rfl⟩ (fun v8 fv8 => ?_)
          refine lv_istore_n (lv' := [(2, .int v8), (1, .int x3_11), (4, .int v3), (3, .int x3_11), (0, .ref a0)]) hx hb dX12_dear_42 rfl hl (by decide) rfl (fun ls hl => ?_)
          obtain ⟨v9, ev9⟩ : ∃ y : Int32, y = x3_11 + (1) := ⟨_, rfl⟩
          have k_1 : (1 : Int32).toInt = 1 := by decide
          have f10 : v9.toInt = x3_11.toInt + (1) := by rw [ev9]; exact i_addc k_1 (by omega) (by omega)
          refine lv_iinc (v := v9) (lv' := [(3, .int v9), (2, .int v8), (1, .int x3_11), (4, .int v3), (0, .ref a0)]) hx hb dX12_dear_43 hl (k := 3) rfl (by rw [ev9]; rfl) (by decide) rfl (fun ls hl => ?_)
          refine lv_goto (tgt := 11) hx hb dX12_dear_46 (by decide) ?_
          exact ih11 v9 v8 x3_11 H3 L3 ls S3 (by omega) (by omega) (lv_sub hl [0, 1, 2, 4] rfl)
  have k_m1 : (-1 : Int32).toInt = -1 := by decide
  exact Lp11 2147483648 (0 : Int32) (-1 : Int32) (0 : Int32) H1 L1 ls S1 (by omega)  (by omega) (lv_sub hl [0, 1, 2, 3] rfl)

set_option maxRecDepth 100000 in
set_option maxHeartbeats 4000000 in
theorem c_X12_least (l : Launch) (D : DD) (G : Nat → Nat) (a0 : Nat) (x1 : Int32) (x2 : Int32) (ga0 : G a0 = 30) : CE l D G yX12_least cX12_least 6 (some .int) 11 [.ref a0, .int x1, .int x2] (fun _ => True) [(30, 0), (31, 0), (38, 0)] (xI (fun H r H1 => True)) := by
  refine enter (by decide) (Nat.le_of_ble_eq_true rfl) ?_
  intro p e s m args below meth c ls Q hA hQ C hr hO hpre hl
  have hx := C.1
  have hb := C.2.1
  have S : Sd D G [(30, 0), (31, 0), (38, 0)] s.heap s.heap [] := Sd.start hO
  have hl : lv_has ls 6 [(0, .ref a0), (1, .int x1), (2, .int x2)] := hl
  refine lv_aload_n hx hb dX12_least_0 rfl (lv_at hl 0 rfl) ?_
  refine lv_iconst (v := 0) hx hb dX12_least_1 (by decide) ?_
  have k_0 : (0 : Int32).toInt = 0 := by decide
  refine q_put (T := TX12) C S ga0 0 kF_X12_3 dX12_least_2 rfl rfl (by decide) (by decide) rfl rfl rfl rfl rfl (vok_a rfl) (by decide +kernel) (fun H1 L1 S1 P1 => ?_)
  refine lv_aload_n hx hb dX12_least_5 rfl (lv_at hl 0 rfl) ?_
  refine lv_aload_n hx hb dX12_least_6 rfl (lv_at hl 0 rfl) ?_
  refine lv_iload_n hx hb dX12_least_7 rfl (lv_at hl 1 rfl) ?_
  refine callV_Pi C S1.1 S1.2.1.2.1 (c_X12_noHouse l D G a0 x1 ga0) kV_X12_299 ga0 (trivial) dX12_least_8 hl.1 rfl rfl (by decide) cd_X12_noHouse ⟨Nat.le_of_ble_eq_true rfl, Nat.le_of_ble_eq_true rfl, Nat.le_of_ble_eq_true rfl, Nat.le_of_ble_eq_true rfl, Nat.le_of_ble_eq_true rfl⟩ (fun v2 q2 => ?_)
  rcases q2 with q2 | q2
  · skip
    refine lv_iconst (v := 1) hx hb dX12_least_11 (by decide) ?_
    have k_1 : (1 : Int32).toInt = 1 := by decide
    refine callV_Ei C S1 (c_X12_throwsIf l D G a0 v2 (1 : Int32) ga0 (by omega)) kV_X12_246 ga0 (trivial) (by decide +kernel) dX12_least_12 hl.1 rfl rfl (by decide) cd_X12_throwsIf ⟨Nat.le_of_ble_eq_true rfl, Nat.le_of_ble_eq_true rfl, Nat.le_of_ble_eq_true rfl, Nat.le_of_ble_eq_true rfl, Nat.le_of_ble_eq_true rfl⟩ (fun v3 H3 L3 S3 K3 q3 => ?_)
    refine lv_if_ne (tgt := 42) hx hb dX12_least_15 (by decide) (fun c4 => ?_) (fun c4 => ?_)
    · have b4 : ¬ v3.toInt = (0 : Int32).toInt := fun z9 => c4 (i_eq.mpr z9)
      exact absurd b4 (by omega)
    · have b4 : v3.toInt = (0 : Int32).toInt := i_eq.mp c4
      refine lv_aload_n hx hb dX12_least_18 rfl (lv_at hl 0 rfl) ?_
      refine lv_iload_n hx hb dX12_least_19 rfl (lv_at hl 2 rfl) ?_
      refine lv_iconst (v := 0) hx hb dX12_least_20 (by decide) ?_
      refine lv_sipush (v := 999) hx hb dX12_least_21 (by decide) ?_
      have k_999 : (999 : Int32).toInt = 999 := by decide
      refine callS_Pi C S3.1 S3.2.1.2.1 (c_X12_in l D G x2 (0 : Int32) (999 : Int32)) kS_X12_63 (trivial) dX12_least_24 hl.1 cd_X12_in ⟨Nat.le_of_ble_eq_true rfl, Nat.le_of_ble_eq_true rfl, Nat.le_of_ble_eq_true rfl, Nat.le_of_ble_eq_true rfl, Nat.le_of_ble_eq_true rfl⟩ (fun v5 q5 => ?_)
      rcases q5 with q5 | q5
      · skip
        refine lv_if_ne (tgt := 34) hx hb dX12_least_27 (by decide) (fun c6 => ?_) (fun c6 => ?_)
        · have b6 : ¬ v5.toInt = (0 : Int32).toInt := fun z9 => c6 (i_eq.mpr z9)
          refine lv_iconst (v := 0) hx hb dX12_least_34 (by decide) ?_
          refine lv_iconst (v := 2) hx hb dX12_least_35 (by decide) ?_
          have k_2 : (2 : Int32).toInt = 2 := by decide
          refine callV_Ei C S3 (c_X12_throwsIf l D G a0 (0 : Int32) (2 : Int32) ga0 (by omega)) kV_X12_246 ga0 (trivial) (by decide +kernel) dX12_least_36 hl.1 rfl rfl (by decide) cd_X12_throwsIf ⟨Nat.le_of_ble_eq_true rfl, Nat.le_of_ble_eq_true rfl, Nat.le_of_ble_eq_true rfl, Nat.le_of_ble_eq_true rfl, Nat.le_of_ble_eq_true rfl⟩ (fun v7 H7 L7 S7 K7 q7 => ?_)
          refine lv_if_eq (tgt := 44) hx hb dX12_least_39 (by decide) (fun c8 => ?_) (fun c8 => ?_)
          · have b8 : v7.toInt = (0 : Int32).toInt := i_eq.mp c8
            refine lv_aload_n hx hb dX12_least_44 rfl (lv_at hl 0 rfl) ?_
            refine lv_iload_n hx hb dX12_least_45 rfl (lv_at hl 1 rfl) ?_
            refine callV_Pi C S7.1 S7.2.1.2.1 (c_X12_openOf l D G a0 x1 ga0) kV_X12_379 ga0 (trivial) dX12_least_46 hl.1 rfl rfl (by decide) cd_X12_openOf ⟨Nat.le_of_ble_eq_true rfl, Nat.le_of_ble_eq_true rfl, Nat.le_of_ble_eq_true rfl, Nat.le_of_ble_eq_true rfl, Nat.le_of_ble_eq_true rfl⟩ (fun v9 q9 => ?_)
            refine lv_istore_n (lv' := [(3, .int v9), (0, .ref a0), (1, .int x1), (2, .int x2)]) hx hb dX12_least_49 rfl hl (by decide) rfl (fun ls hl => ?_)
            refine lv_iload_n hx hb dX12_least_50 rfl (lv_at hl 0 rfl) ?_
            refine lv_istore (lv' := [(4, .int v9), (3, .int v9), (0, .ref a0), (1, .int x1), (2, .int x2)]) hx hb dX12_least_51 hl (by decide) rfl (fun ls hl => ?_)
            refine lv_iload_n hx hb dX12_least_53 rfl (lv_at hl 1 rfl) ?_
            refine lv_istore (lv' := [(5, .int v9), (4, .int v9), (3, .int v9), (0, .ref a0), (1, .int x1), (2, .int x2)]) hx hb dX12_least_54 hl (by decide) rfl (fun ls hl => ?_)
            have Lp56 : ∀ (n : Nat) (x5_56 : Int32) (x4_56 : Int32) (H_56 : Heap) (L_56 : List Loc) (ls : Array Slot), (Sd D G [(30, 0), (31, 0), (38, 0)] s.heap H_56 L_56) → (-1 ≤ x5_56.toInt ∧ x5_56.toInt ≤ 4095) → x5_56.toInt - (-2) ≤ (n : Int) → lv_has ls 6 [(5, .int x5_56), (4, .int x4_56), (3, .int v9), (0, .ref a0), (1, .int x1), (2, .int x2)] → W p l e (rmU 11 0 0) s m args below meth c H_56 L_56 0 0 Q (F0 m 56 ls []) := by
              intro n
              induction n with
              | zero =>
                intro x5_56 x4_56 H_56 L_56 ls S_56 j56_0 hn hl
                exact absurd hn (by omega)
              | succ n ih56 =>
                intro x5_56 x4_56 H_56 L_56 ls S_56 j56_0 hn hl
                refine lv_iload hx hb dX12_least_56 (lv_at hl 0 rfl) ?_
                refine lv_if_lt (tgt := 109) hx hb dX12_least_58 (by decide) (fun c10 => ?_) (fun c10 => ?_)
                · have b10 : x5_56.toInt < (0 : Int32).toInt := i_lt.mp c10
                  refine lv_iload hx hb dX12_least_109 (lv_at hl 1 rfl) ?_
                  exact retE_i hQ C S_56 hr dX12_least_111 (trivial)
                · have b10 : ¬ x5_56.toInt < (0 : Int32).toInt := fun z9 => c10 (i_lt.mpr z9)
                  refine lv_iload hx hb dX12_least_61 (lv_at hl 0 rfl) ?_
                  refine lv_iload_n hx hb dX12_least_63 rfl (lv_at hl 2 rfl) ?_
                  refine lv_iconst (v := -1) hx hb dX12_least_64 (by decide) ?_
                  have k_m1 : (-1 : Int32).toInt = -1 := by decide
                  refine lv_ixor hx hb dX12_least_65 ?_
                  refine lv_topi (fun v11 ev11 => ?_)
                  refine lv_iand hx hb dX12_least_66 ?_
                  have r12 := i_rng v11
                  refine lv_topi (fun v13 ev13 => ?_)
                  have f14 : 0 ≤ v13.toInt ∧ v13.toInt ≤ x5_56.toInt := by rw [ev13]; exact i_andl (by omega)
                  refine lv_if_ne (tgt := 99) hx hb dX12_least_67 (by decide) (fun c15 => ?_) (fun c15 => ?_)
                  · have b15 : ¬ v13.toInt = (0 : Int32).toInt := fun z9 => c15 (i_eq.mpr z9)
                    refine lv_iload hx hb dX12_least_99 (lv_at hl 1 rfl) ?_
                    refine lv_istore (lv' := [(4, .int x4_56), (5, .int x5_56), (3, .int v9), (0, .ref a0), (1, .int x1), (2, .int x2)]) hx hb dX12_least_101 hl (by decide) rfl (fun ls hl => ?_)
                    obtain ⟨v16, ev16⟩ : ∃ y : Int32, y = x5_56 + (-1) := ⟨_, rfl⟩
                    have f17 : v16.toInt = x5_56.toInt + (-1) := by rw [ev16]; exact i_addc k_m1 (by omega) (by omega)
                    refine lv_iinc (v := v16) (lv' := [(5, .int v16), (4, .int x4_56), (3, .int v9), (0, .ref a0), (1, .int x1), (2, .int x2)]) hx hb dX12_least_103 hl (k := 1) rfl (by rw [ev16]; rfl) (by decide) rfl (fun ls hl => ?_)
                    refine lv_goto (tgt := 56) hx hb dX12_least_106 (by decide) ?_
                    exact ih56 v16 x4_56 H_56 L_56 ls S_56 (by omega) (by omega) (lv_sub hl [0, 1, 2, 3, 4, 5] rfl)
                  · have b15 : v13.toInt = (0 : Int32).toInt := i_eq.mp c15
                    refine lv_iload hx hb dX12_least_70 (lv_at hl 0 rfl) ?_
                    refine callS_Pi C S_56.1 S_56.2.1.2.1 (c_J6_bitCount_0f7a4 l D G x5_56) kS_X12_142 (trivial) dX12_least_72 hl.1 cd_J6_bitCount_0f7a4 ⟨Nat.le_of_ble_eq_true rfl, Nat.le_of_ble_eq_true rfl, Nat.le_of_ble_eq_true rfl, Nat.le_of_ble_eq_true rfl, Nat.le_of_ble_eq_true rfl⟩ (fun v18 q18 => ?_)
                    refine lv_iload hx hb dX12_least_75 (lv_at hl 1 rfl) ?_
                    refine callS_Pi C S_56.1 S_56.2.1.2.1 (c_J6_bitCount_0f7a4 l D G x4_56) kS_X12_142 (trivial) dX12_least_77 hl.1 cd_J6_bitCount_0f7a4 ⟨Nat.le_of_ble_eq_true rfl, Nat.le_of_ble_eq_true rfl, Nat.le_of_ble_eq_true rfl, Nat.le_of_ble_eq_true rfl, Nat.le_of_ble_eq_true rfl⟩ (fun v19 q19 => ?_)
                    refine lv_icmp_gt (tgt := 99) hx hb dX12_least_80 (by decide) (fun c20 => ?_) (fun c20 => ?_)
                    · have b20 : v19.toInt < v18.toInt := i_lt.mp c20
                      refine lv_iload hx hb dX12_least_99 (lv_at hl 1 rfl) ?_
                      refine lv_istore (lv' := [(4, .int x4_56), (5, .int x5_56), (3, .int v9), (0, .ref a0), (1, .int x1), (2, .int x2)]) hx hb dX12_least_101 hl (by decide) rfl (fun ls hl => ?_)
                      obtain ⟨v21, ev21⟩ : ∃ y : Int32, y = x5_56 + (-1) := ⟨_, rfl⟩
                      have f22 : v21.toInt = x5_56.toInt + (-1) := by rw [ev21]; exact i_addc k_m1 (by omega) (by omega)
                      refine lv_iinc (v := v21) (lv' := [(5, .int v21), (4, .int x4_56), (3, .int v9), (0, .ref a0), (1, .int x1), (2, .int x2)]) hx hb dX12_least_103 hl (k := 1) rfl (by rw [ev21]; rfl) (by decide) rfl (fun ls hl => ?_)
                      refine lv_goto (tgt := 56) hx hb dX12_least_106 (by decide) ?_
                      exact ih56 v21 x4_56 H_56 L_56 ls S_56 (by omega) (by omega) (lv_sub hl [0, 1, 2, 3, 4, 5] rfl)
                    · have b20 : ¬ v19.toInt < v18.toInt := fun z9 => c20 (i_lt.mpr z9)
                      refine lv_aload_n hx hb dX12_least_83 rfl (lv_at hl 3 rfl) ?_
                      refine lv_iload_n hx hb dX12_least_84 rfl (lv_at hl 4 rfl) ?_
                      refine lv_iload hx hb dX12_least_85 (lv_at hl 0 rfl) ?_
                      refine callV_Ei C S_56 (c_X12_paysWith l D G a0 x1 x5_56 ga0) kV_X12_388 ga0 (trivial) (by decide +kernel) dX12_least_87 hl.1 rfl rfl (by decide) cd_X12_paysWith ⟨Nat.le_of_ble_eq_true rfl, Nat.le_of_ble_eq_true rfl, Nat.le_of_ble_eq_true rfl, Nat.le_of_ble_eq_true rfl, Nat.le_of_ble_eq_true rfl⟩ (fun v23 H23 L23 S23 K23 q23 => ?_)
                      refine lv_iload_n hx hb dX12_least_90 rfl (lv_at hl 5 rfl) ?_
                      have r25 := i_rng v23
                      refine lv_icmp_gt (tgt := 99) hx hb dX12_least_91 (by decide) (fun c24 => ?_) (fun c24 => ?_)
                      · have b24 : x2.toInt < v23.toInt := i_lt.mp c24
                        refine lv_iload hx hb dX12_least_99 (lv_at hl 1 rfl) ?_
                        refine lv_istore (lv' := [(4, .int x4_56), (5, .int x5_56), (3, .int v9), (0, .ref a0), (1, .int x1), (2, .int x2)]) hx hb dX12_least_101 hl (by decide) rfl (fun ls hl => ?_)
                        obtain ⟨v26, ev26⟩ : ∃ y : Int32, y = x5_56 + (-1) := ⟨_, rfl⟩
                        have f27 : v26.toInt = x5_56.toInt + (-1) := by rw [ev26]; exact i_addc k_m1 (by omega) (by omega)
                        refine lv_iinc (v := v26) (lv' := [(5, .int v26), (4, .int x4_56), (3, .int v9), (0, .ref a0), (1, .int x1), (2, .int x2)]) hx hb dX12_least_103 hl (k := 1) rfl (by rw [ev26]; rfl) (by decide) rfl (fun ls hl => ?_)
                        refine lv_goto (tgt := 56) hx hb dX12_least_106 (by decide) ?_
                        exact ih56 v26 x4_56 H23 L23 ls S23 (by omega) (by omega) (lv_sub hl [0, 1, 2, 3, 4, 5] rfl)
                      · have b24 : ¬ x2.toInt < v23.toInt := fun z9 => c24 (i_lt.mpr z9)
                        refine lv_iload hx hb dX12_least_94 (lv_at hl 0 rfl) ?_
                        refine lv_goto (tgt := 101) hx hb dX12_least_96 (by decide) ?_
                        refine lv_istore (lv' := [(4, .int x5_56), (5, .int x5_56), (3, .int v9), (0, .ref a0), (1, .int x1), (2, .int x2)]) hx hb dX12_least_101 hl (by decide) rfl (fun ls hl => ?_)
                        obtain ⟨v28, ev28⟩ : ∃ y : Int32, y = x5_56 + (-1) := ⟨_, rfl⟩
                        have f29 : v28.toInt = x5_56.toInt + (-1) := by rw [ev28]; exact i_addc k_m1 (by omega) (by omega)
                        refine lv_iinc (v := v28) (lv' := [(5, .int v28), (4, .int x5_56), (3, .int v9), (0, .ref a0), (1, .int x1), (2, .int x2)]) hx hb dX12_least_103 hl (k := 1) rfl (by rw [ev28]; rfl) (by decide) rfl (fun ls hl => ?_)
                        refine lv_goto (tgt := 56) hx hb dX12_least_106 (by decide) ?_
                        exact ih56 v28 x5_56 H23 L23 ls S23 (by omega) (by omega) (lv_sub hl [0, 1, 2, 3, 4, 5] rfl)
            exact Lp56 4097 v9 v9 H7 L7 ls S7 (by omega)  (by omega) (lv_sub hl [0, 1, 2, 3, 4, 5] rfl)
          · have b8 : ¬ v7.toInt = (0 : Int32).toInt := fun z9 => c8 (i_eq.mpr z9)
            exact absurd b8 (by omega)
        · have b6 : v5.toInt = (0 : Int32).toInt := i_eq.mp c6
          exact absurd b6 (by omega)
      · skip
        refine lv_if_ne (tgt := 34) hx hb dX12_least_27 (by decide) (fun c30 => ?_) (fun c30 => ?_)
        · have b30 : ¬ v5.toInt = (0 : Int32).toInt := fun z9 => c30 (i_eq.mpr z9)
          exact absurd b30 (by omega)
        · have b30 : v5.toInt = (0 : Int32).toInt := i_eq.mp c30
          refine lv_iconst (v := 1) hx hb dX12_least_30 (by decide) ?_
          refine lv_goto (tgt := 35) hx hb dX12_least_31 (by decide) ?_
          refine lv_iconst (v := 2) hx hb dX12_least_35 (by decide) ?_
          have k_2 : (2 : Int32).toInt = 2 := by decide
          refine callV_Ei C S3 (c_X12_throwsIf l D G a0 (1 : Int32) (2 : Int32) ga0 (by omega)) kV_X12_246 ga0 (trivial) (by decide +kernel) dX12_least_36 hl.1 rfl rfl (by decide) cd_X12_throwsIf ⟨Nat.le_of_ble_eq_true rfl, Nat.le_of_ble_eq_true rfl, Nat.le_of_ble_eq_true rfl, Nat.le_of_ble_eq_true rfl, Nat.le_of_ble_eq_true rfl⟩ (fun v31 H31 L31 S31 K31 q31 => ?_)
          refine lv_if_eq (tgt := 44) hx hb dX12_least_39 (by decide) (fun c32 => ?_) (fun c32 => ?_)
          · have b32 : v31.toInt = (0 : Int32).toInt := i_eq.mp c32
            exact absurd b32 (by omega)
          · have b32 : ¬ v31.toInt = (0 : Int32).toInt := fun z9 => c32 (i_eq.mpr z9)
            refine lv_iconst (v := 0) hx hb dX12_least_42 (by decide) ?_
            exact retE_i hQ C S31 hr dX12_least_43 (trivial)
  · skip
    refine lv_iconst (v := 1) hx hb dX12_least_11 (by decide) ?_
    have k_1 : (1 : Int32).toInt = 1 := by decide
    refine callV_Ei C S1 (c_X12_throwsIf l D G a0 v2 (1 : Int32) ga0 (by omega)) kV_X12_246 ga0 (trivial) (by decide +kernel) dX12_least_12 hl.1 rfl rfl (by decide) cd_X12_throwsIf ⟨Nat.le_of_ble_eq_true rfl, Nat.le_of_ble_eq_true rfl, Nat.le_of_ble_eq_true rfl, Nat.le_of_ble_eq_true rfl, Nat.le_of_ble_eq_true rfl⟩ (fun v33 H33 L33 S33 K33 q33 => ?_)
    refine lv_if_ne (tgt := 42) hx hb dX12_least_15 (by decide) (fun c34 => ?_) (fun c34 => ?_)
    · have b34 : ¬ v33.toInt = (0 : Int32).toInt := fun z9 => c34 (i_eq.mpr z9)
      refine lv_iconst (v := 0) hx hb dX12_least_42 (by decide) ?_
      exact retE_i hQ C S33 hr dX12_least_43 (trivial)
    · have b34 : v33.toInt = (0 : Int32).toInt := i_eq.mp c34
      exact absurd b34 (by omega)

set_option maxRecDepth 100000 in
set_option maxHeartbeats 4000000 in
theorem c_X12_warmer (l : Launch) (D : DD) (G : Nat → Nat) (a0 : Nat) (x1 : Int32) (ga0 : G a0 = 30) : CE l D G yX12_warmer cX12_warmer 6 (some .int) 10 [.ref a0, .int x1] (fun _ => True) [(30, 0), (31, 0), (38, 0)] (xI (fun H r H1 => True)) := by
  refine enter (by decide) (Nat.le_of_ble_eq_true rfl) ?_
  intro p e s m args below meth c ls Q hA hQ C hr hO hpre hl
  have hx := C.1
  have hb := C.2.1
  have S : Sd D G [(30, 0), (31, 0), (38, 0)] s.heap s.heap [] := Sd.start hO
  have hl : lv_has ls 6 [(0, .ref a0), (1, .int x1)] := hl
  refine lv_aload_n hx hb dX12_warmer_0 rfl (lv_at hl 0 rfl) ?_
  refine lv_iconst (v := 0) hx hb dX12_warmer_1 (by decide) ?_
  have k_0 : (0 : Int32).toInt = 0 := by decide
  refine q_put (T := TX12) C S ga0 0 kF_X12_3 dX12_warmer_2 rfl rfl (by decide) (by decide) rfl rfl rfl rfl rfl (vok_a rfl) (by decide +kernel) (fun H1 L1 S1 P1 => ?_)
  refine lv_aload_n hx hb dX12_warmer_5 rfl (lv_at hl 0 rfl) ?_
  refine lv_aload_n hx hb dX12_warmer_6 rfl (lv_at hl 0 rfl) ?_
  refine lv_iload_n hx hb dX12_warmer_7 rfl (lv_at hl 1 rfl) ?_
  refine callV_Pi C S1.1 S1.2.1.2.1 (c_X12_noHouse l D G a0 x1 ga0) kV_X12_299 ga0 (trivial) dX12_warmer_8 hl.1 rfl rfl (by decide) cd_X12_noHouse ⟨Nat.le_of_ble_eq_true rfl, Nat.le_of_ble_eq_true rfl, Nat.le_of_ble_eq_true rfl, Nat.le_of_ble_eq_true rfl, Nat.le_of_ble_eq_true rfl⟩ (fun v2 q2 => ?_)
  rcases q2 with q2 | q2
  · skip
    refine lv_iconst (v := 1) hx hb dX12_warmer_11 (by decide) ?_
    have k_1 : (1 : Int32).toInt = 1 := by decide
    refine callV_Ei C S1 (c_X12_throwsIf l D G a0 v2 (1 : Int32) ga0 (by omega)) kV_X12_246 ga0 (trivial) (by decide +kernel) dX12_warmer_12 hl.1 rfl rfl (by decide) cd_X12_throwsIf ⟨Nat.le_of_ble_eq_true rfl, Nat.le_of_ble_eq_true rfl, Nat.le_of_ble_eq_true rfl, Nat.le_of_ble_eq_true rfl, Nat.le_of_ble_eq_true rfl⟩ (fun v3 H3 L3 S3 K3 q3 => ?_)
    refine lv_if_eq (tgt := 20) hx hb dX12_warmer_15 (by decide) (fun c4 => ?_) (fun c4 => ?_)
    · have b4 : v3.toInt = (0 : Int32).toInt := i_eq.mp c4
      refine lv_iconst (v := -1) hx hb dX12_warmer_20 (by decide) ?_
      refine lv_istore_n (lv' := [(2, .int (-1 : Int32)), (0, .ref a0), (1, .int x1)]) hx hb dX12_warmer_21 rfl hl (by decide) rfl (fun ls hl => ?_)
      refine lv_iconst (v := 2) hx hb dX12_warmer_22 (by decide) ?_
      refine lv_aload_n hx hb dX12_warmer_23 rfl (lv_at hl 1 rfl) ?_
      refine lv_iload_n hx hb dX12_warmer_24 rfl (lv_at hl 2 rfl) ?_
      refine callV_Pi C S3.1 S3.2.1.2.1 (c_X12_warmthOf l D G a0 x1 ga0) kV_X12_305 ga0 (trivial) dX12_warmer_25 hl.1 rfl rfl (by decide) cd_X12_warmthOf ⟨Nat.le_of_ble_eq_true rfl, Nat.le_of_ble_eq_true rfl, Nat.le_of_ble_eq_true rfl, Nat.le_of_ble_eq_true rfl, Nat.le_of_ble_eq_true rfl⟩ (fun v5 q5 => ?_)
      have k_2 : (2 : Int32).toInt = 2 := by decide
      refine lv_imul hx hb dX12_warmer_28 ?_
      refine lv_topi (fun v6 ev6 => ?_)
      refine lv_aload_n hx hb dX12_warmer_29 rfl (lv_at hl 1 rfl) ?_
      refine lv_iload_n hx hb dX12_warmer_30 rfl (lv_at hl 2 rfl) ?_
      refine callV_Ei C S3 (c_X12_paysOf l D G a0 x1 ga0) kV_X12_293 ga0 (trivial) (by decide +kernel) dX12_warmer_31 hl.1 rfl rfl (by decide) cd_X12_paysOf ⟨Nat.le_of_ble_eq_true rfl, Nat.le_of_ble_eq_true rfl, Nat.le_of_ble_eq_true rfl, Nat.le_of_ble_eq_true rfl, Nat.le_of_ble_eq_true rfl⟩ (fun v7 H7 L7 S7 K7 q7 => ?_)
      refine lv_isub hx hb dX12_warmer_34 ?_
      refine lv_topi (fun v8 ev8 => ?_)
      refine lv_istore_n (lv' := [(3, .int v8), (2, .int (-1 : Int32)), (0, .ref a0), (1, .int x1)]) hx hb dX12_warmer_35 rfl hl (by decide) rfl (fun ls hl => ?_)
      refine lv_iconst (v := 0) hx hb dX12_warmer_36 (by decide) ?_
      refine lv_istore (lv' := [(4, .int (0 : Int32)), (3, .int v8), (2, .int (-1 : Int32)), (0, .ref a0), (1, .int x1)]) hx hb dX12_warmer_37 hl (by decide) rfl (fun ls hl => ?_)
      have Lp39 : ∀ (n : Nat) (x4_39 : Int32) (x3_39 : Int32) (x2_39 : Int32) (H_39 : Heap) (L_39 : List Loc) (ls : Array Slot), (Sd D G [(30, 0), (31, 0), (38, 0)] s.heap H_39 L_39) → (0 ≤ x4_39.toInt ∧ x4_39.toInt ≤ 2147483647) → 2147483648 - x4_39.toInt ≤ (n : Int) → lv_has ls 6 [(4, .int x4_39), (3, .int x3_39), (2, .int x2_39), (0, .ref a0), (1, .int x1)] → W p l e (rmU 10 0 0) s m args below meth c H_39 L_39 0 0 Q (F0 m 39 ls []) := by
        intro n
        induction n with
        | zero =>
          intro x4_39 x3_39 x2_39 H_39 L_39 ls S_39 j39_0 hn hl
          exact absurd hn (by omega)
        | succ n ih39 =>
          intro x4_39 x3_39 x2_39 H_39 L_39 ls S_39 j39_0 hn hl
          refine lv_iload hx hb dX12_warmer_39 (lv_at hl 0 rfl) ?_
          refine lv_aload_n hx hb dX12_warmer_41 rfl (lv_at hl 3 rfl) ?_
          refine callV_Pi C S_39.1 S_39.2.1.2.1 (c_X12_hearths l D G a0 ga0) kV_X12_67 ga0 (trivial) dX12_warmer_42 hl.1 rfl rfl (by decide) cd_X12_hearths ⟨Nat.le_of_ble_eq_true rfl, Nat.le_of_ble_eq_true rfl, Nat.le_of_ble_eq_true rfl, Nat.le_of_ble_eq_true rfl, Nat.le_of_ble_eq_true rfl⟩ (fun v9 q9 => ?_)
          have r11 := i_rng x4_39
          refine lv_icmp_ge (tgt := 129) hx hb dX12_warmer_45 (by decide) (fun c10 => ?_) (fun c10 => ?_)
          · have b10 : v9.toInt ≤ x4_39.toInt := i_le.mp c10
            refine lv_iload_n hx hb dX12_warmer_129 rfl (lv_at hl 2 rfl) ?_
            exact retE_i hQ C S_39 hr dX12_warmer_130 (trivial)
          · have b10 : ¬ v9.toInt ≤ x4_39.toInt := fun z9 => c10 (i_le.mpr z9)
            refine lv_aload_n hx hb dX12_warmer_48 rfl (lv_at hl 3 rfl) ?_
            refine lv_iload hx hb dX12_warmer_49 (lv_at hl 0 rfl) ?_
            refine lv_iload_n hx hb dX12_warmer_51 rfl (lv_at hl 4 rfl) ?_
            refine callV_Pi C S_39.1 S_39.2.1.2.1 (c_X12_isOf l D G a0 x4_39 x1 ga0 (by omega)) kV_X12_70 ga0 (trivial) dX12_warmer_52 hl.1 rfl rfl (by decide) cd_X12_isOf ⟨Nat.le_of_ble_eq_true rfl, Nat.le_of_ble_eq_true rfl, Nat.le_of_ble_eq_true rfl, Nat.le_of_ble_eq_true rfl, Nat.le_of_ble_eq_true rfl⟩ (fun v12 q12 => ?_)
            refine lv_if_eq (tgt := 123) hx hb dX12_warmer_55 (by decide) (fun c13 => ?_) (fun c13 => ?_)
            · have b13 : v12.toInt = (0 : Int32).toInt := i_eq.mp c13
              obtain ⟨v14, ev14⟩ : ∃ y : Int32, y = x4_39 + (1) := ⟨_, rfl⟩
              have f15 : v14.toInt = x4_39.toInt + (1) := by rw [ev14]; exact i_addc k_1 (by omega) (by omega)
              refine lv_iinc (v := v14) (lv' := [(4, .int v14), (3, .int x3_39), (2, .int x2_39), (0, .ref a0), (1, .int x1)]) hx hb dX12_warmer_123 hl (k := 0) rfl (by rw [ev14]; rfl) (by decide) rfl (fun ls hl => ?_)
              refine lv_goto (tgt := 39) hx hb dX12_warmer_126 (by decide) ?_
              exact ih39 v14 x3_39 x2_39 H_39 L_39 ls S_39 (by omega) (by omega) (lv_sub hl [0, 1, 2, 3, 4] rfl)
            · have b13 : ¬ v12.toInt = (0 : Int32).toInt := fun z9 => c13 (i_eq.mpr z9)
              refine lv_aload_n hx hb dX12_warmer_58 rfl (lv_at hl 3 rfl) ?_
              refine lv_iload hx hb dX12_warmer_59 (lv_at hl 0 rfl) ?_
              refine callV_Pi C S_39.1 S_39.2.1.2.1 (c_X12_isWalled l D G a0 x4_39 ga0 (by omega)) kV_X12_264 ga0 (trivial) dX12_warmer_61 hl.1 rfl rfl (by decide) cd_X12_isWalled ⟨Nat.le_of_ble_eq_true rfl, Nat.le_of_ble_eq_true rfl, Nat.le_of_ble_eq_true rfl, Nat.le_of_ble_eq_true rfl, Nat.le_of_ble_eq_true rfl⟩ (fun v16 q16 => ?_)
              refine lv_if_ne (tgt := 70) hx hb dX12_warmer_64 (by decide) (fun c17 => ?_) (fun c17 => ?_)
              · have b17 : ¬ v16.toInt = (0 : Int32).toInt := fun z9 => c17 (i_eq.mpr z9)
                refine lv_aload_n hx hb dX12_warmer_70 rfl (lv_at hl 3 rfl) ?_
                refine lv_iconst (v := 1) hx hb dX12_warmer_71 (by decide) ?_
                refine lv_iload hx hb dX12_warmer_72 (lv_at hl 0 rfl) ?_
                refine lv_ishl hx hb dX12_warmer_74 ?_
                refine lv_topi (fun v18 ev18 => ?_)
                have f19 : 1 ≤ v18.toInt ∧ v18.toInt ≤ 2048 := by rw [ev18]; exact i_shl1 11 (by omega) (by omega) (by decide)
                refine lv_iconst (v := 0) hx hb dX12_warmer_75 (by decide) ?_
                refine callV_Ev C S_39 (c_X12_walls l D G a0 v18 (0 : Int32) ga0) kV_X12_373 ga0 (trivial) (by decide +kernel) dX12_warmer_76 hl.1 rfl rfl (by decide) cd_X12_walls ⟨Nat.le_of_ble_eq_true rfl, Nat.le_of_ble_eq_true rfl, Nat.le_of_ble_eq_true rfl, Nat.le_of_ble_eq_true rfl, Nat.le_of_ble_eq_true rfl⟩ (fun H20 L20 S20 K20 q20 => ?_)
                refine lv_iconst (v := 2) hx hb dX12_warmer_79 (by decide) ?_
                refine lv_aload_n hx hb dX12_warmer_80 rfl (lv_at hl 3 rfl) ?_
                refine lv_iload_n hx hb dX12_warmer_81 rfl (lv_at hl 4 rfl) ?_
                refine callV_Pi C S20.1 S20.2.1.2.1 (c_X12_warmthOf l D G a0 x1 ga0) kV_X12_305 ga0 (trivial) dX12_warmer_82 hl.1 rfl rfl (by decide) cd_X12_warmthOf ⟨Nat.le_of_ble_eq_true rfl, Nat.le_of_ble_eq_true rfl, Nat.le_of_ble_eq_true rfl, Nat.le_of_ble_eq_true rfl, Nat.le_of_ble_eq_true rfl⟩ (fun v21 q21 => ?_)
                refine lv_imul hx hb dX12_warmer_85 ?_
                refine lv_topi (fun v22 ev22 => ?_)
                refine lv_aload_n hx hb dX12_warmer_86 rfl (lv_at hl 3 rfl) ?_
                refine lv_iload_n hx hb dX12_warmer_87 rfl (lv_at hl 4 rfl) ?_
                refine callV_Ei C S20 (c_X12_paysOf l D G a0 x1 ga0) kV_X12_293 ga0 (trivial) (by decide +kernel) dX12_warmer_88 hl.1 rfl rfl (by decide) cd_X12_paysOf ⟨Nat.le_of_ble_eq_true rfl, Nat.le_of_ble_eq_true rfl, Nat.le_of_ble_eq_true rfl, Nat.le_of_ble_eq_true rfl, Nat.le_of_ble_eq_true rfl⟩ (fun v23 H23 L23 S23 K23 q23 => ?_)
                refine lv_isub hx hb dX12_warmer_91 ?_
                refine lv_topi (fun v24 ev24 => ?_)
                refine lv_istore (lv' := [(5, .int v24), (4, .int x4_39), (3, .int x3_39), (2, .int x2_39), (0, .ref a0), (1, .int x1)]) hx hb dX12_warmer_92 hl (by decide) rfl (fun ls hl => ?_)
                refine lv_aload_n hx hb dX12_warmer_94 rfl (lv_at hl 4 rfl) ?_
                refine lv_iconst (v := 1) hx hb dX12_warmer_95 (by decide) ?_
                refine lv_iload hx hb dX12_warmer_96 (lv_at hl 1 rfl) ?_
                refine lv_ishl hx hb dX12_warmer_98 ?_
                refine lv_topi (fun v25 ev25 => ?_)
                have f26 : 1 ≤ v25.toInt ∧ v25.toInt ≤ 2048 := by rw [ev25]; exact i_shl1 11 (by omega) (by omega) (by decide)
                refine lv_iconst (v := 1) hx hb dX12_warmer_99 (by decide) ?_
                refine callV_Ev C S23 (c_X12_walls l D G a0 v25 (1 : Int32) ga0) kV_X12_373 ga0 (trivial) (by decide +kernel) dX12_warmer_100 hl.1 rfl rfl (by decide) cd_X12_walls ⟨Nat.le_of_ble_eq_true rfl, Nat.le_of_ble_eq_true rfl, Nat.le_of_ble_eq_true rfl, Nat.le_of_ble_eq_true rfl, Nat.le_of_ble_eq_true rfl⟩ (fun H27 L27 S27 K27 q27 => ?_)
                refine lv_iload hx hb dX12_warmer_103 (lv_at hl 0 rfl) ?_
                refine lv_iload_n hx hb dX12_warmer_105 rfl (lv_at hl 2 rfl) ?_
                refine lv_icmp_le (tgt := 114) hx hb dX12_warmer_106 (by decide) (fun c28 => ?_) (fun c28 => ?_)
                · have b28 : v24.toInt ≤ x3_39.toInt := i_le.mp c28
                  refine lv_iload_n hx hb dX12_warmer_114 rfl (lv_at hl 3 rfl) ?_
                  refine lv_istore_n (lv' := [(2, .int x2_39), (5, .int v24), (4, .int x4_39), (3, .int x3_39), (0, .ref a0), (1, .int x1)]) hx hb dX12_warmer_115 rfl hl (by decide) rfl (fun ls hl => ?_)
                  refine lv_iload_n hx hb dX12_warmer_116 rfl (lv_at hl 3 rfl) ?_
                  refine lv_iload hx hb dX12_warmer_117 (lv_at hl 1 rfl) ?_
                  refine q_max C kN_X12_370 dX12_warmer_119 hl.1 ⟨Nat.le_of_ble_eq_true rfl, Nat.le_of_ble_eq_true rfl, Nat.le_of_ble_eq_true rfl, Nat.le_of_ble_eq_true rfl⟩ (fun v29 fv29 => ?_)
                  refine lv_istore_n (lv' := [(3, .int v29), (2, .int x2_39), (5, .int v24), (4, .int x4_39), (0, .ref a0), (1, .int x1)]) hx hb dX12_warmer_122 rfl hl (by decide) rfl (fun ls hl => ?_)
                  obtain ⟨v30, ev30⟩ : ∃ y : Int32, y = x4_39 + (1) := ⟨_, rfl⟩
                  have f31 : v30.toInt = x4_39.toInt + (1) := by rw [ev30]; exact i_addc k_1 (by omega) (by omega)
                  refine lv_iinc (v := v30) (lv' := [(4, .int v30), (3, .int v29), (2, .int x2_39), (5, .int v24), (0, .ref a0), (1, .int x1)]) hx hb dX12_warmer_123 hl (k := 3) rfl (by rw [ev30]; rfl) (by decide) rfl (fun ls hl => ?_)
                  refine lv_goto (tgt := 39) hx hb dX12_warmer_126 (by decide) ?_
                  exact ih39 v30 v29 x2_39 H27 L27 ls S27 (by omega) (by omega) (lv_sub hl [0, 1, 2, 4, 5] rfl)
                · have b28 : ¬ v24.toInt ≤ x3_39.toInt := fun z9 => c28 (i_le.mpr z9)
                  refine lv_iload hx hb dX12_warmer_109 (lv_at hl 1 rfl) ?_
                  refine lv_goto (tgt := 115) hx hb dX12_warmer_111 (by decide) ?_
                  refine lv_istore_n (lv' := [(2, .int x4_39), (5, .int v24), (4, .int x4_39), (3, .int x3_39), (0, .ref a0), (1, .int x1)]) hx hb dX12_warmer_115 rfl hl (by decide) rfl (fun ls hl => ?_)
                  refine lv_iload_n hx hb dX12_warmer_116 rfl (lv_at hl 3 rfl) ?_
                  refine lv_iload hx hb dX12_warmer_117 (lv_at hl 1 rfl) ?_
                  refine q_max C kN_X12_370 dX12_warmer_119 hl.1 ⟨Nat.le_of_ble_eq_true rfl, Nat.le_of_ble_eq_true rfl, Nat.le_of_ble_eq_true rfl, Nat.le_of_ble_eq_true rfl⟩ (fun v32 fv32 => ?_)
                  refine lv_istore_n (lv' := [(3, .int v32), (2, .int x4_39), (5, .int v24), (4, .int x4_39), (0, .ref a0), (1, .int x1)]) hx hb dX12_warmer_122 rfl hl (by decide) rfl (fun ls hl => ?_)
                  obtain ⟨v33, ev33⟩ : ∃ y : Int32, y = x4_39 + (1) := ⟨_, rfl⟩
                  have f34 : v33.toInt = x4_39.toInt + (1) := by rw [ev33]; exact i_addc k_1 (by omega) (by omega)
                  refine lv_iinc (v := v33) (lv' := [(4, .int v33), (3, .int v32), (2, .int x4_39), (5, .int v24), (0, .ref a0), (1, .int x1)]) hx hb dX12_warmer_123 hl (k := 3) rfl (by rw [ev33]; rfl) (by decide) rfl (fun ls hl => ?_)
                  refine lv_goto (tgt := 39) hx hb dX12_warmer_126 (by decide) ?_
                  exact ih39 v33 v32 x4_39 H27 L27 ls S27 (by omega) (by omega) (lv_sub hl [0, 1, 2, 4, 5] rfl)
              · have b17 : v16.toInt = (0 : Int32).toInt := i_eq.mp c17
                refine lv_goto (tgt := 123) hx hb dX12_warmer_67 (by decide) ?_
                obtain ⟨v35, ev35⟩ : ∃ y : Int32, y = x4_39 + (1) := ⟨_, rfl⟩
                have f36 : v35.toInt = x4_39.toInt + (1) := by rw [ev35]; exact i_addc k_1 (by omega) (by omega)
                refine lv_iinc (v := v35) (lv' := [(4, .int v35), (3, .int x3_39), (2, .int x2_39), (0, .ref a0), (1, .int x1)]) hx hb dX12_warmer_123 hl (k := 0) rfl (by rw [ev35]; rfl) (by decide) rfl (fun ls hl => ?_)
                refine lv_goto (tgt := 39) hx hb dX12_warmer_126 (by decide) ?_
                exact ih39 v35 x3_39 x2_39 H_39 L_39 ls S_39 (by omega) (by omega) (lv_sub hl [0, 1, 2, 3, 4] rfl)
      have k_m1 : (-1 : Int32).toInt = -1 := by decide
      exact Lp39 2147483648 (0 : Int32) v8 (-1 : Int32) H7 L7 ls S7 (by omega)  (by omega) (lv_sub hl [0, 1, 2, 3, 4] rfl)
    · have b4 : ¬ v3.toInt = (0 : Int32).toInt := fun z9 => c4 (i_eq.mpr z9)
      exact absurd b4 (by omega)
  · skip
    refine lv_iconst (v := 1) hx hb dX12_warmer_11 (by decide) ?_
    have k_1 : (1 : Int32).toInt = 1 := by decide
    refine callV_Ei C S1 (c_X12_throwsIf l D G a0 v2 (1 : Int32) ga0 (by omega)) kV_X12_246 ga0 (trivial) (by decide +kernel) dX12_warmer_12 hl.1 rfl rfl (by decide) cd_X12_throwsIf ⟨Nat.le_of_ble_eq_true rfl, Nat.le_of_ble_eq_true rfl, Nat.le_of_ble_eq_true rfl, Nat.le_of_ble_eq_true rfl, Nat.le_of_ble_eq_true rfl⟩ (fun v37 H37 L37 S37 K37 q37 => ?_)
    refine lv_if_eq (tgt := 20) hx hb dX12_warmer_15 (by decide) (fun c38 => ?_) (fun c38 => ?_)
    · have b38 : v37.toInt = (0 : Int32).toInt := i_eq.mp c38
      exact absurd b38 (by omega)
    · have b38 : ¬ v37.toInt = (0 : Int32).toInt := fun z9 => c38 (i_eq.mpr z9)
      refine lv_iconst (v := 0) hx hb dX12_warmer_18 (by decide) ?_
      exact retE_i hQ C S37 hr dX12_warmer_19 (trivial)

set_option maxRecDepth 100000 in
set_option maxHeartbeats 4000000 in
theorem c_X12_hopesOfSet (l : Launch) (D : DD) (G : Nat → Nat) (a0 : Nat) (x1 : Int32) (ga0 : G a0 = 30) : CE l D G yX12_hopesOfSet cX12_hopesOfSet 4 (some .int) 10 [.ref a0, .int x1] (fun _ => True) [(38, 0)] (xI (fun H r H1 => True)) := by
  refine enter (by decide) (Nat.le_of_ble_eq_true rfl) ?_
  intro p e s m args below meth c ls Q hA hQ C hr hO hpre hl
  have hx := C.1
  have hb := C.2.1
  have S : Sd D G [(38, 0)] s.heap s.heap [] := Sd.start hO
  have hl : lv_has ls 4 [(0, .ref a0), (1, .int x1)] := hl
  refine lv_iconst (v := 0) hx hb dX12_hopesOfSet_0 (by decide) ?_
  refine lv_istore_n (lv' := [(2, .int (0 : Int32)), (0, .ref a0), (1, .int x1)]) hx hb dX12_hopesOfSet_1 rfl hl (by decide) rfl (fun ls hl => ?_)
  refine lv_iconst (v := 0) hx hb dX12_hopesOfSet_2 (by decide) ?_
  refine lv_istore_n (lv' := [(3, .int (0 : Int32)), (2, .int (0 : Int32)), (0, .ref a0), (1, .int x1)]) hx hb dX12_hopesOfSet_3 rfl hl (by decide) rfl (fun ls hl => ?_)
  have Lp4 : ∀ (n : Nat) (x3_4 : Int32) (x2_4 : Int32) (H_4 : Heap) (L_4 : List Loc) (ls : Array Slot), (Sd D G [(38, 0)] s.heap H_4 L_4) → (0 ≤ x3_4.toInt ∧ x3_4.toInt ≤ 2147483647) → 2147483648 - x3_4.toInt ≤ (n : Int) → lv_has ls 4 [(3, .int x3_4), (2, .int x2_4), (0, .ref a0), (1, .int x1)] → W p l e (rmU 10 0 0) s m args below meth c H_4 L_4 0 0 Q (F0 m 4 ls []) := by
    intro n
    induction n with
    | zero =>
      intro x3_4 x2_4 H_4 L_4 ls S_4 j4_0 hn hl
      exact absurd hn (by omega)
    | succ n ih4 =>
      intro x3_4 x2_4 H_4 L_4 ls S_4 j4_0 hn hl
      refine lv_iload_n hx hb dX12_hopesOfSet_4 rfl (lv_at hl 0 rfl) ?_
      refine lv_aload_n hx hb dX12_hopesOfSet_5 rfl (lv_at hl 2 rfl) ?_
      refine callV_Pi C S_4.1 S_4.2.1.2.1 (c_X12_houses l D G a0 ga0) kV_X12_59 ga0 (trivial) dX12_hopesOfSet_6 hl.1 rfl rfl (by decide) cd_X12_houses ⟨Nat.le_of_ble_eq_true rfl, Nat.le_of_ble_eq_true rfl, Nat.le_of_ble_eq_true rfl, Nat.le_of_ble_eq_true rfl, Nat.le_of_ble_eq_true rfl⟩ (fun v1 q1 => ?_)
      have r3 := i_rng x3_4
      refine lv_icmp_ge (tgt := 38) hx hb dX12_hopesOfSet_9 (by decide) (fun c2 => ?_) (fun c2 => ?_)
      · have b2 : v1.toInt ≤ x3_4.toInt := i_le.mp c2
        refine lv_iload_n hx hb dX12_hopesOfSet_38 rfl (lv_at hl 1 rfl) ?_
        exact retE_i hQ C S_4 hr dX12_hopesOfSet_39 (trivial)
      · have b2 : ¬ v1.toInt ≤ x3_4.toInt := fun z9 => c2 (i_le.mpr z9)
        refine lv_iload_n hx hb dX12_hopesOfSet_12 rfl (lv_at hl 1 rfl) ?_
        refine lv_iload_n hx hb dX12_hopesOfSet_13 rfl (lv_at hl 3 rfl) ?_
        refine lv_iload_n hx hb dX12_hopesOfSet_14 rfl (lv_at hl 0 rfl) ?_
        refine callS_Pi C S_4.1 S_4.2.1.2.1 (c_X12_has l D G x1 x3_4) kS_X12_287 (trivial) dX12_hopesOfSet_15 hl.1 cd_X12_has ⟨Nat.le_of_ble_eq_true rfl, Nat.le_of_ble_eq_true rfl, Nat.le_of_ble_eq_true rfl, Nat.le_of_ble_eq_true rfl, Nat.le_of_ble_eq_true rfl⟩ (fun v4 q4 => ?_)
        have k_0 : (0 : Int32).toInt = 0 := by decide
        refine lv_if_eq (tgt := 29) hx hb dX12_hopesOfSet_18 (by decide) (fun c5 => ?_) (fun c5 => ?_)
        · have b5 : v4.toInt = (0 : Int32).toInt := i_eq.mp c5
          refine lv_iconst (v := 0) hx hb dX12_hopesOfSet_29 (by decide) ?_
          refine lv_iadd hx hb dX12_hopesOfSet_30 ?_
          refine lv_topi (fun v6 ev6 => ?_)
          refine lv_istore_n (lv' := [(2, .int v6), (3, .int x3_4), (0, .ref a0), (1, .int x1)]) hx hb dX12_hopesOfSet_31 rfl hl (by decide) rfl (fun ls hl => ?_)
          obtain ⟨v7, ev7⟩ : ∃ y : Int32, y = x3_4 + (1) := ⟨_, rfl⟩
          have k_1 : (1 : Int32).toInt = 1 := by decide
          have f8 : v7.toInt = x3_4.toInt + (1) := by rw [ev7]; exact i_addc k_1 (by omega) (by omega)
          refine lv_iinc (v := v7) (lv' := [(3, .int v7), (2, .int v6), (0, .ref a0), (1, .int x1)]) hx hb dX12_hopesOfSet_32 hl (k := 1) rfl (by rw [ev7]; rfl) (by decide) rfl (fun ls hl => ?_)
          refine lv_goto (tgt := 4) hx hb dX12_hopesOfSet_35 (by decide) ?_
          exact ih4 v7 v6 H_4 L_4 ls S_4 (by omega) (by omega) (lv_sub hl [0, 1, 2, 3] rfl)
        · have b5 : ¬ v4.toInt = (0 : Int32).toInt := fun z9 => c5 (i_eq.mpr z9)
          refine lv_aload_n hx hb dX12_hopesOfSet_21 rfl (lv_at hl 2 rfl) ?_
          refine lv_iload_n hx hb dX12_hopesOfSet_22 rfl (lv_at hl 0 rfl) ?_
          refine callV_Ei C S_4 (c_X12_hopesOf l D G a0 x3_4 ga0) kV_X12_302 ga0 (trivial) (by decide +kernel) dX12_hopesOfSet_23 hl.1 rfl rfl (by decide) cd_X12_hopesOf ⟨Nat.le_of_ble_eq_true rfl, Nat.le_of_ble_eq_true rfl, Nat.le_of_ble_eq_true rfl, Nat.le_of_ble_eq_true rfl, Nat.le_of_ble_eq_true rfl⟩ (fun v9 H9 L9 S9 K9 q9 => ?_)
          refine lv_goto (tgt := 30) hx hb dX12_hopesOfSet_26 (by decide) ?_
          refine lv_iadd hx hb dX12_hopesOfSet_30 ?_
          refine lv_topi (fun v10 ev10 => ?_)
          refine lv_istore_n (lv' := [(2, .int v10), (3, .int x3_4), (0, .ref a0), (1, .int x1)]) hx hb dX12_hopesOfSet_31 rfl hl (by decide) rfl (fun ls hl => ?_)
          obtain ⟨v11, ev11⟩ : ∃ y : Int32, y = x3_4 + (1) := ⟨_, rfl⟩
          have k_1 : (1 : Int32).toInt = 1 := by decide
          have f12 : v11.toInt = x3_4.toInt + (1) := by rw [ev11]; exact i_addc k_1 (by omega) (by omega)
          refine lv_iinc (v := v11) (lv' := [(3, .int v11), (2, .int v10), (0, .ref a0), (1, .int x1)]) hx hb dX12_hopesOfSet_32 hl (k := 1) rfl (by rw [ev11]; rfl) (by decide) rfl (fun ls hl => ?_)
          refine lv_goto (tgt := 4) hx hb dX12_hopesOfSet_35 (by decide) ?_
          exact ih4 v11 v10 H9 L9 ls S9 (by omega) (by omega) (lv_sub hl [0, 1, 2, 3] rfl)
  have k_0 : (0 : Int32).toInt = 0 := by decide
  exact Lp4 2147483648 (0 : Int32) (0 : Int32) s.heap [] ls S (by omega)  (by omega) (lv_sub hl [0, 1, 2, 3] rfl)

set_option maxRecDepth 100000 in
set_option maxHeartbeats 4000000 in
theorem c_X12_round (l : Launch) (D : DD) (G : Nat → Nat) (a0 : Nat) (x1 : Int32) (ga0 : G a0 = 30) : CE l D G yX12_round cX12_round 6 (some .int) 11 [.ref a0, .int x1] (fun _ => True) [(30, 0), (38, 0)] (xI (fun H r H1 => True)) := by
  refine enter (by decide) (Nat.le_of_ble_eq_true rfl) ?_
  intro p e s m args below meth c ls Q hA hQ C hr hO hpre hl
  have hx := C.1
  have hb := C.2.1
  have S : Sd D G [(30, 0), (38, 0)] s.heap s.heap [] := Sd.start hO
  have hl : lv_has ls 6 [(0, .ref a0), (1, .int x1)] := hl
  refine lv_aload_n hx hb dX12_round_0 rfl (lv_at hl 0 rfl) ?_
  refine lv_iconst (v := 0) hx hb dX12_round_1 (by decide) ?_
  have k_0 : (0 : Int32).toInt = 0 := by decide
  refine q_put (T := TX12) C S ga0 0 kF_X12_3 dX12_round_2 rfl rfl (by decide) (by decide) rfl rfl rfl rfl rfl (vok_a rfl) (by decide +kernel) (fun H1 L1 S1 P1 => ?_)
  refine lv_aload_n hx hb dX12_round_5 rfl (lv_at hl 0 rfl) ?_
  refine lv_iload_n hx hb dX12_round_6 rfl (lv_at hl 1 rfl) ?_
  refine lv_iconst (v := 0) hx hb dX12_round_7 (by decide) ?_
  refine lv_bipush (v := 6) hx hb dX12_round_8 (by decide) ?_
  have k_6 : (6 : Int32).toInt = 6 := by decide
  refine callS_Pi C S1.1 S1.2.1.2.1 (c_X12_in l D G x1 (0 : Int32) (6 : Int32)) kS_X12_63 (trivial) dX12_round_10 hl.1 cd_X12_in ⟨Nat.le_of_ble_eq_true rfl, Nat.le_of_ble_eq_true rfl, Nat.le_of_ble_eq_true rfl, Nat.le_of_ble_eq_true rfl, Nat.le_of_ble_eq_true rfl⟩ (fun v2 q2 => ?_)
  rcases q2 with q2 | q2
  · skip
    refine lv_if_ne (tgt := 20) hx hb dX12_round_13 (by decide) (fun c3 => ?_) (fun c3 => ?_)
    · have b3 : ¬ v2.toInt = (0 : Int32).toInt := fun z9 => c3 (i_eq.mpr z9)
      refine lv_iconst (v := 0) hx hb dX12_round_20 (by decide) ?_
      refine lv_iconst (v := 1) hx hb dX12_round_21 (by decide) ?_
      have k_1 : (1 : Int32).toInt = 1 := by decide
      refine callV_Ei C S1 (c_X12_throwsIf l D G a0 (0 : Int32) (1 : Int32) ga0 (by omega)) kV_X12_246 ga0 (trivial) (by decide +kernel) dX12_round_22 hl.1 rfl rfl (by decide) cd_X12_throwsIf ⟨Nat.le_of_ble_eq_true rfl, Nat.le_of_ble_eq_true rfl, Nat.le_of_ble_eq_true rfl, Nat.le_of_ble_eq_true rfl, Nat.le_of_ble_eq_true rfl⟩ (fun v4 H4 L4 S4 K4 q4 => ?_)
      refine lv_if_eq (tgt := 30) hx hb dX12_round_25 (by decide) (fun c5 => ?_) (fun c5 => ?_)
      · have b5 : v4.toInt = (0 : Int32).toInt := i_eq.mp c5
        refine lv_iconst (v := 0) hx hb dX12_round_30 (by decide) ?_
        refine lv_istore_n (lv' := [(2, .int (0 : Int32)), (0, .ref a0), (1, .int x1)]) hx hb dX12_round_31 rfl hl (by decide) rfl (fun ls hl => ?_)
        refine lv_iconst (v := 1) hx hb dX12_round_32 (by decide) ?_
        refine lv_istore_n (lv' := [(3, .int (1 : Int32)), (2, .int (0 : Int32)), (0, .ref a0), (1, .int x1)]) hx hb dX12_round_33 rfl hl (by decide) rfl (fun ls hl => ?_)
        have Lp34 : ∀ (n : Nat) (x3_34 : Int32) (x2_34 : Int32) (H_34 : Heap) (L_34 : List Loc) (ls : Array Slot), (Sd D G [(30, 0), (38, 0)] s.heap H_34 L_34) → (1 ≤ x3_34.toInt ∧ x3_34.toInt ≤ 2147483647) → 2147483648 - x3_34.toInt ≤ (n : Int) → lv_has ls 6 [(3, .int x3_34), (2, .int x2_34), (0, .ref a0), (1, .int x1)] → W p l e (rmU 11 0 0) s m args below meth c H_34 L_34 0 0 Q (F0 m 34 ls []) := by
          intro n
          induction n with
          | zero =>
            intro x3_34 x2_34 H_34 L_34 ls S_34 j34_0 hn hl
            exact absurd hn (by omega)
          | succ n ih34 =>
            intro x3_34 x2_34 H_34 L_34 ls S_34 j34_0 hn hl
            refine lv_iload_n hx hb dX12_round_34 rfl (lv_at hl 0 rfl) ?_
            refine lv_iconst (v := 1) hx hb dX12_round_35 (by decide) ?_
            refine lv_aload_n hx hb dX12_round_36 rfl (lv_at hl 2 rfl) ?_
            refine callV_Pi C S_34.1 S_34.2.1.2.1 (c_X12_houses l D G a0 ga0) kV_X12_59 ga0 (trivial) dX12_round_37 hl.1 rfl rfl (by decide) cd_X12_houses ⟨Nat.le_of_ble_eq_true rfl, Nat.le_of_ble_eq_true rfl, Nat.le_of_ble_eq_true rfl, Nat.le_of_ble_eq_true rfl, Nat.le_of_ble_eq_true rfl⟩ (fun v6 q6 => ?_)
            refine lv_ishl hx hb dX12_round_40 ?_
            refine lv_topi (fun v7 ev7 => ?_)
            have f8 : 1 ≤ v7.toInt ∧ v7.toInt ≤ 64 := by rw [ev7]; exact i_shl1 6 (by omega) (by omega) (by decide)
            have r10 := i_rng x3_34
            refine lv_icmp_ge (tgt := 96) hx hb dX12_round_41 (by decide) (fun c9 => ?_) (fun c9 => ?_)
            · have b9 : v7.toInt ≤ x3_34.toInt := i_le.mp c9
              refine lv_iload_n hx hb dX12_round_96 rfl (lv_at hl 1 rfl) ?_
              exact retE_i hQ C S_34 hr dX12_round_97 (trivial)
            · have b9 : ¬ v7.toInt ≤ x3_34.toInt := fun z9 => c9 (i_le.mpr z9)
              refine lv_iload_n hx hb dX12_round_44 rfl (lv_at hl 0 rfl) ?_
              refine callS_Pi C S_34.1 S_34.2.1.2.1 (c_J6_bitCount_0f7a4 l D G x3_34) kS_X12_142 (trivial) dX12_round_45 hl.1 cd_J6_bitCount_0f7a4 ⟨Nat.le_of_ble_eq_true rfl, Nat.le_of_ble_eq_true rfl, Nat.le_of_ble_eq_true rfl, Nat.le_of_ble_eq_true rfl, Nat.le_of_ble_eq_true rfl⟩ (fun v11 q11 => ?_)
              refine lv_istore (lv' := [(4, .int v11), (3, .int x3_34), (2, .int x2_34), (0, .ref a0), (1, .int x1)]) hx hb dX12_round_48 hl (by decide) rfl (fun ls hl => ?_)
              refine lv_aload_n hx hb dX12_round_50 rfl (lv_at hl 3 rfl) ?_
              refine lv_iload_n hx hb dX12_round_51 rfl (lv_at hl 1 rfl) ?_
              refine callV_Ei C S_34 (c_X12_hopesOfSet l D G a0 x3_34 ga0) kV_X12_394 ga0 (trivial) (by decide +kernel) dX12_round_52 hl.1 rfl rfl (by decide) cd_X12_hopesOfSet ⟨Nat.le_of_ble_eq_true rfl, Nat.le_of_ble_eq_true rfl, Nat.le_of_ble_eq_true rfl, Nat.le_of_ble_eq_true rfl, Nat.le_of_ble_eq_true rfl⟩ (fun v12 H12 L12 S12 K12 q12 => ?_)
              refine lv_aload_n hx hb dX12_round_55 rfl (lv_at hl 3 rfl) ?_
              refine lv_iload_n hx hb dX12_round_56 rfl (lv_at hl 2 rfl) ?_
              refine callV_Ei C S12 (c_X12_hopesOfSet l D G a0 x2_34 ga0) kV_X12_394 ga0 (trivial) (by decide +kernel) dX12_round_57 hl.1 rfl rfl (by decide) cd_X12_hopesOfSet ⟨Nat.le_of_ble_eq_true rfl, Nat.le_of_ble_eq_true rfl, Nat.le_of_ble_eq_true rfl, Nat.le_of_ble_eq_true rfl, Nat.le_of_ble_eq_true rfl⟩ (fun v13 H13 L13 S13 K13 q13 => ?_)
              refine lv_isub hx hb dX12_round_60 ?_
              refine lv_topi (fun v14 ev14 => ?_)
              refine lv_istore (lv' := [(5, .int v14), (4, .int v11), (3, .int x3_34), (2, .int x2_34), (0, .ref a0), (1, .int x1)]) hx hb dX12_round_61 hl (by decide) rfl (fun ls hl => ?_)
              refine lv_iload hx hb dX12_round_63 (lv_at hl 1 rfl) ?_
              refine lv_iload_n hx hb dX12_round_65 rfl (lv_at hl 5 rfl) ?_
              have r16 := i_rng v11
              refine lv_icmp_gt (tgt := 90) hx hb dX12_round_66 (by decide) (fun c15 => ?_) (fun c15 => ?_)
              · have b15 : x1.toInt < v11.toInt := i_lt.mp c15
                obtain ⟨v17, ev17⟩ : ∃ y : Int32, y = x3_34 + (1) := ⟨_, rfl⟩
                have f18 : v17.toInt = x3_34.toInt + (1) := by rw [ev17]; exact i_addc k_1 (by omega) (by omega)
                refine lv_iinc (v := v17) (lv' := [(3, .int v17), (5, .int v14), (4, .int v11), (2, .int x2_34), (0, .ref a0), (1, .int x1)]) hx hb dX12_round_90 hl (k := 2) rfl (by rw [ev17]; rfl) (by decide) rfl (fun ls hl => ?_)
                refine lv_goto (tgt := 34) hx hb dX12_round_93 (by decide) ?_
                exact ih34 v17 x2_34 H13 L13 ls S13 (by omega) (by omega) (lv_sub hl [0, 3, 4, 5] rfl)
              · have b15 : ¬ x1.toInt < v11.toInt := fun z9 => c15 (i_lt.mpr z9)
                refine lv_iload hx hb dX12_round_69 (lv_at hl 0 rfl) ?_
                refine lv_if_gt (tgt := 88) hx hb dX12_round_71 (by decide) (fun c19 => ?_) (fun c19 => ?_)
                · have b19 : (0 : Int32).toInt < v14.toInt := i_lt.mp c19
                  refine lv_iload_n hx hb dX12_round_88 rfl (lv_at hl 2 rfl) ?_
                  refine lv_istore_n (lv' := [(2, .int x3_34), (5, .int v14), (4, .int v11), (3, .int x3_34), (0, .ref a0), (1, .int x1)]) hx hb dX12_round_89 rfl hl (by decide) rfl (fun ls hl => ?_)
                  obtain ⟨v20, ev20⟩ : ∃ y : Int32, y = x3_34 + (1) := ⟨_, rfl⟩
                  have f21 : v20.toInt = x3_34.toInt + (1) := by rw [ev20]; exact i_addc k_1 (by omega) (by omega)
                  refine lv_iinc (v := v20) (lv' := [(3, .int v20), (2, .int x3_34), (5, .int v14), (4, .int v11), (0, .ref a0), (1, .int x1)]) hx hb dX12_round_90 hl (k := 3) rfl (by rw [ev20]; rfl) (by decide) rfl (fun ls hl => ?_)
                  refine lv_goto (tgt := 34) hx hb dX12_round_93 (by decide) ?_
                  exact ih34 v20 x3_34 H13 L13 ls S13 (by omega) (by omega) (lv_sub hl [0, 1, 4, 5] rfl)
                · have b19 : ¬ (0 : Int32).toInt < v14.toInt := fun z9 => c19 (i_lt.mpr z9)
                  refine lv_iload hx hb dX12_round_74 (lv_at hl 0 rfl) ?_
                  refine lv_if_ne (tgt := 90) hx hb dX12_round_76 (by decide) (fun c22 => ?_) (fun c22 => ?_)
                  · have b22 : ¬ v14.toInt = (0 : Int32).toInt := fun z9 => c22 (i_eq.mpr z9)
                    obtain ⟨v23, ev23⟩ : ∃ y : Int32, y = x3_34 + (1) := ⟨_, rfl⟩
                    have f24 : v23.toInt = x3_34.toInt + (1) := by rw [ev23]; exact i_addc k_1 (by omega) (by omega)
                    refine lv_iinc (v := v23) (lv' := [(3, .int v23), (5, .int v14), (4, .int v11), (2, .int x2_34), (0, .ref a0), (1, .int x1)]) hx hb dX12_round_90 hl (k := 2) rfl (by rw [ev23]; rfl) (by decide) rfl (fun ls hl => ?_)
                    refine lv_goto (tgt := 34) hx hb dX12_round_93 (by decide) ?_
                    exact ih34 v23 x2_34 H13 L13 ls S13 (by omega) (by omega) (lv_sub hl [0, 3, 4, 5] rfl)
                  · have b22 : v14.toInt = (0 : Int32).toInt := i_eq.mp c22
                    refine lv_iload hx hb dX12_round_79 (lv_at hl 1 rfl) ?_
                    refine lv_iload_n hx hb dX12_round_81 rfl (lv_at hl 3 rfl) ?_
                    refine callS_Pi C S13.1 S13.2.1.2.1 (c_J6_bitCount_0f7a4 l D G x2_34) kS_X12_142 (trivial) dX12_round_82 hl.1 cd_J6_bitCount_0f7a4 ⟨Nat.le_of_ble_eq_true rfl, Nat.le_of_ble_eq_true rfl, Nat.le_of_ble_eq_true rfl, Nat.le_of_ble_eq_true rfl, Nat.le_of_ble_eq_true rfl⟩ (fun v25 q25 => ?_)
                    have r27 := i_rng v25
                    refine lv_icmp_ge (tgt := 90) hx hb dX12_round_85 (by decide) (fun c26 => ?_) (fun c26 => ?_)
                    · have b26 : v25.toInt ≤ v11.toInt := i_le.mp c26
                      obtain ⟨v28, ev28⟩ : ∃ y : Int32, y = x3_34 + (1) := ⟨_, rfl⟩
                      have f29 : v28.toInt = x3_34.toInt + (1) := by rw [ev28]; exact i_addc k_1 (by omega) (by omega)
                      refine lv_iinc (v := v28) (lv' := [(3, .int v28), (5, .int v14), (4, .int v11), (2, .int x2_34), (0, .ref a0), (1, .int x1)]) hx hb dX12_round_90 hl (k := 2) rfl (by rw [ev28]; rfl) (by decide) rfl (fun ls hl => ?_)
                      refine lv_goto (tgt := 34) hx hb dX12_round_93 (by decide) ?_
                      exact ih34 v28 x2_34 H13 L13 ls S13 (by omega) (by omega) (lv_sub hl [0, 3, 4, 5] rfl)
                    · have b26 : ¬ v25.toInt ≤ v11.toInt := fun z9 => c26 (i_le.mpr z9)
                      refine lv_iload_n hx hb dX12_round_88 rfl (lv_at hl 2 rfl) ?_
                      refine lv_istore_n (lv' := [(2, .int x3_34), (5, .int v14), (4, .int v11), (3, .int x3_34), (0, .ref a0), (1, .int x1)]) hx hb dX12_round_89 rfl hl (by decide) rfl (fun ls hl => ?_)
                      obtain ⟨v30, ev30⟩ : ∃ y : Int32, y = x3_34 + (1) := ⟨_, rfl⟩
                      have f31 : v30.toInt = x3_34.toInt + (1) := by rw [ev30]; exact i_addc k_1 (by omega) (by omega)
                      refine lv_iinc (v := v30) (lv' := [(3, .int v30), (2, .int x3_34), (5, .int v14), (4, .int v11), (0, .ref a0), (1, .int x1)]) hx hb dX12_round_90 hl (k := 3) rfl (by rw [ev30]; rfl) (by decide) rfl (fun ls hl => ?_)
                      refine lv_goto (tgt := 34) hx hb dX12_round_93 (by decide) ?_
                      exact ih34 v30 x3_34 H13 L13 ls S13 (by omega) (by omega) (lv_sub hl [0, 1, 4, 5] rfl)
        exact Lp34 2147483647 (1 : Int32) (0 : Int32) H4 L4 ls S4 (by omega)  (by omega) (lv_sub hl [0, 1, 2, 3] rfl)
      · have b5 : ¬ v4.toInt = (0 : Int32).toInt := fun z9 => c5 (i_eq.mpr z9)
        exact absurd b5 (by omega)
    · have b3 : v2.toInt = (0 : Int32).toInt := i_eq.mp c3
      exact absurd b3 (by omega)
  · skip
    refine lv_if_ne (tgt := 20) hx hb dX12_round_13 (by decide) (fun c32 => ?_) (fun c32 => ?_)
    · have b32 : ¬ v2.toInt = (0 : Int32).toInt := fun z9 => c32 (i_eq.mpr z9)
      exact absurd b32 (by omega)
    · have b32 : v2.toInt = (0 : Int32).toInt := i_eq.mp c32
      refine lv_iconst (v := 1) hx hb dX12_round_16 (by decide) ?_
      refine lv_goto (tgt := 21) hx hb dX12_round_17 (by decide) ?_
      refine lv_iconst (v := 1) hx hb dX12_round_21 (by decide) ?_
      have k_1 : (1 : Int32).toInt = 1 := by decide
      refine callV_Ei C S1 (c_X12_throwsIf l D G a0 (1 : Int32) (1 : Int32) ga0 (by omega)) kV_X12_246 ga0 (trivial) (by decide +kernel) dX12_round_22 hl.1 rfl rfl (by decide) cd_X12_throwsIf ⟨Nat.le_of_ble_eq_true rfl, Nat.le_of_ble_eq_true rfl, Nat.le_of_ble_eq_true rfl, Nat.le_of_ble_eq_true rfl, Nat.le_of_ble_eq_true rfl⟩ (fun v33 H33 L33 S33 K33 q33 => ?_)
      refine lv_if_eq (tgt := 30) hx hb dX12_round_25 (by decide) (fun c34 => ?_) (fun c34 => ?_)
      · have b34 : v33.toInt = (0 : Int32).toInt := i_eq.mp c34
        exact absurd b34 (by omega)
      · have b34 : ¬ v33.toInt = (0 : Int32).toInt := fun z9 => c34 (i_eq.mpr z9)
        refine lv_iconst (v := 0) hx hb dX12_round_28 (by decide) ?_
        exact retE_i hQ C S33 hr dX12_round_29 (trivial)

set_option maxRecDepth 100000 in
set_option maxHeartbeats 4000000 in
theorem c_X12_lossOf (l : Launch) (D : DD) (G : Nat → Nat) (a0 : Nat) (x1 : Int32) (ga0 : G a0 = 30) (ix1 : 0 ≤ x1.toInt ∧ x1.toInt ≤ 11) : CE l D G yX12_lossOf cX12_lossOf 2 (some .int) 9 [.ref a0, .int x1] (fun _ => True) [(38, 0)] (xI (fun H r H1 => True)) := by
  refine enter (by decide) (Nat.le_of_ble_eq_true rfl) ?_
  intro p e s m args below meth c ls Q hA hQ C hr hO hpre hl
  have hx := C.1
  have hb := C.2.1
  have S : Sd D G [(38, 0)] s.heap s.heap [] := Sd.start hO
  have hl : lv_has ls 2 [(0, .ref a0), (1, .int x1)] := hl
  refine lv_aload_n hx hb dX12_lossOf_0 rfl (lv_at hl 0 rfl) ?_
  refine lv_iload_n hx hb dX12_lossOf_1 rfl (lv_at hl 1 rfl) ?_
  refine callV_Ei C S (c_X12_foundBy l D G a0 x1 ga0 (by omega)) kV_X12_284 ga0 (trivial) (by decide +kernel) dX12_lossOf_2 hl.1 rfl rfl (by decide) cd_X12_foundBy ⟨Nat.le_of_ble_eq_true rfl, Nat.le_of_ble_eq_true rfl, Nat.le_of_ble_eq_true rfl, Nat.le_of_ble_eq_true rfl, Nat.le_of_ble_eq_true rfl⟩ (fun v1 H1 L1 S1 K1 q1 => ?_)
  refine lv_bipush (v := 10) hx hb dX12_lossOf_5 (by decide) ?_
  have k_10 : (10 : Int32).toInt = 10 := by decide
  refine lv_idiv hx hb dX12_lossOf_7 (by first | decide | (intro z9; have := i_eq.mp z9; simp at this; omega) | assumption) ?_
  refine lv_topi (fun v2 ev2 => ?_)
  refine lv_aload_n hx hb dX12_lossOf_8 rfl (lv_at hl 0 rfl) ?_
  refine lv_iload_n hx hb dX12_lossOf_9 rfl (lv_at hl 1 rfl) ?_
  refine callV_Ei C S1 (c_X12_taxOf l D G a0 x1 ga0 (by omega)) kV_X12_278 ga0 (trivial) (by decide +kernel) dX12_lossOf_10 hl.1 rfl rfl (by decide) cd_X12_taxOf ⟨Nat.le_of_ble_eq_true rfl, Nat.le_of_ble_eq_true rfl, Nat.le_of_ble_eq_true rfl, Nat.le_of_ble_eq_true rfl, Nat.le_of_ble_eq_true rfl⟩ (fun v3 H3 L3 S3 K3 q3 => ?_)
  refine lv_aload_n hx hb dX12_lossOf_13 rfl (lv_at hl 0 rfl) ?_
  refine q_gr (T := TX12) C S3.1 ga0 1 kF_X12_13 dX12_lossOf_14 rfl rfl (by decide) rfl (by decide) rfl (fun g4 => ?_)
  refine lv_bipush (v := 6) hx hb dX12_lossOf_17 (by decide) ?_
  have n5 : aN H3 (fR D H3 11 a0 1) = 2052 := len_31 S3.1 g4
  have k_6 : (6 : Int32).toInt = 6 := by decide
  refine q_iald C S3.1 g4 (by omega) (by omega) dX12_lossOf_19 rfl (by decide) ?_
  refine lv_topi (fun v6 ev6 => ?_)
  refine lv_iadd hx hb dX12_lossOf_20 ?_
  refine lv_topi (fun v7 ev7 => ?_)
  refine lv_imul hx hb dX12_lossOf_21 ?_
  refine lv_topi (fun v8 ev8 => ?_)
  refine lv_bipush (v := 10) hx hb dX12_lossOf_22 (by decide) ?_
  refine lv_idiv hx hb dX12_lossOf_24 (by first | decide | (intro z9; have := i_eq.mp z9; simp at this; omega) | assumption) ?_
  refine lv_topi (fun v9 ev9 => ?_)
  exact retE_i hQ C S3 hr dX12_lossOf_25 (trivial)

set_option maxRecDepth 100000 in
set_option maxHeartbeats 4000000 in
theorem c_X12_paysBy (l : Launch) (D : DD) (G : Nat → Nat) (a0 : Nat) (x1 : Int32) (x2 : Int32) (x3 : Int32) (ga0 : G a0 = 30) (ix1 : 0 ≤ x1.toInt ∧ x1.toInt ≤ 11) : CE l D G yX12_paysBy cX12_paysBy 4 (some .int) 10 [.ref a0, .int x1, .int x2, .int x3] (fun _ => True) [(38, 0)] (xI (fun H r H1 => True)) := by
  refine enter (by decide) (Nat.le_of_ble_eq_true rfl) ?_
  intro p e s m args below meth c ls Q hA hQ C hr hO hpre hl
  have hx := C.1
  have hb := C.2.1
  have S : Sd D G [(38, 0)] s.heap s.heap [] := Sd.start hO
  have hl : lv_has ls 4 [(0, .ref a0), (1, .int x1), (2, .int x2), (3, .int x3)] := hl
  refine lv_iload_n hx hb dX12_paysBy_0 rfl (lv_at hl 2 rfl) ?_
  refine lv_iconst (v := 1) hx hb dX12_paysBy_1 (by decide) ?_
  have k_1 : (1 : Int32).toInt = 1 := by decide
  refine lv_icmp_ne (tgt := 13) hx hb dX12_paysBy_2 (by decide) (fun c1 => ?_) (fun c1 => ?_)
  · have b1 : ¬ x2.toInt = (1 : Int32).toInt := fun z9 => c1 (i_eq.mpr z9)
    refine lv_aload_n hx hb dX12_paysBy_13 rfl (lv_at hl 0 rfl) ?_
    refine q_gr (T := TX12) C S.1 ga0 1 kF_X12_13 dX12_paysBy_14 rfl rfl (by decide) rfl (by decide) rfl (fun g2 => ?_)
    refine lv_bipush (v := 8) hx hb dX12_paysBy_17 (by decide) ?_
    have n3 : aN s.heap (fR D s.heap 11 a0 1) = 2052 := len_31 S.1 g2
    have k_8 : (8 : Int32).toInt = 8 := by decide
    refine q_iald C S.1 g2 (by omega) (by omega) dX12_paysBy_19 rfl (by decide) ?_
    refine lv_topi (fun v4 ev4 => ?_)
    refine lv_iload_n hx hb dX12_paysBy_20 rfl (lv_at hl 3 rfl) ?_
    have k_0 : (0 : Int32).toInt = 0 := by decide
    refine lv_if_ne (tgt := 32) hx hb dX12_paysBy_21 (by decide) (fun c5 => ?_) (fun c5 => ?_)
    · have b5 : ¬ x3.toInt = (0 : Int32).toInt := fun z9 => c5 (i_eq.mpr z9)
      refine lv_iconst (v := 0) hx hb dX12_paysBy_32 (by decide) ?_
      refine lv_iadd hx hb dX12_paysBy_33 ?_
      refine lv_topi (fun v6 ev6 => ?_)
      exact retE_i hQ C S hr dX12_paysBy_34 (trivial)
    · have b5 : x3.toInt = (0 : Int32).toInt := i_eq.mp c5
      refine lv_aload_n hx hb dX12_paysBy_24 rfl (lv_at hl 0 rfl) ?_
      refine lv_iload_n hx hb dX12_paysBy_25 rfl (lv_at hl 1 rfl) ?_
      refine callV_Ei C S (c_X12_lossOf l D G a0 x1 ga0 (by omega)) kV_X12_397 ga0 (trivial) (by decide +kernel) dX12_paysBy_26 hl.1 rfl rfl (by decide) cd_X12_lossOf ⟨Nat.le_of_ble_eq_true rfl, Nat.le_of_ble_eq_true rfl, Nat.le_of_ble_eq_true rfl, Nat.le_of_ble_eq_true rfl, Nat.le_of_ble_eq_true rfl⟩ (fun v7 H7 L7 S7 K7 q7 => ?_)
      refine lv_goto (tgt := 33) hx hb dX12_paysBy_29 (by decide) ?_
      refine lv_iadd hx hb dX12_paysBy_33 ?_
      refine lv_topi (fun v8 ev8 => ?_)
      exact retE_i hQ C S7 hr dX12_paysBy_34 (trivial)
  · have b1 : x2.toInt = (1 : Int32).toInt := i_eq.mp c1
    refine lv_aload_n hx hb dX12_paysBy_5 rfl (lv_at hl 0 rfl) ?_
    refine lv_iload_n hx hb dX12_paysBy_6 rfl (lv_at hl 1 rfl) ?_
    refine callV_Ei C S (c_X12_taxOf l D G a0 x1 ga0 (by omega)) kV_X12_278 ga0 (trivial) (by decide +kernel) dX12_paysBy_7 hl.1 rfl rfl (by decide) cd_X12_taxOf ⟨Nat.le_of_ble_eq_true rfl, Nat.le_of_ble_eq_true rfl, Nat.le_of_ble_eq_true rfl, Nat.le_of_ble_eq_true rfl, Nat.le_of_ble_eq_true rfl⟩ (fun v9 H9 L9 S9 K9 q9 => ?_)
    refine lv_goto (tgt := 34) hx hb dX12_paysBy_10 (by decide) ?_
    exact retE_i hQ C S9 hr dX12_paysBy_34 (trivial)

set_option maxRecDepth 100000 in
set_option maxHeartbeats 4000000 in
theorem c_X12_manHas (l : Launch) (D : DD) (G : Nat → Nat) (a0 : Nat) (x1 : Int32) (x2 : Int32) (x3 : Int32) (ga0 : G a0 = 30) (ix1 : 0 ≤ x1.toInt ∧ x1.toInt ≤ 11) : CE l D G yX12_manHas cX12_manHas 5 (some .int) 10 [.ref a0, .int x1, .int x2, .int x3] (fun _ => True) [(38, 0)] (xI (fun H r H1 => True)) := by
  refine enter (by decide) (Nat.le_of_ble_eq_true rfl) ?_
  intro p e s m args below meth c ls Q hA hQ C hr hO hpre hl
  have hx := C.1
  have hb := C.2.1
  have S : Sd D G [(38, 0)] s.heap s.heap [] := Sd.start hO
  have hl : lv_has ls 5 [(0, .ref a0), (1, .int x1), (2, .int x2), (3, .int x3)] := hl
  refine lv_iload_n hx hb dX12_manHas_0 rfl (lv_at hl 2 rfl) ?_
  refine lv_iconst (v := 1) hx hb dX12_manHas_1 (by decide) ?_
  have k_1 : (1 : Int32).toInt = 1 := by decide
  refine lv_icmp_ne (tgt := 13) hx hb dX12_manHas_2 (by decide) (fun c1 => ?_) (fun c1 => ?_)
  · have b1 : ¬ x2.toInt = (1 : Int32).toInt := fun z9 => c1 (i_eq.mpr z9)
    refine lv_iload_n hx hb dX12_manHas_13 rfl (lv_at hl 3 rfl) ?_
    have k_0 : (0 : Int32).toInt = 0 := by decide
    refine lv_if_ne (tgt := 25) hx hb dX12_manHas_14 (by decide) (fun c2 => ?_) (fun c2 => ?_)
    · have b2 : ¬ x3.toInt = (0 : Int32).toInt := fun z9 => c2 (i_eq.mpr z9)
      refine lv_iconst (v := 0) hx hb dX12_manHas_25 (by decide) ?_
      refine lv_istore (lv' := [(4, .int (0 : Int32)), (0, .ref a0), (1, .int x1), (2, .int x2), (3, .int x3)]) hx hb dX12_manHas_26 hl (by decide) rfl (fun ls hl => ?_)
      refine lv_iload hx hb dX12_manHas_28 (lv_at hl 0 rfl) ?_
      refine lv_iload_n hx hb dX12_manHas_30 rfl (lv_at hl 4 rfl) ?_
      refine lv_if_ne (tgt := 38) hx hb dX12_manHas_31 (by decide) (fun c3 => ?_) (fun c3 => ?_)
      · have b3 : ¬ x3.toInt = (0 : Int32).toInt := fun z9 => c3 (i_eq.mpr z9)
        refine lv_iconst (v := 0) hx hb dX12_manHas_38 (by decide) ?_
        refine lv_isub hx hb dX12_manHas_39 ?_
        refine lv_topi (fun v4 ev4 => ?_)
        have f5 : v4.toInt = (0 : Int32).toInt - (0 : Int32).toInt := by rw [ev4]; exact i_sub (by omega) (by omega)
        exact retE_i hQ C S hr dX12_manHas_40 (trivial)
      · have b3 : x3.toInt = (0 : Int32).toInt := i_eq.mp c3
        refine lv_iconst (v := 1) hx hb dX12_manHas_34 (by decide) ?_
        refine lv_goto (tgt := 39) hx hb dX12_manHas_35 (by decide) ?_
        refine lv_isub hx hb dX12_manHas_39 ?_
        refine lv_topi (fun v6 ev6 => ?_)
        have f7 : v6.toInt = (0 : Int32).toInt - (1 : Int32).toInt := by rw [ev6]; exact i_sub (by omega) (by omega)
        exact retE_i hQ C S hr dX12_manHas_40 (trivial)
    · have b2 : x3.toInt = (0 : Int32).toInt := i_eq.mp c2
      refine lv_aload_n hx hb dX12_manHas_17 rfl (lv_at hl 0 rfl) ?_
      refine lv_iload_n hx hb dX12_manHas_18 rfl (lv_at hl 1 rfl) ?_
      refine callV_Ei C S (c_X12_lossOf l D G a0 x1 ga0 (by omega)) kV_X12_397 ga0 (trivial) (by decide +kernel) dX12_manHas_19 hl.1 rfl rfl (by decide) cd_X12_lossOf ⟨Nat.le_of_ble_eq_true rfl, Nat.le_of_ble_eq_true rfl, Nat.le_of_ble_eq_true rfl, Nat.le_of_ble_eq_true rfl, Nat.le_of_ble_eq_true rfl⟩ (fun v8 H8 L8 S8 K8 q8 => ?_)
      refine lv_goto (tgt := 26) hx hb dX12_manHas_22 (by decide) ?_
      refine lv_istore (lv' := [(4, .int v8), (0, .ref a0), (1, .int x1), (2, .int x2), (3, .int x3)]) hx hb dX12_manHas_26 hl (by decide) rfl (fun ls hl => ?_)
      refine lv_iload hx hb dX12_manHas_28 (lv_at hl 0 rfl) ?_
      refine lv_iload_n hx hb dX12_manHas_30 rfl (lv_at hl 4 rfl) ?_
      refine lv_if_ne (tgt := 38) hx hb dX12_manHas_31 (by decide) (fun c9 => ?_) (fun c9 => ?_)
      · have b9 : ¬ x3.toInt = (0 : Int32).toInt := fun z9 => c9 (i_eq.mpr z9)
        exact absurd b9 (by omega)
      · have b9 : x3.toInt = (0 : Int32).toInt := i_eq.mp c9
        refine lv_iconst (v := 1) hx hb dX12_manHas_34 (by decide) ?_
        refine lv_goto (tgt := 39) hx hb dX12_manHas_35 (by decide) ?_
        refine lv_isub hx hb dX12_manHas_39 ?_
        refine lv_topi (fun v10 ev10 => ?_)
        exact retE_i hQ C S8 hr dX12_manHas_40 (trivial)
  · have b1 : x2.toInt = (1 : Int32).toInt := i_eq.mp c1
    refine lv_aload_n hx hb dX12_manHas_5 rfl (lv_at hl 0 rfl) ?_
    refine lv_iload_n hx hb dX12_manHas_6 rfl (lv_at hl 1 rfl) ?_
    refine callV_Ei C S (c_X12_taxOf l D G a0 x1 ga0 (by omega)) kV_X12_278 ga0 (trivial) (by decide +kernel) dX12_manHas_7 hl.1 rfl rfl (by decide) cd_X12_taxOf ⟨Nat.le_of_ble_eq_true rfl, Nat.le_of_ble_eq_true rfl, Nat.le_of_ble_eq_true rfl, Nat.le_of_ble_eq_true rfl, Nat.le_of_ble_eq_true rfl⟩ (fun v11 H11 L11 S11 K11 q11 => ?_)
    refine lv_goto (tgt := 26) hx hb dX12_manHas_10 (by decide) ?_
    refine lv_istore (lv' := [(4, .int v11), (0, .ref a0), (1, .int x1), (2, .int x2), (3, .int x3)]) hx hb dX12_manHas_26 hl (by decide) rfl (fun ls hl => ?_)
    refine lv_iload hx hb dX12_manHas_28 (lv_at hl 0 rfl) ?_
    refine lv_iload_n hx hb dX12_manHas_30 rfl (lv_at hl 4 rfl) ?_
    have k_0 : (0 : Int32).toInt = 0 := by decide
    refine lv_if_ne (tgt := 38) hx hb dX12_manHas_31 (by decide) (fun c12 => ?_) (fun c12 => ?_)
    · have b12 : ¬ x3.toInt = (0 : Int32).toInt := fun z9 => c12 (i_eq.mpr z9)
      refine lv_iconst (v := 0) hx hb dX12_manHas_38 (by decide) ?_
      refine lv_isub hx hb dX12_manHas_39 ?_
      refine lv_topi (fun v13 ev13 => ?_)
      exact retE_i hQ C S11 hr dX12_manHas_40 (trivial)
    · have b12 : x3.toInt = (0 : Int32).toInt := i_eq.mp c12
      refine lv_iconst (v := 1) hx hb dX12_manHas_34 (by decide) ?_
      refine lv_goto (tgt := 39) hx hb dX12_manHas_35 (by decide) ?_
      refine lv_isub hx hb dX12_manHas_39 ?_
      refine lv_topi (fun v14 ev14 => ?_)
      exact retE_i hQ C S11 hr dX12_manHas_40 (trivial)
