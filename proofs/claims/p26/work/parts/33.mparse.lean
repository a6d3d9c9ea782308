set_option maxRecDepth 100000 in
set_option maxHeartbeats 4000000 in
theorem c_X12_isAt (l : Launch) (D : DD) (G : Nat → Nat) (a0 : Nat) (x1 : Int32) (x2 : Int32) (ga0 : G a0 = 30) : CP l D G yX12_isAt cX12_isAt 3 (some .boolean) 0 [.ref a0, .int x1, .int x2] (fun _ => True) (pI (fun H r => (r.toInt = 1 ∧ (fI D H 11 a0 10).toInt < (fI D H 11 a0 11).toInt) ∨ r.toInt = 0)) := by
  refine enter (by decide) (Nat.le_of_ble_eq_true rfl) ?_
  intro p e s m args below meth c ls Q hA hQ C hr hO hpre hl
  have hx := C.1
  have hb := C.2.1
  have hl : lv_has ls 3 [(0, .ref a0), (1, .int x1), (2, .int x2)] := hl
  refine lv_aload_n hx hb dX12_isAt_0 rfl (lv_at hl 0 rfl) ?_
  refine q_gi (T := TX12) C hO ga0 10 kF_X12_78 dX12_isAt_1 rfl rfl (by decide) rfl (by decide) rfl ?_
  have r1 : 0 ≤ (fI D s.heap 11 a0 10).toInt ∧ (fI D s.heap 11 a0 10).toInt ≤ 400 := hO.rng ga0 rfl (by decide) rfl
  refine lv_aload_n hx hb dX12_isAt_4 rfl (lv_at hl 0 rfl) ?_
  refine q_gi (T := TX12) C hO ga0 11 kF_X12_81 dX12_isAt_5 rfl rfl (by decide) rfl (by decide) rfl ?_
  have r2 : 0 ≤ (fI D s.heap 11 a0 11).toInt ∧ (fI D s.heap 11 a0 11).toInt ≤ 400 := hO.rng ga0 rfl (by decide) rfl
  refine lv_icmp_ge (tgt := 41) hx hb dX12_isAt_8 (by decide) (fun c3 => ?_) (fun c3 => ?_)
  · have b3 : (fI D s.heap 11 a0 11).toInt ≤ (fI D s.heap 11 a0 10).toInt := i_le.mp c3
    refine lv_iconst (v := 0) hx hb dX12_isAt_41 (by decide) ?_
    have k_0 : (0 : Int32).toInt = 0 := by decide
    exact retP_z hQ C hr dX12_isAt_42 (z01 (by omega) (by omega)) (by omega)
  · have b3 : ¬ (fI D s.heap 11 a0 11).toInt ≤ (fI D s.heap 11 a0 10).toInt := fun z9 => c3 (i_le.mpr z9)
    refine lv_aload_n hx hb dX12_isAt_11 rfl (lv_at hl 0 rfl) ?_
    refine q_gr (T := TX12) C hO ga0 8 kF_X12_29 dX12_isAt_12 rfl rfl (by decide) rfl (by decide) rfl (fun g4 => ?_)
    refine lv_aload_n hx hb dX12_isAt_15 rfl (lv_at hl 0 rfl) ?_
    refine q_gi (T := TX12) C hO ga0 10 kF_X12_78 dX12_isAt_16 rfl rfl (by decide) rfl (by decide) rfl ?_
    have n5 : aN s.heap (fR D s.heap 11 a0 8) = 400 := len_36 hO g4
    refine q_bald C hO g4 (by omega) (by omega) dX12_isAt_19 rfl (by decide) ?_
    refine lv_topi (fun v6 ev6 => ?_)
    refine lv_iload_n hx hb dX12_isAt_20 rfl (lv_at hl 1 rfl) ?_
    refine lv_icmp_lt (tgt := 41) hx hb dX12_isAt_21 (by decide) (fun c7 => ?_) (fun c7 => ?_)
    · have b7 : v6.toInt < x1.toInt := i_lt.mp c7
      refine lv_iconst (v := 0) hx hb dX12_isAt_41 (by decide) ?_
      have k_0 : (0 : Int32).toInt = 0 := by decide
      exact retP_z hQ C hr dX12_isAt_42 (z01 (by omega) (by omega)) (by omega)
    · have b7 : ¬ v6.toInt < x1.toInt := fun z9 => c7 (i_lt.mpr z9)
      refine lv_aload_n hx hb dX12_isAt_24 rfl (lv_at hl 0 rfl) ?_
      refine q_gr (T := TX12) C hO ga0 8 kF_X12_29 dX12_isAt_25 rfl rfl (by decide) rfl (by decide) rfl (fun g8 => ?_)
      refine lv_aload_n hx hb dX12_isAt_28 rfl (lv_at hl 0 rfl) ?_
      refine q_gi (T := TX12) C hO ga0 10 kF_X12_78 dX12_isAt_29 rfl rfl (by decide) rfl (by decide) rfl ?_
      refine q_bald C hO g8 (by omega) (by omega) dX12_isAt_32 rfl (by decide) ?_
      refine lv_topi (fun v9 ev9 => ?_)
      refine lv_iload_n hx hb dX12_isAt_33 rfl (lv_at hl 2 rfl) ?_
      refine lv_icmp_gt (tgt := 41) hx hb dX12_isAt_34 (by decide) (fun c10 => ?_) (fun c10 => ?_)
      · have b10 : x2.toInt < v9.toInt := i_lt.mp c10
        refine lv_iconst (v := 0) hx hb dX12_isAt_41 (by decide) ?_
        have k_0 : (0 : Int32).toInt = 0 := by decide
        exact retP_z hQ C hr dX12_isAt_42 (z01 (by omega) (by omega)) (by omega)
      · have b10 : ¬ x2.toInt < v9.toInt := fun z9 => c10 (i_lt.mpr z9)
        refine lv_iconst (v := 1) hx hb dX12_isAt_37 (by decide) ?_
        refine lv_goto (tgt := 42) hx hb dX12_isAt_38 (by decide) ?_
        have k_1 : (1 : Int32).toInt = 1 := by decide
        exact retP_z hQ C hr dX12_isAt_42 (z01 (by omega) (by omega)) (by omega)

set_option maxRecDepth 100000 in
set_option maxHeartbeats 4000000 in
theorem c_X12_blanks (l : Launch) (D : DD) (G : Nat → Nat) (a0 : Nat) (ga0 : G a0 = 30) : CE l D G yX12_blanks cX12_blanks 1 none 1 [.ref a0] (fun _ => True) [(30, 10), (30, 12)] (xV (fun H H1 => (fI D H 11 a0 10).toInt ≤ (fI D H1 11 a0 10).toInt ∧ (fI D H1 11 a0 12).toInt = (fI D H1 11 a0 10).toInt)) := by
  refine enter (by decide) (Nat.le_of_ble_eq_true rfl) ?_
  intro p e s m args below meth c ls Q hA hQ C hr hO hpre hl
  have hx := C.1
  have hb := C.2.1
  have S : Sd D G [(30, 10), (30, 12)] s.heap s.heap [] := Sd.start hO
  have hl : lv_has ls 1 [(0, .ref a0)] := hl
  have Lp0 : ∀ (n : Nat)  (H_0 : Heap) (L_0 : List Loc) (ls : Array Slot), (Sd D G [(30, 10), (30, 12)] s.heap H_0 L_0) → ((fI D s.heap 11 a0 10).toInt ≤ (fI D H_0 11 a0 10).toInt) → 401 - (fI D H_0 11 a0 10).toInt ≤ (n : Int) → lv_has ls 1 [(0, .ref a0)] → W p l e (rmU 1 0 0) s m args below meth c H_0 L_0 0 0 Q (F0 m 0 ls []) := by
    intro n
    induction n with
    | zero =>
      intro H_0 L_0 ls S_0 u0_0 hn hl
      have rz : 0 ≤ (fI D H_0 11 a0 10).toInt ∧ (fI D H_0 11 a0 10).toInt ≤ 400 := S_0.1.rng ga0 rfl (by decide) rfl
      exact absurd hn (by omega)
    | succ n ih0 =>
      intro H_0 L_0 ls S_0 u0_0 hn hl
      refine lv_aload_n hx hb dX12_blanks_0 rfl (lv_at hl 0 rfl) ?_
      refine lv_bipush (v := 32) hx hb dX12_blanks_1 (by decide) ?_
      refine lv_bipush (v := 32) hx hb dX12_blanks_3 (by decide) ?_
      have k_32 : (32 : Int32).toInt = 32 := by decide
      refine callV_Pi C S_0.1 S_0.2.1.2.1 (c_X12_isAt l D G a0 (32 : Int32) (32 : Int32) ga0) kV_X12_84 ga0 (trivial) dX12_blanks_5 hl.1 rfl rfl (by decide) cd_X12_isAt ⟨Nat.le_of_ble_eq_true rfl, Nat.le_of_ble_eq_true rfl, Nat.le_of_ble_eq_true rfl, Nat.le_of_ble_eq_true rfl, Nat.le_of_ble_eq_true rfl⟩ (fun v1 q1 => ?_)
      have re : 0 ≤ (fI D H_0 11 a0 11).toInt ∧ (fI D H_0 11 a0 11).toInt ≤ 400 := S_0.1.rng ga0 rfl (by decide) rfl
      rcases q1 with q1 | q1
      · skip
        have k_0 : (0 : Int32).toInt = 0 := by decide
        refine lv_if_eq (tgt := 24) hx hb dX12_blanks_8 (by decide) (fun c2 => ?_) (fun c2 => ?_)
        · have b2 : v1.toInt = (0 : Int32).toInt := i_eq.mp c2
          exact absurd b2 (by omega)
        · have b2 : ¬ v1.toInt = (0 : Int32).toInt := fun z9 => c2 (i_eq.mpr z9)
          refine lv_aload_n hx hb dX12_blanks_11 rfl (lv_at hl 0 rfl) ?_
          refine lv_dup hx hb dX12_blanks_12 rfl ?_
          refine q_gi (T := TX12) C S_0.1 ga0 10 kF_X12_78 dX12_blanks_13 rfl rfl (by decide) rfl (by decide) rfl ?_
          have r3 : 0 ≤ (fI D H_0 11 a0 10).toInt ∧ (fI D H_0 11 a0 10).toInt ≤ 400 := S_0.1.rng ga0 rfl (by decide) rfl
          refine lv_iconst (v := 1) hx hb dX12_blanks_16 (by decide) ?_
          have k_1 : (1 : Int32).toInt = 1 := by decide
          refine lv_iadd hx hb dX12_blanks_17 ?_
          refine lv_topi (fun v4 ev4 => ?_)
          have f5 : v4.toInt = (fI D H_0 11 a0 10).toInt + (1 : Int32).toInt := by rw [ev4]; exact i_add (by omega) (by omega)
          refine q_put (T := TX12) C S_0 ga0 10 kF_X12_78 dX12_blanks_18 rfl rfl (by decide) (by decide) rfl rfl rfl rfl rfl (vok_i rfl (by omega) (by omega)) (by decide +kernel) (fun H6 L6 S6 P6 => ?_)
          refine lv_goto (tgt := 0) hx hb dX12_blanks_21 (by decide) ?_
          have bk : (fI D H6 11 a0 10).toInt = _ := congrArg Int32.toInt (Pt.i P6)
          exact ih0  H6 L6 ls S6 (by omega) (by omega) (lv_sub hl [0] rfl)
      · skip
        have k_0 : (0 : Int32).toInt = 0 := by decide
        refine lv_if_eq (tgt := 24) hx hb dX12_blanks_8 (by decide) (fun c7 => ?_) (fun c7 => ?_)
        · have b7 : v1.toInt = (0 : Int32).toInt := i_eq.mp c7
          refine lv_aload_n hx hb dX12_blanks_24 rfl (lv_at hl 0 rfl) ?_
          refine lv_aload_n hx hb dX12_blanks_25 rfl (lv_at hl 0 rfl) ?_
          refine q_gi (T := TX12) C S_0.1 ga0 10 kF_X12_78 dX12_blanks_26 rfl rfl (by decide) rfl (by decide) rfl ?_
          have r8 : 0 ≤ (fI D H_0 11 a0 10).toInt ∧ (fI D H_0 11 a0 10).toInt ≤ 400 := S_0.1.rng ga0 rfl (by decide) rfl
          refine q_put (T := TX12) C S_0 ga0 12 kF_X12_87 dX12_blanks_29 rfl rfl (by decide) (by decide) rfl rfl rfl rfl rfl (vok_i rfl (by omega) (by omega)) (by decide +kernel) (fun H9 L9 S9 P9 => ?_)
          exact retE_v hQ C S9 hr dX12_blanks_32 (by rw [Pt.i P9, Pt.o P9 (by decide) (by decide)]; omega)
        · have b7 : ¬ v1.toInt = (0 : Int32).toInt := fun z9 => c7 (i_eq.mpr z9)
          exact absurd b7 (by omega)
  have rn : 0 ≤ (fI D s.heap 11 a0 10).toInt ∧ (fI D s.heap 11 a0 10).toInt ≤ 400 := S.1.rng ga0 rfl (by decide) rfl
  exact Lp0 402  s.heap [] ls S (by omega)  (by omega) (lv_sub hl [0] rfl)

set_option maxRecDepth 100000 in
set_option maxHeartbeats 4000000 in
theorem c_X12_letters (l : Launch) (D : DD) (G : Nat → Nat) (a0 : Nat) (ga0 : G a0 = 30) : CE l D G yX12_letters cX12_letters 1 none 2 [.ref a0] (fun _ => True) [(30, 10), (30, 12)] (xV (fun H H1 => (fI D H 11 a0 10).toInt ≤ (fI D H1 11 a0 10).toInt)) := by
  refine enter (by decide) (Nat.le_of_ble_eq_true rfl) ?_
  intro p e s m args below meth c ls Q hA hQ C hr hO hpre hl
  have hx := C.1
  have hb := C.2.1
  have S : Sd D G [(30, 10), (30, 12)] s.heap s.heap [] := Sd.start hO
  have hl : lv_has ls 1 [(0, .ref a0)] := hl
  refine lv_aload_n hx hb dX12_letters_0 rfl (lv_at hl 0 rfl) ?_
  refine callV_Ev C S (c_X12_blanks l D G a0 ga0) kV_X12_90 ga0 (trivial) (by decide +kernel) dX12_letters_1 hl.1 rfl rfl (by decide) cd_X12_blanks ⟨Nat.le_of_ble_eq_true rfl, Nat.le_of_ble_eq_true rfl, Nat.le_of_ble_eq_true rfl, Nat.le_of_ble_eq_true rfl, Nat.le_of_ble_eq_true rfl⟩ (fun H1 L1 S1 K1 q1 => ?_)
  have Lp4 : ∀ (n : Nat)  (H_4 : Heap) (L_4 : List Loc) (ls : Array Slot), (Sd D G [(30, 10), (30, 12)] s.heap H_4 L_4) → ((fI D s.heap 11 a0 10).toInt ≤ (fI D H_4 11 a0 10).toInt) → 401 - (fI D H_4 11 a0 10).toInt ≤ (n : Int) → lv_has ls 1 [(0, .ref a0)] → W p l e (rmU 2 0 0) s m args below meth c H_4 L_4 0 0 Q (F0 m 4 ls []) := by
    intro n
    induction n with
    | zero =>
      intro H_4 L_4 ls S_4 u4_0 hn hl
      have rz : 0 ≤ (fI D H_4 11 a0 10).toInt ∧ (fI D H_4 11 a0 10).toInt ≤ 400 := S_4.1.rng ga0 rfl (by decide) rfl
      exact absurd hn (by omega)
    | succ n ih4 =>
      intro H_4 L_4 ls S_4 u4_0 hn hl
      refine lv_aload_n hx hb dX12_letters_4 rfl (lv_at hl 0 rfl) ?_
      refine lv_bipush (v := 97) hx hb dX12_letters_5 (by decide) ?_
      refine lv_bipush (v := 122) hx hb dX12_letters_7 (by decide) ?_
      have k_97 : (97 : Int32).toInt = 97 := by decide
      have k_122 : (122 : Int32).toInt = 122 := by decide
      refine callV_Pi C S_4.1 S_4.2.1.2.1 (c_X12_isAt l D G a0 (97 : Int32) (122 : Int32) ga0) kV_X12_84 ga0 (trivial) dX12_letters_9 hl.1 rfl rfl (by decide) cd_X12_isAt ⟨Nat.le_of_ble_eq_true rfl, Nat.le_of_ble_eq_true rfl, Nat.le_of_ble_eq_true rfl, Nat.le_of_ble_eq_true rfl, Nat.le_of_ble_eq_true rfl⟩ (fun v2 q2 => ?_)
      have re : 0 ≤ (fI D H_4 11 a0 11).toInt ∧ (fI D H_4 11 a0 11).toInt ≤ 400 := S_4.1.rng ga0 rfl (by decide) rfl
      rcases q2 with q2 | q2
      · skip
        have k_0 : (0 : Int32).toInt = 0 := by decide
        refine lv_if_eq (tgt := 28) hx hb dX12_letters_12 (by decide) (fun c3 => ?_) (fun c3 => ?_)
        · have b3 : v2.toInt = (0 : Int32).toInt := i_eq.mp c3
          exact absurd b3 (by omega)
        · have b3 : ¬ v2.toInt = (0 : Int32).toInt := fun z9 => c3 (i_eq.mpr z9)
          refine lv_aload_n hx hb dX12_letters_15 rfl (lv_at hl 0 rfl) ?_
          refine lv_dup hx hb dX12_letters_16 rfl ?_
          refine q_gi (T := TX12) C S_4.1 ga0 10 kF_X12_78 dX12_letters_17 rfl rfl (by decide) rfl (by decide) rfl ?_
          have r4 : 0 ≤ (fI D H_4 11 a0 10).toInt ∧ (fI D H_4 11 a0 10).toInt ≤ 400 := S_4.1.rng ga0 rfl (by decide) rfl
          refine lv_iconst (v := 1) hx hb dX12_letters_20 (by decide) ?_
          have k_1 : (1 : Int32).toInt = 1 := by decide
          refine lv_iadd hx hb dX12_letters_21 ?_
          refine lv_topi (fun v5 ev5 => ?_)
          have f6 : v5.toInt = (fI D H_4 11 a0 10).toInt + (1 : Int32).toInt := by rw [ev5]; exact i_add (by omega) (by omega)
          refine q_put (T := TX12) C S_4 ga0 10 kF_X12_78 dX12_letters_22 rfl rfl (by decide) (by decide) rfl rfl rfl rfl rfl (vok_i rfl (by omega) (by omega)) (by decide +kernel) (fun H7 L7 S7 P7 => ?_)
          refine lv_goto (tgt := 4) hx hb dX12_letters_25 (by decide) ?_
          have bk : (fI D H7 11 a0 10).toInt = _ := congrArg Int32.toInt (Pt.i P7)
          exact ih4  H7 L7 ls S7 (by omega) (by omega) (lv_sub hl [0] rfl)
      · skip
        have k_0 : (0 : Int32).toInt = 0 := by decide
        refine lv_if_eq (tgt := 28) hx hb dX12_letters_12 (by decide) (fun c8 => ?_) (fun c8 => ?_)
        · have b8 : v2.toInt = (0 : Int32).toInt := i_eq.mp c8
          exact retE_v hQ C S_4 hr dX12_letters_28 (by omega)
        · have b8 : ¬ v2.toInt = (0 : Int32).toInt := fun z9 => c8 (i_eq.mpr z9)
          exact absurd b8 (by omega)
  have rn : 0 ≤ (fI D H1 11 a0 10).toInt ∧ (fI D H1 11 a0 10).toInt ≤ 400 := S1.1.rng ga0 rfl (by decide) rfl
  exact Lp4 402  H1 L1 ls S1 (by omega)  (by omega) (lv_sub hl [0] rfl)

set_option maxRecDepth 100000 in
set_option maxHeartbeats 4000000 in
theorem c_X12_sign (l : Launch) (D : DD) (G : Nat → Nat) (a0 : Nat) (x1 : Int32) (ga0 : G a0 = 30) : CE l D G yX12_sign cX12_sign 2 (some .boolean) 2 [.ref a0, .int x1] (fun _ => True) [(30, 10), (30, 12)] (xI (fun H r H1 => (r.toInt = 1 ∧ (fI D H 11 a0 10).toInt < (fI D H1 11 a0 10).toInt) ∨ (r.toInt = 0 ∧ (fI D H 11 a0 10).toInt ≤ (fI D H1 11 a0 10).toInt))) := by
  refine enter (by decide) (Nat.le_of_ble_eq_true rfl) ?_
  intro p e s m args below meth c ls Q hA hQ C hr hO hpre hl
  have hx := C.1
  have hb := C.2.1
  have S : Sd D G [(30, 10), (30, 12)] s.heap s.heap [] := Sd.start hO
  have hl : lv_has ls 2 [(0, .ref a0), (1, .int x1)] := hl
  refine lv_aload_n hx hb dX12_sign_0 rfl (lv_at hl 0 rfl) ?_
  refine callV_Ev C S (c_X12_blanks l D G a0 ga0) kV_X12_90 ga0 (trivial) (by decide +kernel) dX12_sign_1 hl.1 rfl rfl (by decide) cd_X12_blanks ⟨Nat.le_of_ble_eq_true rfl, Nat.le_of_ble_eq_true rfl, Nat.le_of_ble_eq_true rfl, Nat.le_of_ble_eq_true rfl, Nat.le_of_ble_eq_true rfl⟩ (fun H1 L1 S1 K1 q1 => ?_)
  refine lv_aload_n hx hb dX12_sign_4 rfl (lv_at hl 0 rfl) ?_
  refine lv_iload_n hx hb dX12_sign_5 rfl (lv_at hl 1 rfl) ?_
  refine lv_iload_n hx hb dX12_sign_6 rfl (lv_at hl 1 rfl) ?_
  refine callV_Pi C S1.1 S1.2.1.2.1 (c_X12_isAt l D G a0 x1 x1 ga0) kV_X12_84 ga0 (trivial) dX12_sign_7 hl.1 rfl rfl (by decide) cd_X12_isAt ⟨Nat.le_of_ble_eq_true rfl, Nat.le_of_ble_eq_true rfl, Nat.le_of_ble_eq_true rfl, Nat.le_of_ble_eq_true rfl, Nat.le_of_ble_eq_true rfl⟩ (fun v2 q2 => ?_)
  have re : 0 ≤ (fI D H1 11 a0 11).toInt ∧ (fI D H1 11 a0 11).toInt ≤ 400 := S1.1.rng ga0 rfl (by decide) rfl
  rcases q2 with q2 | q2
  · skip
    have k_0 : (0 : Int32).toInt = 0 := by decide
    refine lv_if_ne (tgt := 15) hx hb dX12_sign_10 (by decide) (fun c3 => ?_) (fun c3 => ?_)
    · have b3 : ¬ v2.toInt = (0 : Int32).toInt := fun z9 => c3 (i_eq.mpr z9)
      refine lv_aload_n hx hb dX12_sign_15 rfl (lv_at hl 0 rfl) ?_
      refine lv_dup hx hb dX12_sign_16 rfl ?_
      refine q_gi (T := TX12) C S1.1 ga0 10 kF_X12_78 dX12_sign_17 rfl rfl (by decide) rfl (by decide) rfl ?_
      have r4 : 0 ≤ (fI D H1 11 a0 10).toInt ∧ (fI D H1 11 a0 10).toInt ≤ 400 := S1.1.rng ga0 rfl (by decide) rfl
      refine lv_iconst (v := 1) hx hb dX12_sign_20 (by decide) ?_
      have k_1 : (1 : Int32).toInt = 1 := by decide
      refine lv_iadd hx hb dX12_sign_21 ?_
      refine lv_topi (fun v5 ev5 => ?_)
      have f6 : v5.toInt = (fI D H1 11 a0 10).toInt + (1 : Int32).toInt := by rw [ev5]; exact i_add (by omega) (by omega)
      refine q_put (T := TX12) C S1 ga0 10 kF_X12_78 dX12_sign_22 rfl rfl (by decide) (by decide) rfl rfl rfl rfl rfl (vok_i rfl (by omega) (by omega)) (by decide +kernel) (fun H7 L7 S7 P7 => ?_)
      refine lv_iconst (v := 1) hx hb dX12_sign_25 (by decide) ?_
      exact retE_z hQ C S7 hr dX12_sign_26 (z01 (by omega) (by omega)) (by rw [Pt.i P7]; omega)
    · have b3 : v2.toInt = (0 : Int32).toInt := i_eq.mp c3
      exact absurd b3 (by omega)
  · skip
    have k_0 : (0 : Int32).toInt = 0 := by decide
    refine lv_if_ne (tgt := 15) hx hb dX12_sign_10 (by decide) (fun c8 => ?_) (fun c8 => ?_)
    · have b8 : ¬ v2.toInt = (0 : Int32).toInt := fun z9 => c8 (i_eq.mpr z9)
      exact absurd b8 (by omega)
    · have b8 : v2.toInt = (0 : Int32).toInt := i_eq.mp c8
      refine lv_iconst (v := 0) hx hb dX12_sign_13 (by decide) ?_
      exact retE_z hQ C S1 hr dX12_sign_14 (z01 (by omega) (by omega)) (by omega)

set_option maxRecDepth 100000 in
set_option maxHeartbeats 4000000 in
theorem c_X12_number (l : Launch) (D : DD) (G : Nat → Nat) (a0 : Nat) (x1 : Int32) (x2 : Int32) (ga0 : G a0 = 30) : CE l D G yX12_number cX12_number 4 (some .int) 2 [.ref a0, .int x1, .int x2] (fun _ => True) [(30, 10), (30, 12)] (xI (fun H r H1 => (fI D H 11 a0 10).toInt ≤ (fI D H1 11 a0 10).toInt ∧ (r.toInt = -1 ∨ (x1.toInt ≤ r.toInt ∧ r.toInt ≤ x2.toInt)))) := by
  refine enter (by decide) (Nat.le_of_ble_eq_true rfl) ?_
  intro p e s m args below meth c ls Q hA hQ C hr hO hpre hl
  have hx := C.1
  have hb := C.2.1
  have S : Sd D G [(30, 10), (30, 12)] s.heap s.heap [] := Sd.start hO
  have hl : lv_has ls 4 [(0, .ref a0), (1, .int x1), (2, .int x2)] := hl
  refine lv_aload_n hx hb dX12_number_0 rfl (lv_at hl 0 rfl) ?_
  refine callV_Ev C S (c_X12_blanks l D G a0 ga0) kV_X12_90 ga0 (trivial) (by decide +kernel) dX12_number_1 hl.1 rfl rfl (by decide) cd_X12_blanks ⟨Nat.le_of_ble_eq_true rfl, Nat.le_of_ble_eq_true rfl, Nat.le_of_ble_eq_true rfl, Nat.le_of_ble_eq_true rfl, Nat.le_of_ble_eq_true rfl⟩ (fun H1 L1 S1 K1 q1 => ?_)
  refine lv_iconst (v := 0) hx hb dX12_number_4 (by decide) ?_
  refine lv_istore_n (lv' := [(3, .int (0 : Int32)), (0, .ref a0), (1, .int x1), (2, .int x2)]) hx hb dX12_number_5 rfl hl (by decide) rfl (fun ls hl => ?_)
  have Lp6 : ∀ (n : Nat) (x3_6 : Int32) (H_6 : Heap) (L_6 : List Loc) (ls : Array Slot), (Sd D G [(30, 10), (30, 12)] s.heap H_6 L_6) → ((fI D s.heap 11 a0 10).toInt ≤ (fI D H_6 11 a0 10).toInt) → 401 - (fI D H_6 11 a0 10).toInt ≤ (n : Int) → lv_has ls 4 [(3, .int x3_6), (0, .ref a0), (1, .int x1), (2, .int x2)] → W p l e (rmU 2 0 0) s m args below meth c H_6 L_6 0 0 Q (F0 m 6 ls []) := by
    intro n
    induction n with
    | zero =>
      intro x3_6 H_6 L_6 ls S_6 u6_0 hn hl
      have rz : 0 ≤ (fI D H_6 11 a0 10).toInt ∧ (fI D H_6 11 a0 10).toInt ≤ 400 := S_6.1.rng ga0 rfl (by decide) rfl
      exact absurd hn (by omega)
    | succ n ih6 =>
      intro x3_6 H_6 L_6 ls S_6 u6_0 hn hl
      refine lv_aload_n hx hb dX12_number_6 rfl (lv_at hl 1 rfl) ?_
      refine lv_bipush (v := 48) hx hb dX12_number_7 (by decide) ?_
      refine lv_bipush (v := 57) hx hb dX12_number_9 (by decide) ?_
      have k_48 : (48 : Int32).toInt = 48 := by decide
      have k_57 : (57 : Int32).toInt = 57 := by decide
      refine callV_Pi C S_6.1 S_6.2.1.2.1 (c_X12_isAt l D G a0 (48 : Int32) (57 : Int32) ga0) kV_X12_84 ga0 (trivial) dX12_number_11 hl.1 rfl rfl (by decide) cd_X12_isAt ⟨Nat.le_of_ble_eq_true rfl, Nat.le_of_ble_eq_true rfl, Nat.le_of_ble_eq_true rfl, Nat.le_of_ble_eq_true rfl, Nat.le_of_ble_eq_true rfl⟩ (fun v2 q2 => ?_)
      have re : 0 ≤ (fI D H_6 11 a0 11).toInt ∧ (fI D H_6 11 a0 11).toInt ≤ 400 := S_6.1.rng ga0 rfl (by decide) rfl
      rcases q2 with q2 | q2
      · skip
        have k_0 : (0 : Int32).toInt = 0 := by decide
        refine lv_if_eq (tgt := 65) hx hb dX12_number_14 (by decide) (fun c3 => ?_) (fun c3 => ?_)
        · have b3 : v2.toInt = (0 : Int32).toInt := i_eq.mp c3
          exact absurd b3 (by omega)
        · have b3 : ¬ v2.toInt = (0 : Int32).toInt := fun z9 => c3 (i_eq.mpr z9)
          refine lv_aload_n hx hb dX12_number_17 rfl (lv_at hl 1 rfl) ?_
          refine q_gi (T := TX12) C S_6.1 ga0 10 kF_X12_78 dX12_number_18 rfl rfl (by decide) rfl (by decide) rfl ?_
          have r4 : 0 ≤ (fI D H_6 11 a0 10).toInt ∧ (fI D H_6 11 a0 10).toInt ≤ 400 := S_6.1.rng ga0 rfl (by decide) rfl
          refine lv_aload_n hx hb dX12_number_21 rfl (lv_at hl 1 rfl) ?_
          refine q_gi (T := TX12) C S_6.1 ga0 12 kF_X12_87 dX12_number_22 rfl rfl (by decide) rfl (by decide) rfl ?_
          have r5 : 0 ≤ (fI D H_6 11 a0 12).toInt ∧ (fI D H_6 11 a0 12).toInt ≤ 400 := S_6.1.rng ga0 rfl (by decide) rfl
          refine lv_isub hx hb dX12_number_25 ?_
          refine lv_topi (fun v6 ev6 => ?_)
          have f7 : v6.toInt = (fI D H_6 11 a0 10).toInt - (fI D H_6 11 a0 12).toInt := by rw [ev6]; exact i_sub (by omega) (by omega)
          refine lv_iconst (v := 3) hx hb dX12_number_26 (by decide) ?_
          have k_3 : (3 : Int32).toInt = 3 := by decide
          refine lv_icmp_ge (tgt := 50) hx hb dX12_number_27 (by decide) (fun c8 => ?_) (fun c8 => ?_)
          · have b8 : (3 : Int32).toInt ≤ v6.toInt := i_le.mp c8
            refine lv_iload_n hx hb dX12_number_50 rfl (lv_at hl 0 rfl) ?_
            refine lv_istore_n (lv' := [(3, .int x3_6), (0, .ref a0), (1, .int x1), (2, .int x2)]) hx hb dX12_number_51 rfl hl (by decide) rfl (fun ls hl => ?_)
            refine lv_aload_n hx hb dX12_number_52 rfl (lv_at hl 1 rfl) ?_
            refine lv_dup hx hb dX12_number_53 rfl ?_
            refine q_gi (T := TX12) C S_6.1 ga0 10 kF_X12_78 dX12_number_54 rfl rfl (by decide) rfl (by decide) rfl ?_
            refine lv_iconst (v := 1) hx hb dX12_number_57 (by decide) ?_
            have k_1 : (1 : Int32).toInt = 1 := by decide
            refine lv_iadd hx hb dX12_number_58 ?_
            refine lv_topi (fun v9 ev9 => ?_)
            have f10 : v9.toInt = (fI D H_6 11 a0 10).toInt + (1 : Int32).toInt := by rw [ev9]; exact i_add (by omega) (by omega)
            refine q_put (T := TX12) C S_6 ga0 10 kF_X12_78 dX12_number_59 rfl rfl (by decide) (by decide) rfl rfl rfl rfl rfl (vok_i rfl (by omega) (by omega)) (by decide +kernel) (fun H11 L11 S11 P11 => ?_)
            refine lv_goto (tgt := 6) hx hb dX12_number_62 (by decide) ?_
            have bk : (fI D H11 11 a0 10).toInt = _ := congrArg Int32.toInt (Pt.i P11)
            exact ih6 x3_6 H11 L11 ls S11 (by omega) (by omega) (lv_sub hl [0, 1, 2, 3] rfl)
          · have b8 : ¬ (3 : Int32).toInt ≤ v6.toInt := fun z9 => c8 (i_le.mpr z9)
            refine lv_bipush (v := 10) hx hb dX12_number_30 (by decide) ?_
            refine lv_iload_n hx hb dX12_number_32 rfl (lv_at hl 0 rfl) ?_
            have k_10 : (10 : Int32).toInt = 10 := by decide
            refine lv_imul hx hb dX12_number_33 ?_
            refine lv_topi (fun v12 ev12 => ?_)
            refine lv_aload_n hx hb dX12_number_34 rfl (lv_at hl 1 rfl) ?_
            refine q_gr (T := TX12) C S_6.1 ga0 8 kF_X12_29 dX12_number_35 rfl rfl (by decide) rfl (by decide) rfl (fun g13 => ?_)
            refine lv_aload_n hx hb dX12_number_38 rfl (lv_at hl 1 rfl) ?_
            refine q_gi (T := TX12) C S_6.1 ga0 10 kF_X12_78 dX12_number_39 rfl rfl (by decide) rfl (by decide) rfl ?_
            have n14 : aN H_6 (fR D H_6 11 a0 8) = 400 := len_36 S_6.1 g13
            refine q_bald C S_6.1 g13 (by omega) (by omega) dX12_number_42 rfl (by decide) ?_
            refine lv_topi (fun v15 ev15 => ?_)
            refine lv_iadd hx hb dX12_number_43 ?_
            refine lv_topi (fun v16 ev16 => ?_)
            refine lv_bipush (v := 48) hx hb dX12_number_44 (by decide) ?_
            refine lv_isub hx hb dX12_number_46 ?_
            refine lv_topi (fun v17 ev17 => ?_)
            refine lv_goto (tgt := 51) hx hb dX12_number_47 (by decide) ?_
            refine lv_istore_n (lv' := [(3, .int v17), (0, .ref a0), (1, .int x1), (2, .int x2)]) hx hb dX12_number_51 rfl hl (by decide) rfl (fun ls hl => ?_)
            refine lv_aload_n hx hb dX12_number_52 rfl (lv_at hl 1 rfl) ?_
            refine lv_dup hx hb dX12_number_53 rfl ?_
            refine q_gi (T := TX12) C S_6.1 ga0 10 kF_X12_78 dX12_number_54 rfl rfl (by decide) rfl (by decide) rfl ?_
            refine lv_iconst (v := 1) hx hb dX12_number_57 (by decide) ?_
            have k_1 : (1 : Int32).toInt = 1 := by decide
            refine lv_iadd hx hb dX12_number_58 ?_
            refine lv_topi (fun v18 ev18 => ?_)
            have f19 : v18.toInt = (fI D H_6 11 a0 10).toInt + (1 : Int32).toInt := by rw [ev18]; exact i_add (by omega) (by omega)
            refine q_put (T := TX12) C S_6 ga0 10 kF_X12_78 dX12_number_59 rfl rfl (by decide) (by decide) rfl rfl rfl rfl rfl (vok_i rfl (by omega) (by omega)) (by decide +kernel) (fun H20 L20 S20 P20 => ?_)
            refine lv_goto (tgt := 6) hx hb dX12_number_62 (by decide) ?_
            have bk : (fI D H20 11 a0 10).toInt = _ := congrArg Int32.toInt (Pt.i P20)
            exact ih6 v17 H20 L20 ls S20 (by omega) (by omega) (lv_sub hl [0, 1, 2, 3] rfl)
      · skip
        have k_0 : (0 : Int32).toInt = 0 := by decide
        refine lv_if_eq (tgt := 65) hx hb dX12_number_14 (by decide) (fun c21 => ?_) (fun c21 => ?_)
        · have b21 : v2.toInt = (0 : Int32).toInt := i_eq.mp c21
          refine lv_aload_n hx hb dX12_number_65 rfl (lv_at hl 1 rfl) ?_
          refine q_gi (T := TX12) C S_6.1 ga0 10 kF_X12_78 dX12_number_66 rfl rfl (by decide) rfl (by decide) rfl ?_
          have r22 : 0 ≤ (fI D H_6 11 a0 10).toInt ∧ (fI D H_6 11 a0 10).toInt ≤ 400 := S_6.1.rng ga0 rfl (by decide) rfl
          refine lv_aload_n hx hb dX12_number_69 rfl (lv_at hl 1 rfl) ?_
          refine q_gi (T := TX12) C S_6.1 ga0 12 kF_X12_87 dX12_number_70 rfl rfl (by decide) rfl (by decide) rfl ?_
          have r23 : 0 ≤ (fI D H_6 11 a0 12).toInt ∧ (fI D H_6 11 a0 12).toInt ≤ 400 := S_6.1.rng ga0 rfl (by decide) rfl
          refine lv_icmp_eq (tgt := 99) hx hb dX12_number_73 (by decide) (fun c24 => ?_) (fun c24 => ?_)
          · have b24 : (fI D H_6 11 a0 10).toInt = (fI D H_6 11 a0 12).toInt := i_eq.mp c24
            refine lv_iconst (v := -1) hx hb dX12_number_99 (by decide) ?_
            refine lv_goto (tgt := 104) hx hb dX12_number_100 (by decide) ?_
            have k_m1 : (-1 : Int32).toInt = -1 := by decide
            exact retE_i hQ C S_6 hr dX12_number_104 (by omega)
          · have b24 : ¬ (fI D H_6 11 a0 10).toInt = (fI D H_6 11 a0 12).toInt := fun z9 => c24 (i_eq.mpr z9)
            refine lv_aload_n hx hb dX12_number_76 rfl (lv_at hl 1 rfl) ?_
            refine q_gi (T := TX12) C S_6.1 ga0 10 kF_X12_78 dX12_number_77 rfl rfl (by decide) rfl (by decide) rfl ?_
            refine lv_aload_n hx hb dX12_number_80 rfl (lv_at hl 1 rfl) ?_
            refine q_gi (T := TX12) C S_6.1 ga0 12 kF_X12_87 dX12_number_81 rfl rfl (by decide) rfl (by decide) rfl ?_
            refine lv_isub hx hb dX12_number_84 ?_
            refine lv_topi (fun v25 ev25 => ?_)
            have f26 : v25.toInt = (fI D H_6 11 a0 10).toInt - (fI D H_6 11 a0 12).toInt := by rw [ev25]; exact i_sub (by omega) (by omega)
            refine lv_iconst (v := 3) hx hb dX12_number_85 (by decide) ?_
            have k_3 : (3 : Int32).toInt = 3 := by decide
            refine lv_icmp_gt (tgt := 99) hx hb dX12_number_86 (by decide) (fun c27 => ?_) (fun c27 => ?_)
            · have b27 : (3 : Int32).toInt < v25.toInt := i_lt.mp c27
              refine lv_iconst (v := -1) hx hb dX12_number_99 (by decide) ?_
              refine lv_goto (tgt := 104) hx hb dX12_number_100 (by decide) ?_
              have k_m1 : (-1 : Int32).toInt = -1 := by decide
              exact retE_i hQ C S_6 hr dX12_number_104 (by omega)
            · have b27 : ¬ (3 : Int32).toInt < v25.toInt := fun z9 => c27 (i_lt.mpr z9)
              refine lv_iload_n hx hb dX12_number_89 rfl (lv_at hl 0 rfl) ?_
              refine lv_iload_n hx hb dX12_number_90 rfl (lv_at hl 2 rfl) ?_
              refine lv_icmp_lt (tgt := 99) hx hb dX12_number_91 (by decide) (fun c28 => ?_) (fun c28 => ?_)
              · have b28 : x3_6.toInt < x1.toInt := i_lt.mp c28
                refine lv_iconst (v := -1) hx hb dX12_number_99 (by decide) ?_
                refine lv_goto (tgt := 104) hx hb dX12_number_100 (by decide) ?_
                have k_m1 : (-1 : Int32).toInt = -1 := by decide
                exact retE_i hQ C S_6 hr dX12_number_104 (by omega)
              · have b28 : ¬ x3_6.toInt < x1.toInt := fun z9 => c28 (i_lt.mpr z9)
                refine lv_iload_n hx hb dX12_number_94 rfl (lv_at hl 0 rfl) ?_
                refine lv_iload_n hx hb dX12_number_95 rfl (lv_at hl 3 rfl) ?_
                refine lv_icmp_le (tgt := 103) hx hb dX12_number_96 (by decide) (fun c29 => ?_) (fun c29 => ?_)
                · have b29 : x3_6.toInt ≤ x2.toInt := i_le.mp c29
                  refine lv_iload_n hx hb dX12_number_103 rfl (lv_at hl 0 rfl) ?_
                  exact retE_i hQ C S_6 hr dX12_number_104 (by omega)
                · have b29 : ¬ x3_6.toInt ≤ x2.toInt := fun z9 => c29 (i_le.mpr z9)
                  refine lv_iconst (v := -1) hx hb dX12_number_99 (by decide) ?_
                  refine lv_goto (tgt := 104) hx hb dX12_number_100 (by decide) ?_
                  have k_m1 : (-1 : Int32).toInt = -1 := by decide
                  exact retE_i hQ C S_6 hr dX12_number_104 (by omega)
        · have b21 : ¬ v2.toInt = (0 : Int32).toInt := fun z9 => c21 (i_eq.mpr z9)
          exact absurd b21 (by omega)
  have k_0 : (0 : Int32).toInt = 0 := by decide
  have rn : 0 ≤ (fI D H1 11 a0 10).toInt ∧ (fI D H1 11 a0 10).toInt ≤ 400 := S1.1.rng ga0 rfl (by decide) rfl
  exact Lp6 402 (0 : Int32) H1 L1 ls S1 (by omega)  (by omega) (lv_sub hl [0, 1, 2, 3] rfl)

set_option maxRecDepth 100000 in
set_option maxHeartbeats 4000000 in
theorem c_X12_uses (l : Launch) (D : DD) (G : Nat → Nat) (a0 : Nat) (ga0 : G a0 = 30) : CE l D G yX12_uses cX12_uses 1 none 0 [.ref a0] (fun _ => True) [(30, 0), (30, 9), (30, 10), (30, 11)] (xV (fun H H1 => (fI D H1 11 a0 9).toInt = 0 ∧ (fI D H1 11 a0 10).toInt = 0)) := by
  refine enter (by decide) (Nat.le_of_ble_eq_true rfl) ?_
  intro p e s m args below meth c ls Q hA hQ C hr hO hpre hl
  have hx := C.1
  have hb := C.2.1
  have S : Sd D G [(30, 0), (30, 9), (30, 10), (30, 11)] s.heap s.heap [] := Sd.start hO
  have hl : lv_has ls 1 [(0, .ref a0)] := hl
  refine lv_aload_n hx hb dX12_uses_0 rfl (lv_at hl 0 rfl) ?_
  refine lv_iconst (v := 0) hx hb dX12_uses_1 (by decide) ?_
  have k_0 : (0 : Int32).toInt = 0 := by decide
  refine q_put (T := TX12) C S ga0 0 kF_X12_3 dX12_uses_2 rfl rfl (by decide) (by decide) rfl rfl rfl rfl rfl (vok_a rfl) (by decide +kernel) (fun H1 L1 S1 P1 => ?_)
  refine lv_aload_n hx hb dX12_uses_5 rfl (lv_at hl 0 rfl) ?_
  refine lv_aload_n hx hb dX12_uses_6 rfl (lv_at hl 0 rfl) ?_
  refine q_gi (T := TX12) C S1.1 ga0 9 kF_X12_75 dX12_uses_7 rfl rfl (by decide) rfl (by decide) rfl ?_
  have c2 : (fI D H1 11 a0 9).toInt = (fI D s.heap 11 a0 9).toInt := by rw [Pt.o P1 (by decide) (by decide)]
  have r3 : 0 ≤ (fI D H1 11 a0 9).toInt ∧ (fI D H1 11 a0 9).toInt ≤ 400 := S1.1.rng ga0 rfl (by decide) rfl
  refine q_put (T := TX12) C S1 ga0 11 kF_X12_81 dX12_uses_10 rfl rfl (by decide) (by decide) rfl rfl rfl rfl rfl (vok_i rfl (by omega) (by omega)) (by decide +kernel) (fun H4 L4 S4 P4 => ?_)
  refine lv_aload_n hx hb dX12_uses_13 rfl (lv_at hl 0 rfl) ?_
  refine lv_iconst (v := 0) hx hb dX12_uses_14 (by decide) ?_
  refine q_put (T := TX12) C S4 ga0 9 kF_X12_75 dX12_uses_15 rfl rfl (by decide) (by decide) rfl rfl rfl rfl rfl (vok_i rfl (by omega) (by omega)) (by decide +kernel) (fun H5 L5 S5 P5 => ?_)
  refine lv_aload_n hx hb dX12_uses_18 rfl (lv_at hl 0 rfl) ?_
  refine lv_iconst (v := 0) hx hb dX12_uses_19 (by decide) ?_
  refine q_put (T := TX12) C S5 ga0 10 kF_X12_78 dX12_uses_20 rfl rfl (by decide) (by decide) rfl rfl rfl rfl rfl (vok_i rfl (by omega) (by omega)) (by decide +kernel) (fun H6 L6 S6 P6 => ?_)
  exact retE_v hQ C S6 hr dX12_uses_23 (by rw [Pt.i P6, Pt.o P6 (by decide) (by decide), Pt.i P5]; decide)

set_option maxRecDepth 100000 in
set_option maxHeartbeats 4000000 in
theorem c_X12_isTold (l : Launch) (D : DD) (G : Nat → Nat) (a0 : Nat) (ga0 : G a0 = 30) : CP l D G yX12_isTold cX12_isTold 3 (some .boolean) 1 [.ref a0] (fun _ => True) (pI (fun H r => (r.toInt = 1 ∧ (fI D H 11 a0 11).toInt ≤ 40) ∨ r.toInt = 0)) := by
  refine enter (by decide) (Nat.le_of_ble_eq_true rfl) ?_
  intro p e s m args below meth c ls Q hA hQ C hr hO hpre hl
  have hx := C.1
  have hb := C.2.1
  have hl : lv_has ls 3 [(0, .ref a0)] := hl
  refine lv_aload_n hx hb dX12_isTold_0 rfl (lv_at hl 0 rfl) ?_
  refine q_gi (T := TX12) C hO ga0 11 kF_X12_81 dX12_isTold_1 rfl rfl (by decide) rfl (by decide) rfl ?_
  have r1 : 0 ≤ (fI D s.heap 11 a0 11).toInt ∧ (fI D s.heap 11 a0 11).toInt ≤ 400 := hO.rng ga0 rfl (by decide) rfl
  refine lv_iconst (v := 2) hx hb dX12_isTold_4 (by decide) ?_
  have k_2 : (2 : Int32).toInt = 2 := by decide
  refine lv_irem hx hb dX12_isTold_5 (by first | decide | (intro z9; have := i_eq.mp z9; simp at this; omega) | assumption) ?_
  refine lv_topi (fun v2 ev2 => ?_)
  have f3 : v2.toInt = (fI D s.heap 11 a0 11).toInt % 2 := by rw [ev2]; exact i_remc k_2 (by omega) (by decide)
  have k_0 : (0 : Int32).toInt = 0 := by decide
  refine lv_if_ne (tgt := 22) hx hb dX12_isTold_6 (by decide) (fun c4 => ?_) (fun c4 => ?_)
  · have b4 : ¬ v2.toInt = (0 : Int32).toInt := fun z9 => c4 (i_eq.mpr z9)
    refine lv_iconst (v := 0) hx hb dX12_isTold_22 (by decide) ?_
    refine lv_istore_n (lv' := [(1, .int (0 : Int32)), (0, .ref a0)]) hx hb dX12_isTold_23 rfl hl (by decide) rfl (fun ls hl => ?_)
    refine lv_iconst (v := 0) hx hb dX12_isTold_24 (by decide) ?_
    refine lv_istore_n (lv' := [(2, .int (0 : Int32)), (1, .int (0 : Int32)), (0, .ref a0)]) hx hb dX12_isTold_25 rfl hl (by decide) rfl (fun ls hl => ?_)
    have Lp26 : ∀ (n : Nat) (x2_26 : Int32) (x1_26 : Int32) (ls : Array Slot), (0 ≤ x2_26.toInt ∧ x2_26.toInt ≤ 401) → (0 ≤ x1_26.toInt ∧ x1_26.toInt ≤ 1) → (x1_26.toInt = 1 → (fI D s.heap 11 a0 11).toInt ≤ 40) → 402 - x2_26.toInt ≤ (n : Int) → lv_has ls 3 [(2, .int x2_26), (1, .int x1_26), (0, .ref a0)] → W p l e (rmU 1 0 0) s m args below meth c s.heap [] 0 0 Q (F0 m 26 ls []) := by
      intro n
      induction n with
      | zero =>
        intro x2_26 x1_26 ls j26_0 j26_1 u26_0 hn hl
        exact absurd hn (by omega)
      | succ n ih26 =>
        intro x2_26 x1_26 ls j26_0 j26_1 u26_0 hn hl
        refine lv_iload_n hx hb dX12_isTold_26 rfl (lv_at hl 0 rfl) ?_
        refine lv_aload_n hx hb dX12_isTold_27 rfl (lv_at hl 2 rfl) ?_
        refine q_gi (T := TX12) C hO ga0 11 kF_X12_81 dX12_isTold_28 rfl rfl (by decide) rfl (by decide) rfl ?_
        refine lv_icmp_ge (tgt := 81) hx hb dX12_isTold_31 (by decide) (fun c5 => ?_) (fun c5 => ?_)
        · have b5 : (fI D s.heap 11 a0 11).toInt ≤ x2_26.toInt := i_le.mp c5
          refine lv_iload_n hx hb dX12_isTold_81 rfl (lv_at hl 1 rfl) ?_
          exact retP_z hQ C hr dX12_isTold_82 (z01 (by omega) (by omega)) (by omega)
        · have b5 : ¬ (fI D s.heap 11 a0 11).toInt ≤ x2_26.toInt := fun z9 => c5 (i_le.mpr z9)
          refine lv_iload_n hx hb dX12_isTold_34 rfl (lv_at hl 1 rfl) ?_
          refine lv_if_eq (tgt := 81) hx hb dX12_isTold_35 (by decide) (fun c6 => ?_) (fun c6 => ?_)
          · have b6 : x1_26.toInt = (0 : Int32).toInt := i_eq.mp c6
            refine lv_iload_n hx hb dX12_isTold_81 rfl (lv_at hl 1 rfl) ?_
            exact retP_z hQ C hr dX12_isTold_82 (z01 (by omega) (by omega)) (by omega)
          · have b6 : ¬ x1_26.toInt = (0 : Int32).toInt := fun z9 => c6 (i_eq.mpr z9)
            refine lv_aload_n hx hb dX12_isTold_38 rfl (lv_at hl 2 rfl) ?_
            refine q_gr (T := TX12) C hO ga0 8 kF_X12_29 dX12_isTold_39 rfl rfl (by decide) rfl (by decide) rfl (fun g7 => ?_)
            refine lv_iload_n hx hb dX12_isTold_42 rfl (lv_at hl 0 rfl) ?_
            have n8 : aN s.heap (fR D s.heap 11 a0 8) = 400 := len_36 hO g7
            refine q_bald C hO g7 (by omega) (by omega) dX12_isTold_43 rfl (by decide) ?_
            refine lv_topi (fun v9 ev9 => ?_)
            refine lv_iconst (v := 0) hx hb dX12_isTold_44 (by decide) ?_
            refine lv_bipush (v := 9) hx hb dX12_isTold_45 (by decide) ?_
            have k_9 : (9 : Int32).toInt = 9 := by decide
            refine callS_Pi C hO (fun _ _ _ => rfl) (c_X12_in l D G v9 (0 : Int32) (9 : Int32)) kS_X12_63 (trivial) dX12_isTold_47 hl.1 cd_X12_in ⟨Nat.le_of_ble_eq_true rfl, Nat.le_of_ble_eq_true rfl, Nat.le_of_ble_eq_true rfl, Nat.le_of_ble_eq_true rfl, Nat.le_of_ble_eq_true rfl⟩ (fun v10 q10 => ?_)
            rcases q10 with q10 | q10
            · skip
              refine lv_if_eq (tgt := 73) hx hb dX12_isTold_50 (by decide) (fun c11 => ?_) (fun c11 => ?_)
              · have b11 : v10.toInt = (0 : Int32).toInt := i_eq.mp c11
                exact absurd b11 (by omega)
              · have b11 : ¬ v10.toInt = (0 : Int32).toInt := fun z9 => c11 (i_eq.mpr z9)
                refine lv_aload_n hx hb dX12_isTold_53 rfl (lv_at hl 2 rfl) ?_
                refine q_gr (T := TX12) C hO ga0 8 kF_X12_29 dX12_isTold_54 rfl rfl (by decide) rfl (by decide) rfl (fun g12 => ?_)
                refine lv_iload_n hx hb dX12_isTold_57 rfl (lv_at hl 0 rfl) ?_
                refine lv_iconst (v := 1) hx hb dX12_isTold_58 (by decide) ?_
                have k_1 : (1 : Int32).toInt = 1 := by decide
                refine lv_iadd hx hb dX12_isTold_59 ?_
                refine lv_topi (fun v13 ev13 => ?_)
                have f14 : v13.toInt = x2_26.toInt + (1 : Int32).toInt := by rw [ev13]; exact i_add (by omega) (by omega)
                refine q_bald C hO g12 (by omega) (by omega) dX12_isTold_60 rfl (by decide) ?_
                refine lv_topi (fun v15 ev15 => ?_)
                refine lv_iconst (v := 0) hx hb dX12_isTold_61 (by decide) ?_
                refine lv_iconst (v := 1) hx hb dX12_isTold_62 (by decide) ?_
                refine callS_Pi C hO (fun _ _ _ => rfl) (c_X12_in l D G v15 (0 : Int32) (1 : Int32)) kS_X12_63 (trivial) dX12_isTold_63 hl.1 cd_X12_in ⟨Nat.le_of_ble_eq_true rfl, Nat.le_of_ble_eq_true rfl, Nat.le_of_ble_eq_true rfl, Nat.le_of_ble_eq_true rfl, Nat.le_of_ble_eq_true rfl⟩ (fun v16 q16 => ?_)
                rcases q16 with q16 | q16
                · skip
                  refine lv_if_eq (tgt := 73) hx hb dX12_isTold_66 (by decide) (fun c17 => ?_) (fun c17 => ?_)
                  · have b17 : v16.toInt = (0 : Int32).toInt := i_eq.mp c17
                    exact absurd b17 (by omega)
                  · have b17 : ¬ v16.toInt = (0 : Int32).toInt := fun z9 => c17 (i_eq.mpr z9)
                    refine lv_iconst (v := 1) hx hb dX12_isTold_69 (by decide) ?_
                    refine lv_goto (tgt := 74) hx hb dX12_isTold_70 (by decide) ?_
                    refine lv_istore_n (lv' := [(1, .int (1 : Int32)), (2, .int x2_26), (0, .ref a0)]) hx hb dX12_isTold_74 rfl hl (by decide) rfl (fun ls hl => ?_)
                    obtain ⟨v18, ev18⟩ : ∃ y : Int32, y = x2_26 + (2) := ⟨_, rfl⟩
                    have f19 : v18.toInt = x2_26.toInt + (2) := by rw [ev18]; exact i_addc k_2 (by omega) (by omega)
                    refine lv_iinc (v := v18) (lv' := [(2, .int v18), (1, .int (1 : Int32)), (0, .ref a0)]) hx hb dX12_isTold_75 hl (k := 1) rfl (by rw [ev18]; rfl) (by decide) rfl (fun ls hl => ?_)
                    refine lv_goto (tgt := 26) hx hb dX12_isTold_78 (by decide) ?_
                    exact ih26 v18 (1 : Int32) ls (by omega) (by omega) (by omega) (by omega) (lv_sub hl [0, 1, 2] rfl)
                · skip
                  refine lv_if_eq (tgt := 73) hx hb dX12_isTold_66 (by decide) (fun c20 => ?_) (fun c20 => ?_)
                  · have b20 : v16.toInt = (0 : Int32).toInt := i_eq.mp c20
                    refine lv_iconst (v := 0) hx hb dX12_isTold_73 (by decide) ?_
                    refine lv_istore_n (lv' := [(1, .int (0 : Int32)), (2, .int x2_26), (0, .ref a0)]) hx hb dX12_isTold_74 rfl hl (by decide) rfl (fun ls hl => ?_)
                    obtain ⟨v21, ev21⟩ : ∃ y : Int32, y = x2_26 + (2) := ⟨_, rfl⟩
                    have f22 : v21.toInt = x2_26.toInt + (2) := by rw [ev21]; exact i_addc k_2 (by omega) (by omega)
                    refine lv_iinc (v := v21) (lv' := [(2, .int v21), (1, .int (0 : Int32)), (0, .ref a0)]) hx hb dX12_isTold_75 hl (k := 1) rfl (by rw [ev21]; rfl) (by decide) rfl (fun ls hl => ?_)
                    refine lv_goto (tgt := 26) hx hb dX12_isTold_78 (by decide) ?_
                    exact ih26 v21 (0 : Int32) ls (by omega) (by omega) (by omega) (by omega) (lv_sub hl [0, 1, 2] rfl)
                  · have b20 : ¬ v16.toInt = (0 : Int32).toInt := fun z9 => c20 (i_eq.mpr z9)
                    exact absurd b20 (by omega)
            · skip
              refine lv_if_eq (tgt := 73) hx hb dX12_isTold_50 (by decide) (fun c23 => ?_) (fun c23 => ?_)
              · have b23 : v10.toInt = (0 : Int32).toInt := i_eq.mp c23
                refine lv_iconst (v := 0) hx hb dX12_isTold_73 (by decide) ?_
                refine lv_istore_n (lv' := [(1, .int (0 : Int32)), (2, .int x2_26), (0, .ref a0)]) hx hb dX12_isTold_74 rfl hl (by decide) rfl (fun ls hl => ?_)
                obtain ⟨v24, ev24⟩ : ∃ y : Int32, y = x2_26 + (2) := ⟨_, rfl⟩
                have f25 : v24.toInt = x2_26.toInt + (2) := by rw [ev24]; exact i_addc k_2 (by omega) (by omega)
                refine lv_iinc (v := v24) (lv' := [(2, .int v24), (1, .int (0 : Int32)), (0, .ref a0)]) hx hb dX12_isTold_75 hl (k := 1) rfl (by rw [ev24]; rfl) (by decide) rfl (fun ls hl => ?_)
                refine lv_goto (tgt := 26) hx hb dX12_isTold_78 (by decide) ?_
                exact ih26 v24 (0 : Int32) ls (by omega) (by omega) (by omega) (by omega) (lv_sub hl [0, 1, 2] rfl)
              · have b23 : ¬ v10.toInt = (0 : Int32).toInt := fun z9 => c23 (i_eq.mpr z9)
                exact absurd b23 (by omega)
    exact Lp26 402 (0 : Int32) (0 : Int32) ls (by omega) (by omega) (by omega)  (by omega) (lv_sub hl [0, 1, 2] rfl)
  · have b4 : v2.toInt = (0 : Int32).toInt := i_eq.mp c4
    refine lv_aload_n hx hb dX12_isTold_9 rfl (lv_at hl 0 rfl) ?_
    refine q_gi (T := TX12) C hO ga0 11 kF_X12_81 dX12_isTold_10 rfl rfl (by decide) rfl (by decide) rfl ?_
    refine lv_bipush (v := 40) hx hb dX12_isTold_13 (by decide) ?_
    have k_40 : (40 : Int32).toInt = 40 := by decide
    refine lv_icmp_gt (tgt := 22) hx hb dX12_isTold_15 (by decide) (fun c26 => ?_) (fun c26 => ?_)
    · have b26 : (40 : Int32).toInt < (fI D s.heap 11 a0 11).toInt := i_lt.mp c26
      refine lv_iconst (v := 0) hx hb dX12_isTold_22 (by decide) ?_
      refine lv_istore_n (lv' := [(1, .int (0 : Int32)), (0, .ref a0)]) hx hb dX12_isTold_23 rfl hl (by decide) rfl (fun ls hl => ?_)
      refine lv_iconst (v := 0) hx hb dX12_isTold_24 (by decide) ?_
      refine lv_istore_n (lv' := [(2, .int (0 : Int32)), (1, .int (0 : Int32)), (0, .ref a0)]) hx hb dX12_isTold_25 rfl hl (by decide) rfl (fun ls hl => ?_)
      have Lp26 : ∀ (n : Nat) (x2_26 : Int32) (x1_26 : Int32) (ls : Array Slot), (0 ≤ x2_26.toInt ∧ x2_26.toInt ≤ 401) → (0 ≤ x1_26.toInt ∧ x1_26.toInt ≤ 1) → (x1_26.toInt = 1 → (fI D s.heap 11 a0 11).toInt ≤ 40) → 402 - x2_26.toInt ≤ (n : Int) → lv_has ls 3 [(2, .int x2_26), (1, .int x1_26), (0, .ref a0)] → W p l e (rmU 1 0 0) s m args below meth c s.heap [] 0 0 Q (F0 m 26 ls []) := by
        intro n
        induction n with
        | zero =>
          intro x2_26 x1_26 ls j26_0 j26_1 u26_0 hn hl
          exact absurd hn (by omega)
        | succ n ih26 =>
          intro x2_26 x1_26 ls j26_0 j26_1 u26_0 hn hl
          refine lv_iload_n hx hb dX12_isTold_26 rfl (lv_at hl 0 rfl) ?_
          refine lv_aload_n hx hb dX12_isTold_27 rfl (lv_at hl 2 rfl) ?_
          refine q_gi (T := TX12) C hO ga0 11 kF_X12_81 dX12_isTold_28 rfl rfl (by decide) rfl (by decide) rfl ?_
          refine lv_icmp_ge (tgt := 81) hx hb dX12_isTold_31 (by decide) (fun c27 => ?_) (fun c27 => ?_)
          · have b27 : (fI D s.heap 11 a0 11).toInt ≤ x2_26.toInt := i_le.mp c27
            refine lv_iload_n hx hb dX12_isTold_81 rfl (lv_at hl 1 rfl) ?_
            exact retP_z hQ C hr dX12_isTold_82 (z01 (by omega) (by omega)) (by omega)
          · have b27 : ¬ (fI D s.heap 11 a0 11).toInt ≤ x2_26.toInt := fun z9 => c27 (i_le.mpr z9)
            refine lv_iload_n hx hb dX12_isTold_34 rfl (lv_at hl 1 rfl) ?_
            refine lv_if_eq (tgt := 81) hx hb dX12_isTold_35 (by decide) (fun c28 => ?_) (fun c28 => ?_)
            · have b28 : x1_26.toInt = (0 : Int32).toInt := i_eq.mp c28
              refine lv_iload_n hx hb dX12_isTold_81 rfl (lv_at hl 1 rfl) ?_
              exact retP_z hQ C hr dX12_isTold_82 (z01 (by omega) (by omega)) (by omega)
            · have b28 : ¬ x1_26.toInt = (0 : Int32).toInt := fun z9 => c28 (i_eq.mpr z9)
              refine lv_aload_n hx hb dX12_isTold_38 rfl (lv_at hl 2 rfl) ?_
              refine q_gr (T := TX12) C hO ga0 8 kF_X12_29 dX12_isTold_39 rfl rfl (by decide) rfl (by decide) rfl (fun g29 => ?_)
              refine lv_iload_n hx hb dX12_isTold_42 rfl (lv_at hl 0 rfl) ?_
              have n30 : aN s.heap (fR D s.heap 11 a0 8) = 400 := len_36 hO g29
              refine q_bald C hO g29 (by omega) (by omega) dX12_isTold_43 rfl (by decide) ?_
              refine lv_topi (fun v31 ev31 => ?_)
              refine lv_iconst (v := 0) hx hb dX12_isTold_44 (by decide) ?_
              refine lv_bipush (v := 9) hx hb dX12_isTold_45 (by decide) ?_
              have k_9 : (9 : Int32).toInt = 9 := by decide
              refine callS_Pi C hO (fun _ _ _ => rfl) (c_X12_in l D G v31 (0 : Int32) (9 : Int32)) kS_X12_63 (trivial) dX12_isTold_47 hl.1 cd_X12_in ⟨Nat.le_of_ble_eq_true rfl, Nat.le_of_ble_eq_true rfl, Nat.le_of_ble_eq_true rfl, Nat.le_of_ble_eq_true rfl, Nat.le_of_ble_eq_true rfl⟩ (fun v32 q32 => ?_)
              rcases q32 with q32 | q32
              · skip
                refine lv_if_eq (tgt := 73) hx hb dX12_isTold_50 (by decide) (fun c33 => ?_) (fun c33 => ?_)
                · have b33 : v32.toInt = (0 : Int32).toInt := i_eq.mp c33
                  exact absurd b33 (by omega)
                · have b33 : ¬ v32.toInt = (0 : Int32).toInt := fun z9 => c33 (i_eq.mpr z9)
                  refine lv_aload_n hx hb dX12_isTold_53 rfl (lv_at hl 2 rfl) ?_
                  refine q_gr (T := TX12) C hO ga0 8 kF_X12_29 dX12_isTold_54 rfl rfl (by decide) rfl (by decide) rfl (fun g34 => ?_)
                  refine lv_iload_n hx hb dX12_isTold_57 rfl (lv_at hl 0 rfl) ?_
                  refine lv_iconst (v := 1) hx hb dX12_isTold_58 (by decide) ?_
                  have k_1 : (1 : Int32).toInt = 1 := by decide
                  refine lv_iadd hx hb dX12_isTold_59 ?_
                  refine lv_topi (fun v35 ev35 => ?_)
                  have f36 : v35.toInt = x2_26.toInt + (1 : Int32).toInt := by rw [ev35]; exact i_add (by omega) (by omega)
                  refine q_bald C hO g34 (by omega) (by omega) dX12_isTold_60 rfl (by decide) ?_
                  refine lv_topi (fun v37 ev37 => ?_)
                  refine lv_iconst (v := 0) hx hb dX12_isTold_61 (by decide) ?_
                  refine lv_iconst (v := 1) hx hb dX12_isTold_62 (by decide) ?_
                  refine callS_Pi C hO (fun _ _ _ => rfl) (c_X12_in l D G v37 (0 : Int32) (1 : Int32)) kS_X12_63 (trivial) dX12_isTold_63 hl.1 cd_X12_in ⟨Nat.le_of_ble_eq_true rfl, Nat.le_of_ble_eq_true rfl, Nat.le_of_ble_eq_true rfl, Nat.le_of_ble_eq_true rfl, Nat.le_of_ble_eq_true rfl⟩ (fun v38 q38 => ?_)
                  rcases q38 with q38 | q38
                  · skip
                    refine lv_if_eq (tgt := 73) hx hb dX12_isTold_66 (by decide) (fun c39 => ?_) (fun c39 => ?_)
                    · have b39 : v38.toInt = (0 : Int32).toInt := i_eq.mp c39
                      exact absurd b39 (by omega)
                    · have b39 : ¬ v38.toInt = (0 : Int32).toInt := fun z9 => c39 (i_eq.mpr z9)
                      refine lv_iconst (v := 1) hx hb dX12_isTold_69 (by decide) ?_
                      refine lv_goto (tgt := 74) hx hb dX12_isTold_70 (by decide) ?_
                      refine lv_istore_n (lv' := [(1, .int (1 : Int32)), (2, .int x2_26), (0, .ref a0)]) hx hb dX12_isTold_74 rfl hl (by decide) rfl (fun ls hl => ?_)
                      obtain ⟨v40, ev40⟩ : ∃ y : Int32, y = x2_26 + (2) := ⟨_, rfl⟩
                      have f41 : v40.toInt = x2_26.toInt + (2) := by rw [ev40]; exact i_addc k_2 (by omega) (by omega)
                      refine lv_iinc (v := v40) (lv' := [(2, .int v40), (1, .int (1 : Int32)), (0, .ref a0)]) hx hb dX12_isTold_75 hl (k := 1) rfl (by rw [ev40]; rfl) (by decide) rfl (fun ls hl => ?_)
                      refine lv_goto (tgt := 26) hx hb dX12_isTold_78 (by decide) ?_
                      exact ih26 v40 (1 : Int32) ls (by omega) (by omega) (by omega) (by omega) (lv_sub hl [0, 1, 2] rfl)
                  · skip
                    refine lv_if_eq (tgt := 73) hx hb dX12_isTold_66 (by decide) (fun c42 => ?_) (fun c42 => ?_)
                    · have b42 : v38.toInt = (0 : Int32).toInt := i_eq.mp c42
                      refine lv_iconst (v := 0) hx hb dX12_isTold_73 (by decide) ?_
                      refine lv_istore_n (lv' := [(1, .int (0 : Int32)), (2, .int x2_26), (0, .ref a0)]) hx hb dX12_isTold_74 rfl hl (by decide) rfl (fun ls hl => ?_)
                      obtain ⟨v43, ev43⟩ : ∃ y : Int32, y = x2_26 + (2) := ⟨_, rfl⟩
                      have f44 : v43.toInt = x2_26.toInt + (2) := by rw [ev43]; exact i_addc k_2 (by omega) (by omega)
                      refine lv_iinc (v := v43) (lv' := [(2, .int v43), (1, .int (0 : Int32)), (0, .ref a0)]) hx hb dX12_isTold_75 hl (k := 1) rfl (by rw [ev43]; rfl) (by decide) rfl (fun ls hl => ?_)
                      refine lv_goto (tgt := 26) hx hb dX12_isTold_78 (by decide) ?_
                      exact ih26 v43 (0 : Int32) ls (by omega) (by omega) (by omega) (by omega) (lv_sub hl [0, 1, 2] rfl)
                    · have b42 : ¬ v38.toInt = (0 : Int32).toInt := fun z9 => c42 (i_eq.mpr z9)
                      exact absurd b42 (by omega)
              · skip
                refine lv_if_eq (tgt := 73) hx hb dX12_isTold_50 (by decide) (fun c45 => ?_) (fun c45 => ?_)
                · have b45 : v32.toInt = (0 : Int32).toInt := i_eq.mp c45
                  refine lv_iconst (v := 0) hx hb dX12_isTold_73 (by decide) ?_
                  refine lv_istore_n (lv' := [(1, .int (0 : Int32)), (2, .int x2_26), (0, .ref a0)]) hx hb dX12_isTold_74 rfl hl (by decide) rfl (fun ls hl => ?_)
                  obtain ⟨v46, ev46⟩ : ∃ y : Int32, y = x2_26 + (2) := ⟨_, rfl⟩
                  have f47 : v46.toInt = x2_26.toInt + (2) := by rw [ev46]; exact i_addc k_2 (by omega) (by omega)
                  refine lv_iinc (v := v46) (lv' := [(2, .int v46), (1, .int (0 : Int32)), (0, .ref a0)]) hx hb dX12_isTold_75 hl (k := 1) rfl (by rw [ev46]; rfl) (by decide) rfl (fun ls hl => ?_)
                  refine lv_goto (tgt := 26) hx hb dX12_isTold_78 (by decide) ?_
                  exact ih26 v46 (0 : Int32) ls (by omega) (by omega) (by omega) (by omega) (lv_sub hl [0, 1, 2] rfl)
                · have b45 : ¬ v32.toInt = (0 : Int32).toInt := fun z9 => c45 (i_eq.mpr z9)
                  exact absurd b45 (by omega)
      exact Lp26 402 (0 : Int32) (0 : Int32) ls (by omega) (by omega) (by omega)  (by omega) (lv_sub hl [0, 1, 2] rfl)
    · have b26 : ¬ (40 : Int32).toInt < (fI D s.heap 11 a0 11).toInt := fun z9 => c26 (i_lt.mpr z9)
      refine lv_iconst (v := 1) hx hb dX12_isTold_18 (by decide) ?_
      refine lv_goto (tgt := 23) hx hb dX12_isTold_19 (by decide) ?_
      refine lv_istore_n (lv' := [(1, .int (1 : Int32)), (0, .ref a0)]) hx hb dX12_isTold_23 rfl hl (by decide) rfl (fun ls hl => ?_)
      refine lv_iconst (v := 0) hx hb dX12_isTold_24 (by decide) ?_
      refine lv_istore_n (lv' := [(2, .int (0 : Int32)), (1, .int (1 : Int32)), (0, .ref a0)]) hx hb dX12_isTold_25 rfl hl (by decide) rfl (fun ls hl => ?_)
      have Lp26 : ∀ (n : Nat) (x2_26 : Int32) (x1_26 : Int32) (ls : Array Slot), (0 ≤ x2_26.toInt ∧ x2_26.toInt ≤ 401) → (0 ≤ x1_26.toInt ∧ x1_26.toInt ≤ 1) → (x1_26.toInt = 1 → (fI D s.heap 11 a0 11).toInt ≤ 40) → 402 - x2_26.toInt ≤ (n : Int) → lv_has ls 3 [(2, .int x2_26), (1, .int x1_26), (0, .ref a0)] → W p l e (rmU 1 0 0) s m args below meth c s.heap [] 0 0 Q (F0 m 26 ls []) := by
        intro n
        induction n with
        | zero =>
          intro x2_26 x1_26 ls j26_0 j26_1 u26_0 hn hl
          exact absurd hn (by omega)
        | succ n ih26 =>
          intro x2_26 x1_26 ls j26_0 j26_1 u26_0 hn hl
          refine lv_iload_n hx hb dX12_isTold_26 rfl (lv_at hl 0 rfl) ?_
          refine lv_aload_n hx hb dX12_isTold_27 rfl (lv_at hl 2 rfl) ?_
          refine q_gi (T := TX12) C hO ga0 11 kF_X12_81 dX12_isTold_28 rfl rfl (by decide) rfl (by decide) rfl ?_
          refine lv_icmp_ge (tgt := 81) hx hb dX12_isTold_31 (by decide) (fun c48 => ?_) (fun c48 => ?_)
          · have b48 : (fI D s.heap 11 a0 11).toInt ≤ x2_26.toInt := i_le.mp c48
            refine lv_iload_n hx hb dX12_isTold_81 rfl (lv_at hl 1 rfl) ?_
            exact retP_z hQ C hr dX12_isTold_82 (z01 (by omega) (by omega)) (by omega)
          · have b48 : ¬ (fI D s.heap 11 a0 11).toInt ≤ x2_26.toInt := fun z9 => c48 (i_le.mpr z9)
            refine lv_iload_n hx hb dX12_isTold_34 rfl (lv_at hl 1 rfl) ?_
            refine lv_if_eq (tgt := 81) hx hb dX12_isTold_35 (by decide) (fun c49 => ?_) (fun c49 => ?_)
            · have b49 : x1_26.toInt = (0 : Int32).toInt := i_eq.mp c49
              refine lv_iload_n hx hb dX12_isTold_81 rfl (lv_at hl 1 rfl) ?_
              exact retP_z hQ C hr dX12_isTold_82 (z01 (by omega) (by omega)) (by omega)
            · have b49 : ¬ x1_26.toInt = (0 : Int32).toInt := fun z9 => c49 (i_eq.mpr z9)
              refine lv_aload_n hx hb dX12_isTold_38 rfl (lv_at hl 2 rfl) ?_
              refine q_gr (T := TX12) C hO ga0 8 kF_X12_29 dX12_isTold_39 rfl rfl (by decide) rfl (by decide) rfl (fun g50 => ?_)
              refine lv_iload_n hx hb dX12_isTold_42 rfl (lv_at hl 0 rfl) ?_
              have n51 : aN s.heap (fR D s.heap 11 a0 8) = 400 := len_36 hO g50
              refine q_bald C hO g50 (by omega) (by omega) dX12_isTold_43 rfl (by decide) ?_
              refine lv_topi (fun v52 ev52 => ?_)
              refine lv_iconst (v := 0) hx hb dX12_isTold_44 (by decide) ?_
              refine lv_bipush (v := 9) hx hb dX12_isTold_45 (by decide) ?_
              have k_9 : (9 : Int32).toInt = 9 := by decide
              refine callS_Pi C hO (fun _ _ _ => rfl) (c_X12_in l D G v52 (0 : Int32) (9 : Int32)) kS_X12_63 (trivial) dX12_isTold_47 hl.1 cd_X12_in ⟨Nat.le_of_ble_eq_true rfl, Nat.le_of_ble_eq_true rfl, Nat.le_of_ble_eq_true rfl, Nat.le_of_ble_eq_true rfl, Nat.le_of_ble_eq_true rfl⟩ (fun v53 q53 => ?_)
              rcases q53 with q53 | q53
              · skip
                refine lv_if_eq (tgt := 73) hx hb dX12_isTold_50 (by decide) (fun c54 => ?_) (fun c54 => ?_)
                · have b54 : v53.toInt = (0 : Int32).toInt := i_eq.mp c54
                  exact absurd b54 (by omega)
                · have b54 : ¬ v53.toInt = (0 : Int32).toInt := fun z9 => c54 (i_eq.mpr z9)
                  refine lv_aload_n hx hb dX12_isTold_53 rfl (lv_at hl 2 rfl) ?_
                  refine q_gr (T := TX12) C hO ga0 8 kF_X12_29 dX12_isTold_54 rfl rfl (by decide) rfl (by decide) rfl (fun g55 => ?_)
                  refine lv_iload_n hx hb dX12_isTold_57 rfl (lv_at hl 0 rfl) ?_
                  refine lv_iconst (v := 1) hx hb dX12_isTold_58 (by decide) ?_
                  have k_1 : (1 : Int32).toInt = 1 := by decide
                  refine lv_iadd hx hb dX12_isTold_59 ?_
                  refine lv_topi (fun v56 ev56 => ?_)
                  have f57 : v56.toInt = x2_26.toInt + (1 : Int32).toInt := by rw [ev56]; exact i_add (by omega) (by omega)
                  refine q_bald C hO g55 (by omega) (by omega) dX12_isTold_60 rfl (by decide) ?_
                  refine lv_topi (fun v58 ev58 => ?_)
                  refine lv_iconst (v := 0) hx hb dX12_isTold_61 (by decide) ?_
                  refine lv_iconst (v := 1) hx hb dX12_isTold_62 (by decide) ?_
                  refine callS_Pi C hO (fun _ _ _ => rfl) (c_X12_in l D G v58 (0 : Int32) (1 : Int32)) kS_X12_63 (trivial) dX12_isTold_63 hl.1 cd_X12_in ⟨Nat.le_of_ble_eq_true rfl, Nat.le_of_ble_eq_true rfl, Nat.le_of_ble_eq_true rfl, Nat.le_of_ble_eq_true rfl, Nat.le_of_ble_eq_true rfl⟩ (fun v59 q59 => ?_)
                  rcases q59 with q59 | q59
                  · skip
                    refine lv_if_eq (tgt := 73) hx hb dX12_isTold_66 (by decide) (fun c60 => ?_) (fun c60 => ?_)
                    · have b60 : v59.toInt = (0 : Int32).toInt := i_eq.mp c60
                      exact absurd b60 (by omega)
                    · have b60 : ¬ v59.toInt = (0 : Int32).toInt := fun z9 => c60 (i_eq.mpr z9)
                      refine lv_iconst (v := 1) hx hb dX12_isTold_69 (by decide) ?_
                      refine lv_goto (tgt := 74) hx hb dX12_isTold_70 (by decide) ?_
                      refine lv_istore_n (lv' := [(1, .int (1 : Int32)), (2, .int x2_26), (0, .ref a0)]) hx hb dX12_isTold_74 rfl hl (by decide) rfl (fun ls hl => ?_)
                      obtain ⟨v61, ev61⟩ : ∃ y : Int32, y = x2_26 + (2) := ⟨_, rfl⟩
                      have f62 : v61.toInt = x2_26.toInt + (2) := by rw [ev61]; exact i_addc k_2 (by omega) (by omega)
                      refine lv_iinc (v := v61) (lv' := [(2, .int v61), (1, .int (1 : Int32)), (0, .ref a0)]) hx hb dX12_isTold_75 hl (k := 1) rfl (by rw [ev61]; rfl) (by decide) rfl (fun ls hl => ?_)
                      refine lv_goto (tgt := 26) hx hb dX12_isTold_78 (by decide) ?_
                      exact ih26 v61 (1 : Int32) ls (by omega) (by omega) (by omega) (by omega) (lv_sub hl [0, 1, 2] rfl)
                  · skip
                    refine lv_if_eq (tgt := 73) hx hb dX12_isTold_66 (by decide) (fun c63 => ?_) (fun c63 => ?_)
                    · have b63 : v59.toInt = (0 : Int32).toInt := i_eq.mp c63
                      refine lv_iconst (v := 0) hx hb dX12_isTold_73 (by decide) ?_
                      refine lv_istore_n (lv' := [(1, .int (0 : Int32)), (2, .int x2_26), (0, .ref a0)]) hx hb dX12_isTold_74 rfl hl (by decide) rfl (fun ls hl => ?_)
                      obtain ⟨v64, ev64⟩ : ∃ y : Int32, y = x2_26 + (2) := ⟨_, rfl⟩
                      have f65 : v64.toInt = x2_26.toInt + (2) := by rw [ev64]; exact i_addc k_2 (by omega) (by omega)
                      refine lv_iinc (v := v64) (lv' := [(2, .int v64), (1, .int (0 : Int32)), (0, .ref a0)]) hx hb dX12_isTold_75 hl (k := 1) rfl (by rw [ev64]; rfl) (by decide) rfl (fun ls hl => ?_)
                      refine lv_goto (tgt := 26) hx hb dX12_isTold_78 (by decide) ?_
                      exact ih26 v64 (0 : Int32) ls (by omega) (by omega) (by omega) (by omega) (lv_sub hl [0, 1, 2] rfl)
                    · have b63 : ¬ v59.toInt = (0 : Int32).toInt := fun z9 => c63 (i_eq.mpr z9)
                      exact absurd b63 (by omega)
              · skip
                refine lv_if_eq (tgt := 73) hx hb dX12_isTold_50 (by decide) (fun c66 => ?_) (fun c66 => ?_)
                · have b66 : v53.toInt = (0 : Int32).toInt := i_eq.mp c66
                  refine lv_iconst (v := 0) hx hb dX12_isTold_73 (by decide) ?_
                  refine lv_istore_n (lv' := [(1, .int (0 : Int32)), (2, .int x2_26), (0, .ref a0)]) hx hb dX12_isTold_74 rfl hl (by decide) rfl (fun ls hl => ?_)
                  obtain ⟨v67, ev67⟩ : ∃ y : Int32, y = x2_26 + (2) := ⟨_, rfl⟩
                  have f68 : v67.toInt = x2_26.toInt + (2) := by rw [ev67]; exact i_addc k_2 (by omega) (by omega)
                  refine lv_iinc (v := v67) (lv' := [(2, .int v67), (1, .int (0 : Int32)), (0, .ref a0)]) hx hb dX12_isTold_75 hl (k := 1) rfl (by rw [ev67]; rfl) (by decide) rfl (fun ls hl => ?_)
                  refine lv_goto (tgt := 26) hx hb dX12_isTold_78 (by decide) ?_
                  exact ih26 v67 (0 : Int32) ls (by omega) (by omega) (by omega) (by omega) (lv_sub hl [0, 1, 2] rfl)
                · have b66 : ¬ v53.toInt = (0 : Int32).toInt := fun z9 => c66 (i_eq.mpr z9)
                  exact absurd b66 (by omega)
      have k_1 : (1 : Int32).toInt = 1 := by decide
      exact Lp26 402 (0 : Int32) (1 : Int32) ls (by omega) (by omega) (by omega)  (by omega) (lv_sub hl [0, 1, 2] rfl)

set_option maxRecDepth 100000 in
set_option maxHeartbeats 4000000 in
theorem c_X12_fits (l : Launch) (D : DD) (G : Nat → Nat) (a0 : Nat) (x1 : Int32) (ga0 : G a0 = 30) : CP l D G yX12_fits cX12_fits 5 (some .boolean) 3 [.ref a0, .int x1] (fun H => (fI D H 11 a0 11).toInt ≤ 40) (pI (fun H r => 0 ≤ r.toInt ∧ r.toInt ≤ 1)) := by
  refine enter (by decide) (Nat.le_of_ble_eq_true rfl) ?_
  intro p e s m args below meth c ls Q hA hQ C hr hO hpre hl
  have hx := C.1
  have hb := C.2.1
  have hl : lv_has ls 5 [(0, .ref a0), (1, .int x1)] := hl
  refine lv_aload_n hx hb dX12_fits_0 rfl (lv_at hl 0 rfl) ?_
  refine lv_iload_n hx hb dX12_fits_1 rfl (lv_at hl 1 rfl) ?_
  refine callV_Pi C hO (fun _ _ _ => rfl) (c_X12_fluesOf l D G a0 x1 ga0) kV_X12_290 ga0 (trivial) dX12_fits_2 hl.1 rfl rfl (by decide) cd_X12_fluesOf ⟨Nat.le_of_ble_eq_true rfl, Nat.le_of_ble_eq_true rfl, Nat.le_of_ble_eq_true rfl, Nat.le_of_ble_eq_true rfl, Nat.le_of_ble_eq_true rfl⟩ (fun v1 q1 => ?_)
  refine lv_istore_n (lv' := [(2, .int v1), (0, .ref a0), (1, .int x1)]) hx hb dX12_fits_5 rfl hl (by decide) rfl (fun ls hl => ?_)
  refine lv_iconst (v := 1) hx hb dX12_fits_6 (by decide) ?_
  refine lv_istore_n (lv' := [(3, .int (1 : Int32)), (2, .int v1), (0, .ref a0), (1, .int x1)]) hx hb dX12_fits_7 rfl hl (by decide) rfl (fun ls hl => ?_)
  refine lv_iconst (v := 0) hx hb dX12_fits_8 (by decide) ?_
  refine lv_istore (lv' := [(4, .int (0 : Int32)), (3, .int (1 : Int32)), (2, .int v1), (0, .ref a0), (1, .int x1)]) hx hb dX12_fits_9 hl (by decide) rfl (fun ls hl => ?_)
  have Lp11 : ∀ (n : Nat) (x4_11 : Int32) (x3_11 : Int32) (ls : Array Slot), (0 ≤ x4_11.toInt ∧ x4_11.toInt ≤ 401) → (0 ≤ x3_11.toInt ∧ x3_11.toInt ≤ 1) → 402 - x4_11.toInt ≤ (n : Int) → lv_has ls 5 [(4, .int x4_11), (3, .int x3_11), (2, .int v1), (0, .ref a0)] → W p l e (rmU 3 0 0) s m args below meth c s.heap [] 0 0 Q (F0 m 11 ls []) := by
    intro n
    induction n with
    | zero =>
      intro x4_11 x3_11 ls j11_0 j11_1 hn hl
      exact absurd hn (by omega)
    | succ n ih11 =>
      intro x4_11 x3_11 ls j11_0 j11_1 hn hl
      refine lv_iload hx hb dX12_fits_11 (lv_at hl 0 rfl) ?_
      refine lv_aload_n hx hb dX12_fits_13 rfl (lv_at hl 3 rfl) ?_
      refine q_gi (T := TX12) C hO ga0 11 kF_X12_81 dX12_fits_14 rfl rfl (by decide) rfl (by decide) rfl ?_
      have r2 : 0 ≤ (fI D s.heap 11 a0 11).toInt ∧ (fI D s.heap 11 a0 11).toInt ≤ 400 := hO.rng ga0 rfl (by decide) rfl
      refine lv_icmp_ge (tgt := 68) hx hb dX12_fits_17 (by decide) (fun c3 => ?_) (fun c3 => ?_)
      · have b3 : (fI D s.heap 11 a0 11).toInt ≤ x4_11.toInt := i_le.mp c3
        refine lv_iload_n hx hb dX12_fits_68 rfl (lv_at hl 1 rfl) ?_
        exact retP_z hQ C hr dX12_fits_69 (z01 (by omega) (by omega)) (by omega)
      · have b3 : ¬ (fI D s.heap 11 a0 11).toInt ≤ x4_11.toInt := fun z9 => c3 (i_le.mpr z9)
        refine lv_iload_n hx hb dX12_fits_20 rfl (lv_at hl 1 rfl) ?_
        have k_0 : (0 : Int32).toInt = 0 := by decide
        refine lv_if_eq (tgt := 60) hx hb dX12_fits_21 (by decide) (fun c4 => ?_) (fun c4 => ?_)
        · have b4 : x3_11.toInt = (0 : Int32).toInt := i_eq.mp c4
          refine lv_iconst (v := 0) hx hb dX12_fits_60 (by decide) ?_
          refine lv_istore_n (lv' := [(3, .int (0 : Int32)), (4, .int x4_11), (2, .int v1), (0, .ref a0)]) hx hb dX12_fits_61 rfl hl (by decide) rfl (fun ls hl => ?_)
          obtain ⟨v5, ev5⟩ : ∃ y : Int32, y = x4_11 + (2) := ⟨_, rfl⟩
          have k_2 : (2 : Int32).toInt = 2 := by decide
          have f6 : v5.toInt = x4_11.toInt + (2) := by rw [ev5]; exact i_addc k_2 (by omega) (by omega)
          refine lv_iinc (v := v5) (lv' := [(4, .int v5), (3, .int (0 : Int32)), (2, .int v1), (0, .ref a0)]) hx hb dX12_fits_62 hl (k := 1) rfl (by rw [ev5]; rfl) (by decide) rfl (fun ls hl => ?_)
          refine lv_goto (tgt := 11) hx hb dX12_fits_65 (by decide) ?_
          exact ih11 v5 (0 : Int32) ls (by omega) (by omega) (by omega) (lv_sub hl [0, 1, 2, 3] rfl)
        · have b4 : ¬ x3_11.toInt = (0 : Int32).toInt := fun z9 => c4 (i_eq.mpr z9)
          refine lv_iload_n hx hb dX12_fits_24 rfl (lv_at hl 2 rfl) ?_
          refine lv_aload_n hx hb dX12_fits_25 rfl (lv_at hl 3 rfl) ?_
          refine q_gr (T := TX12) C hO ga0 8 kF_X12_29 dX12_fits_26 rfl rfl (by decide) rfl (by decide) rfl (fun g7 => ?_)
          refine lv_iload hx hb dX12_fits_29 (lv_at hl 0 rfl) ?_
          have n8 : aN s.heap (fR D s.heap 11 a0 8) = 400 := len_36 hO g7
          refine q_bald C hO g7 (by omega) (by omega) dX12_fits_31 rfl (by decide) ?_
          refine lv_topi (fun v9 ev9 => ?_)
          refine callS_Pi C hO (fun _ _ _ => rfl) (c_X12_has l D G v1 v9) kS_X12_287 (trivial) dX12_fits_32 hl.1 cd_X12_has ⟨Nat.le_of_ble_eq_true rfl, Nat.le_of_ble_eq_true rfl, Nat.le_of_ble_eq_true rfl, Nat.le_of_ble_eq_true rfl, Nat.le_of_ble_eq_true rfl⟩ (fun v10 q10 => ?_)
          refine lv_aload_n hx hb dX12_fits_35 rfl (lv_at hl 3 rfl) ?_
          refine q_gr (T := TX12) C hO ga0 8 kF_X12_29 dX12_fits_36 rfl rfl (by decide) rfl (by decide) rfl (fun g11 => ?_)
          refine lv_iload hx hb dX12_fits_39 (lv_at hl 0 rfl) ?_
          refine lv_iconst (v := 1) hx hb dX12_fits_41 (by decide) ?_
          have k_1 : (1 : Int32).toInt = 1 := by decide
          refine lv_iadd hx hb dX12_fits_42 ?_
          refine lv_topi (fun v12 ev12 => ?_)
          have f13 : v12.toInt = x4_11.toInt + (1 : Int32).toInt := by rw [ev12]; exact i_add (by omega) (by omega)
          refine q_bald C hO g11 (by omega) (by omega) dX12_fits_43 rfl (by decide) ?_
          refine lv_topi (fun v14 ev14 => ?_)
          refine lv_iconst (v := 1) hx hb dX12_fits_44 (by decide) ?_
          refine lv_icmp_ne (tgt := 52) hx hb dX12_fits_45 (by decide) (fun c15 => ?_) (fun c15 => ?_)
          · have b15 : ¬ v14.toInt = (1 : Int32).toInt := fun z9 => c15 (i_eq.mpr z9)
            refine lv_iconst (v := 0) hx hb dX12_fits_52 (by decide) ?_
            refine lv_icmp_ne (tgt := 60) hx hb dX12_fits_53 (by decide) (fun c16 => ?_) (fun c16 => ?_)
            · have b16 : ¬ v10.toInt = (0 : Int32).toInt := fun z9 => c16 (i_eq.mpr z9)
              refine lv_iconst (v := 0) hx hb dX12_fits_60 (by decide) ?_
              refine lv_istore_n (lv' := [(3, .int (0 : Int32)), (4, .int x4_11), (2, .int v1), (0, .ref a0)]) hx hb dX12_fits_61 rfl hl (by decide) rfl (fun ls hl => ?_)
              obtain ⟨v17, ev17⟩ : ∃ y : Int32, y = x4_11 + (2) := ⟨_, rfl⟩
              have k_2 : (2 : Int32).toInt = 2 := by decide
              have f18 : v17.toInt = x4_11.toInt + (2) := by rw [ev17]; exact i_addc k_2 (by omega) (by omega)
              refine lv_iinc (v := v17) (lv' := [(4, .int v17), (3, .int (0 : Int32)), (2, .int v1), (0, .ref a0)]) hx hb dX12_fits_62 hl (k := 1) rfl (by rw [ev17]; rfl) (by decide) rfl (fun ls hl => ?_)
              refine lv_goto (tgt := 11) hx hb dX12_fits_65 (by decide) ?_
              exact ih11 v17 (0 : Int32) ls (by omega) (by omega) (by omega) (lv_sub hl [0, 1, 2, 3] rfl)
            · have b16 : v10.toInt = (0 : Int32).toInt := i_eq.mp c16
              refine lv_iconst (v := 1) hx hb dX12_fits_56 (by decide) ?_
              refine lv_goto (tgt := 61) hx hb dX12_fits_57 (by decide) ?_
              refine lv_istore_n (lv' := [(3, .int (1 : Int32)), (4, .int x4_11), (2, .int v1), (0, .ref a0)]) hx hb dX12_fits_61 rfl hl (by decide) rfl (fun ls hl => ?_)
              obtain ⟨v19, ev19⟩ : ∃ y : Int32, y = x4_11 + (2) := ⟨_, rfl⟩
              have k_2 : (2 : Int32).toInt = 2 := by decide
              have f20 : v19.toInt = x4_11.toInt + (2) := by rw [ev19]; exact i_addc k_2 (by omega) (by omega)
              refine lv_iinc (v := v19) (lv' := [(4, .int v19), (3, .int (1 : Int32)), (2, .int v1), (0, .ref a0)]) hx hb dX12_fits_62 hl (k := 1) rfl (by rw [ev19]; rfl) (by decide) rfl (fun ls hl => ?_)
              refine lv_goto (tgt := 11) hx hb dX12_fits_65 (by decide) ?_
              exact ih11 v19 (1 : Int32) ls (by omega) (by omega) (by omega) (lv_sub hl [0, 1, 2, 3] rfl)
          · have b15 : v14.toInt = (1 : Int32).toInt := i_eq.mp c15
            refine lv_iconst (v := 1) hx hb dX12_fits_48 (by decide) ?_
            refine lv_goto (tgt := 53) hx hb dX12_fits_49 (by decide) ?_
            refine lv_icmp_ne (tgt := 60) hx hb dX12_fits_53 (by decide) (fun c21 => ?_) (fun c21 => ?_)
            · have b21 : ¬ v10.toInt = (1 : Int32).toInt := fun z9 => c21 (i_eq.mpr z9)
              refine lv_iconst (v := 0) hx hb dX12_fits_60 (by decide) ?_
              refine lv_istore_n (lv' := [(3, .int (0 : Int32)), (4, .int x4_11), (2, .int v1), (0, .ref a0)]) hx hb dX12_fits_61 rfl hl (by decide) rfl (fun ls hl => ?_)
              obtain ⟨v22, ev22⟩ : ∃ y : Int32, y = x4_11 + (2) := ⟨_, rfl⟩
              have k_2 : (2 : Int32).toInt = 2 := by decide
              have f23 : v22.toInt = x4_11.toInt + (2) := by rw [ev22]; exact i_addc k_2 (by omega) (by omega)
              refine lv_iinc (v := v22) (lv' := [(4, .int v22), (3, .int (0 : Int32)), (2, .int v1), (0, .ref a0)]) hx hb dX12_fits_62 hl (k := 1) rfl (by rw [ev22]; rfl) (by decide) rfl (fun ls hl => ?_)
              refine lv_goto (tgt := 11) hx hb dX12_fits_65 (by decide) ?_
              exact ih11 v22 (0 : Int32) ls (by omega) (by omega) (by omega) (lv_sub hl [0, 1, 2, 3] rfl)
            · have b21 : v10.toInt = (1 : Int32).toInt := i_eq.mp c21
              refine lv_iconst (v := 1) hx hb dX12_fits_56 (by decide) ?_
              refine lv_goto (tgt := 61) hx hb dX12_fits_57 (by decide) ?_
              refine lv_istore_n (lv' := [(3, .int (1 : Int32)), (4, .int x4_11), (2, .int v1), (0, .ref a0)]) hx hb dX12_fits_61 rfl hl (by decide) rfl (fun ls hl => ?_)
              obtain ⟨v24, ev24⟩ : ∃ y : Int32, y = x4_11 + (2) := ⟨_, rfl⟩
              have k_2 : (2 : Int32).toInt = 2 := by decide
              have f25 : v24.toInt = x4_11.toInt + (2) := by rw [ev24]; exact i_addc k_2 (by omega) (by omega)
              refine lv_iinc (v := v24) (lv' := [(4, .int v24), (3, .int (1 : Int32)), (2, .int v1), (0, .ref a0)]) hx hb dX12_fits_62 hl (k := 1) rfl (by rw [ev24]; rfl) (by decide) rfl (fun ls hl => ?_)
              refine lv_goto (tgt := 11) hx hb dX12_fits_65 (by decide) ?_
              exact ih11 v24 (1 : Int32) ls (by omega) (by omega) (by omega) (lv_sub hl [0, 1, 2, 3] rfl)
  have k_0 : (0 : Int32).toInt = 0 := by decide
  have k_1 : (1 : Int32).toInt = 1 := by decide
  exact Lp11 402 (0 : Int32) (1 : Int32) ls (by omega) (by omega)  (by omega) (lv_sub hl [0, 1, 2, 3] rfl)

set_option maxRecDepth 100000 in
set_option maxHeartbeats 4000000 in
theorem c_X12_howManyFit (l : Launch) (D : DD) (G : Nat → Nat) (a0 : Nat) (x1 : Int32) (x2 : Int32) (ga0 : G a0 = 30) (ix1 : 0 ≤ x1.toInt ∧ x1.toInt ≤ 4095) : CP l D G yX12_howManyFit cX12_howManyFit 5 (some .int) 4 [.ref a0, .int x1, .int x2] (fun H => (fI D H 11 a0 11).toInt ≤ 40) (pI (fun H r => True)) := by
  refine enter (by decide) (Nat.le_of_ble_eq_true rfl) ?_
  intro p e s m args below meth c ls Q hA hQ C hr hO hpre hl
  have hx := C.1
  have hb := C.2.1
  have hl : lv_has ls 5 [(0, .ref a0), (1, .int x1), (2, .int x2)] := hl
  refine lv_iconst (v := 0) hx hb dX12_howManyFit_0 (by decide) ?_
  refine lv_istore_n (lv' := [(3, .int (0 : Int32)), (0, .ref a0), (1, .int x1), (2, .int x2)]) hx hb dX12_howManyFit_1 rfl hl (by decide) rfl (fun ls hl => ?_)
  refine lv_iconst (v := 0) hx hb dX12_howManyFit_2 (by decide) ?_
  refine lv_istore (lv' := [(4, .int (0 : Int32)), (3, .int (0 : Int32)), (0, .ref a0), (1, .int x1), (2, .int x2)]) hx hb dX12_howManyFit_3 hl (by decide) rfl (fun ls hl => ?_)
  have Lp5 : ∀ (n : Nat) (x4_5 : Int32) (x3_5 : Int32) (ls : Array Slot), (0 ≤ x4_5.toInt ∧ x4_5.toInt ≤ 2147483647) → 2147483648 - x4_5.toInt ≤ (n : Int) → lv_has ls 5 [(4, .int x4_5), (3, .int x3_5), (0, .ref a0), (1, .int x1), (2, .int x2)] → W p l e (rmU 4 0 0) s m args below meth c s.heap [] 0 0 Q (F0 m 5 ls []) := by
    intro n
    induction n with
    | zero =>
      intro x4_5 x3_5 ls j5_0 hn hl
      exact absurd hn (by omega)
    | succ n ih5 =>
      intro x4_5 x3_5 ls j5_0 hn hl
      refine lv_iload hx hb dX12_howManyFit_5 (lv_at hl 0 rfl) ?_
      refine lv_iload_n hx hb dX12_howManyFit_7 rfl (lv_at hl 3 rfl) ?_
      have r2 := i_rng x4_5
      refine lv_icmp_gt (tgt := 57) hx hb dX12_howManyFit_8 (by decide) (fun c1 => ?_) (fun c1 => ?_)
      · have b1 : x1.toInt < x4_5.toInt := i_lt.mp c1
        refine lv_iload_n hx hb dX12_howManyFit_57 rfl (lv_at hl 1 rfl) ?_
        exact retP_i hQ C hr dX12_howManyFit_58 (trivial)
      · have b1 : ¬ x1.toInt < x4_5.toInt := fun z9 => c1 (i_lt.mpr z9)
        refine lv_iload_n hx hb dX12_howManyFit_11 rfl (lv_at hl 1 rfl) ?_
        refine lv_iload hx hb dX12_howManyFit_12 (lv_at hl 0 rfl) ?_
        refine lv_iload_n hx hb dX12_howManyFit_14 rfl (lv_at hl 3 rfl) ?_
        refine lv_iconst (v := -1) hx hb dX12_howManyFit_15 (by decide) ?_
        have k_m1 : (-1 : Int32).toInt = -1 := by decide
        refine lv_ixor hx hb dX12_howManyFit_16 ?_
        refine lv_topi (fun v3 ev3 => ?_)
        refine lv_iand hx hb dX12_howManyFit_17 ?_
        have r4 := i_rng v3
        refine lv_topi (fun v5 ev5 => ?_)
        have f6 : 0 ≤ v5.toInt ∧ v5.toInt ≤ x4_5.toInt := by rw [ev5]; exact i_andl (by omega)
        have k_0 : (0 : Int32).toInt = 0 := by decide
        refine lv_if_ne (tgt := 48) hx hb dX12_howManyFit_18 (by decide) (fun c7 => ?_) (fun c7 => ?_)
        · have b7 : ¬ v5.toInt = (0 : Int32).toInt := fun z9 => c7 (i_eq.mpr z9)
          refine lv_iconst (v := 0) hx hb dX12_howManyFit_48 (by decide) ?_
          refine lv_iadd hx hb dX12_howManyFit_49 ?_
          refine lv_topi (fun v8 ev8 => ?_)
          refine lv_istore_n (lv' := [(3, .int v8), (4, .int x4_5), (0, .ref a0), (1, .int x1), (2, .int x2)]) hx hb dX12_howManyFit_50 rfl hl (by decide) rfl (fun ls hl => ?_)
          obtain ⟨v9, ev9⟩ : ∃ y : Int32, y = x4_5 + (1) := ⟨_, rfl⟩
          have k_1 : (1 : Int32).toInt = 1 := by decide
          have f10 : v9.toInt = x4_5.toInt + (1) := by rw [ev9]; exact i_addc k_1 (by omega) (by omega)
          refine lv_iinc (v := v9) (lv' := [(4, .int v9), (3, .int v8), (0, .ref a0), (1, .int x1), (2, .int x2)]) hx hb dX12_howManyFit_51 hl (k := 1) rfl (by rw [ev9]; rfl) (by decide) rfl (fun ls hl => ?_)
          refine lv_goto (tgt := 5) hx hb dX12_howManyFit_54 (by decide) ?_
          exact ih5 v9 v8 ls (by omega) (by omega) (lv_sub hl [0, 1, 2, 3, 4] rfl)
        · have b7 : v5.toInt = (0 : Int32).toInt := i_eq.mp c7
          refine lv_iload_n hx hb dX12_howManyFit_21 rfl (lv_at hl 4 rfl) ?_
          refine lv_iconst (v := -1) hx hb dX12_howManyFit_22 (by decide) ?_
          refine lv_icmp_eq (tgt := 35) hx hb dX12_howManyFit_23 (by decide) (fun c11 => ?_) (fun c11 => ?_)
          · have b11 : x2.toInt = (-1 : Int32).toInt := i_eq.mp c11
            refine lv_aload_n hx hb dX12_howManyFit_35 rfl (lv_at hl 2 rfl) ?_
            refine lv_iload hx hb dX12_howManyFit_36 (lv_at hl 0 rfl) ?_
            refine callV_Pi C hO (fun _ _ _ => rfl) (c_X12_fits l D G a0 x4_5 ga0) kV_X12_360 ga0 (hpre) dX12_howManyFit_38 hl.1 rfl rfl (by decide) cd_X12_fits ⟨Nat.le_of_ble_eq_true rfl, Nat.le_of_ble_eq_true rfl, Nat.le_of_ble_eq_true rfl, Nat.le_of_ble_eq_true rfl, Nat.le_of_ble_eq_true rfl⟩ (fun v12 q12 => ?_)
            refine lv_if_eq (tgt := 48) hx hb dX12_howManyFit_41 (by decide) (fun c13 => ?_) (fun c13 => ?_)
            · have b13 : v12.toInt = (0 : Int32).toInt := i_eq.mp c13
              refine lv_iconst (v := 0) hx hb dX12_howManyFit_48 (by decide) ?_
              refine lv_iadd hx hb dX12_howManyFit_49 ?_
              refine lv_topi (fun v14 ev14 => ?_)
              refine lv_istore_n (lv' := [(3, .int v14), (4, .int x4_5), (0, .ref a0), (1, .int x1), (2, .int x2)]) hx hb dX12_howManyFit_50 rfl hl (by decide) rfl (fun ls hl => ?_)
              obtain ⟨v15, ev15⟩ : ∃ y : Int32, y = x4_5 + (1) := ⟨_, rfl⟩
              have k_1 : (1 : Int32).toInt = 1 := by decide
              have f16 : v15.toInt = x4_5.toInt + (1) := by rw [ev15]; exact i_addc k_1 (by omega) (by omega)
              refine lv_iinc (v := v15) (lv' := [(4, .int v15), (3, .int v14), (0, .ref a0), (1, .int x1), (2, .int x2)]) hx hb dX12_howManyFit_51 hl (k := 1) rfl (by rw [ev15]; rfl) (by decide) rfl (fun ls hl => ?_)
              refine lv_goto (tgt := 5) hx hb dX12_howManyFit_54 (by decide) ?_
              exact ih5 v15 v14 ls (by omega) (by omega) (lv_sub hl [0, 1, 2, 3, 4] rfl)
            · have b13 : ¬ v12.toInt = (0 : Int32).toInt := fun z9 => c13 (i_eq.mpr z9)
              refine lv_iconst (v := 1) hx hb dX12_howManyFit_44 (by decide) ?_
              refine lv_goto (tgt := 49) hx hb dX12_howManyFit_45 (by decide) ?_
              have k_1 : (1 : Int32).toInt = 1 := by decide
              refine lv_iadd hx hb dX12_howManyFit_49 ?_
              refine lv_topi (fun v17 ev17 => ?_)
              refine lv_istore_n (lv' := [(3, .int v17), (4, .int x4_5), (0, .ref a0), (1, .int x1), (2, .int x2)]) hx hb dX12_howManyFit_50 rfl hl (by decide) rfl (fun ls hl => ?_)
              obtain ⟨v18, ev18⟩ : ∃ y : Int32, y = x4_5 + (1) := ⟨_, rfl⟩
              have f19 : v18.toInt = x4_5.toInt + (1) := by rw [ev18]; exact i_addc k_1 (by omega) (by omega)
              refine lv_iinc (v := v18) (lv' := [(4, .int v18), (3, .int v17), (0, .ref a0), (1, .int x1), (2, .int x2)]) hx hb dX12_howManyFit_51 hl (k := 1) rfl (by rw [ev18]; rfl) (by decide) rfl (fun ls hl => ?_)
              refine lv_goto (tgt := 5) hx hb dX12_howManyFit_54 (by decide) ?_
              exact ih5 v18 v17 ls (by omega) (by omega) (lv_sub hl [0, 1, 2, 3, 4] rfl)
          · have b11 : ¬ x2.toInt = (-1 : Int32).toInt := fun z9 => c11 (i_eq.mpr z9)
            refine lv_iload hx hb dX12_howManyFit_26 (lv_at hl 0 rfl) ?_
            refine lv_iload_n hx hb dX12_howManyFit_28 rfl (lv_at hl 4 rfl) ?_
            refine callS_Pi C hO (fun _ _ _ => rfl) (c_X12_has l D G x4_5 x2) kS_X12_287 (trivial) dX12_howManyFit_29 hl.1 cd_X12_has ⟨Nat.le_of_ble_eq_true rfl, Nat.le_of_ble_eq_true rfl, Nat.le_of_ble_eq_true rfl, Nat.le_of_ble_eq_true rfl, Nat.le_of_ble_eq_true rfl⟩ (fun v20 q20 => ?_)
            refine lv_if_eq (tgt := 48) hx hb dX12_howManyFit_32 (by decide) (fun c21 => ?_) (fun c21 => ?_)
            · have b21 : v20.toInt = (0 : Int32).toInt := i_eq.mp c21
              refine lv_iconst (v := 0) hx hb dX12_howManyFit_48 (by decide) ?_
              refine lv_iadd hx hb dX12_howManyFit_49 ?_
              refine lv_topi (fun v22 ev22 => ?_)
              refine lv_istore_n (lv' := [(3, .int v22), (4, .int x4_5), (0, .ref a0), (1, .int x1), (2, .int x2)]) hx hb dX12_howManyFit_50 rfl hl (by decide) rfl (fun ls hl => ?_)
              obtain ⟨v23, ev23⟩ : ∃ y : Int32, y = x4_5 + (1) := ⟨_, rfl⟩
              have k_1 : (1 : Int32).toInt = 1 := by decide
              have f24 : v23.toInt = x4_5.toInt + (1) := by rw [ev23]; exact i_addc k_1 (by omega) (by omega)
              refine lv_iinc (v := v23) (lv' := [(4, .int v23), (3, .int v22), (0, .ref a0), (1, .int x1), (2, .int x2)]) hx hb dX12_howManyFit_51 hl (k := 1) rfl (by rw [ev23]; rfl) (by decide) rfl (fun ls hl => ?_)
              refine lv_goto (tgt := 5) hx hb dX12_howManyFit_54 (by decide) ?_
              exact ih5 v23 v22 ls (by omega) (by omega) (lv_sub hl [0, 1, 2, 3, 4] rfl)
            · have b21 : ¬ v20.toInt = (0 : Int32).toInt := fun z9 => c21 (i_eq.mpr z9)
              refine lv_aload_n hx hb dX12_howManyFit_35 rfl (lv_at hl 2 rfl) ?_
              refine lv_iload hx hb dX12_howManyFit_36 (lv_at hl 0 rfl) ?_
              refine callV_Pi C hO (fun _ _ _ => rfl) (c_X12_fits l D G a0 x4_5 ga0) kV_X12_360 ga0 (hpre) dX12_howManyFit_38 hl.1 rfl rfl (by decide) cd_X12_fits ⟨Nat.le_of_ble_eq_true rfl, Nat.le_of_ble_eq_true rfl, Nat.le_of_ble_eq_true rfl, Nat.le_of_ble_eq_true rfl, Nat.le_of_ble_eq_true rfl⟩ (fun v25 q25 => ?_)
              refine lv_if_eq (tgt := 48) hx hb dX12_howManyFit_41 (by decide) (fun c26 => ?_) (fun c26 => ?_)
              · have b26 : v25.toInt = (0 : Int32).toInt := i_eq.mp c26
                refine lv_iconst (v := 0) hx hb dX12_howManyFit_48 (by decide) ?_
                refine lv_iadd hx hb dX12_howManyFit_49 ?_
                refine lv_topi (fun v27 ev27 => ?_)
                refine lv_istore_n (lv' := [(3, .int v27), (4, .int x4_5), (0, .ref a0), (1, .int x1), (2, .int x2)]) hx hb dX12_howManyFit_50 rfl hl (by decide) rfl (fun ls hl => ?_)
                obtain ⟨v28, ev28⟩ : ∃ y : Int32, y = x4_5 + (1) := ⟨_, rfl⟩
                have k_1 : (1 : Int32).toInt = 1 := by decide
                have f29 : v28.toInt = x4_5.toInt + (1) := by rw [ev28]; exact i_addc k_1 (by omega) (by omega)
                refine lv_iinc (v := v28) (lv' := [(4, .int v28), (3, .int v27), (0, .ref a0), (1, .int x1), (2, .int x2)]) hx hb dX12_howManyFit_51 hl (k := 1) rfl (by rw [ev28]; rfl) (by decide) rfl (fun ls hl => ?_)
                refine lv_goto (tgt := 5) hx hb dX12_howManyFit_54 (by decide) ?_
                exact ih5 v28 v27 ls (by omega) (by omega) (lv_sub hl [0, 1, 2, 3, 4] rfl)
              · have b26 : ¬ v25.toInt = (0 : Int32).toInt := fun z9 => c26 (i_eq.mpr z9)
                refine lv_iconst (v := 1) hx hb dX12_howManyFit_44 (by decide) ?_
                refine lv_goto (tgt := 49) hx hb dX12_howManyFit_45 (by decide) ?_
                have k_1 : (1 : Int32).toInt = 1 := by decide
                refine lv_iadd hx hb dX12_howManyFit_49 ?_
                refine lv_topi (fun v30 ev30 => ?_)
                refine lv_istore_n (lv' := [(3, .int v30), (4, .int x4_5), (0, .ref a0), (1, .int x1), (2, .int x2)]) hx hb dX12_howManyFit_50 rfl hl (by decide) rfl (fun ls hl => ?_)
                obtain ⟨v31, ev31⟩ : ∃ y : Int32, y = x4_5 + (1) := ⟨_, rfl⟩
                have f32 : v31.toInt = x4_5.toInt + (1) := by rw [ev31]; exact i_addc k_1 (by omega) (by omega)
                refine lv_iinc (v := v31) (lv' := [(4, .int v31), (3, .int v30), (0, .ref a0), (1, .int x1), (2, .int x2)]) hx hb dX12_howManyFit_51 hl (k := 1) rfl (by rw [ev31]; rfl) (by decide) rfl (fun ls hl => ?_)
                refine lv_goto (tgt := 5) hx hb dX12_howManyFit_54 (by decide) ?_
                exact ih5 v31 v30 ls (by omega) (by omega) (lv_sub hl [0, 1, 2, 3, 4] rfl)
  have k_0 : (0 : Int32).toInt = 0 := by decide
  exact Lp5 2147483648 (0 : Int32) (0 : Int32) ls (by omega)  (by omega) (lv_sub hl [0, 1, 2, 3, 4] rfl)

set_option maxRecDepth 100000 in
set_option maxHeartbeats 4000000 in
theorem c_X12_smokes (l : Launch) (D : DD) (G : Nat → Nat) (a0 : Nat) (x1 : Int32) (x2 : Int32) (ga0 : G a0 = 30) (ix2 : 0 ≤ x2.toInt ∧ x2.toInt ≤ 1) : CE l D G yX12_smokes cX12_smokes 6 (some .int) 5 [.ref a0, .int x1, .int x2] (fun _ => True) [(30, 0), (30, 9), (30, 10), (30, 11)] (xI (fun H r H1 => (fI D H1 11 a0 9).toInt = 0)) := by
  refine enter (by decide) (Nat.le_of_ble_eq_true rfl) ?_
  intro p e s m args below meth c ls Q hA hQ C hr hO hpre hl
  have hx := C.1
  have hb := C.2.1
  have S : Sd D G [(30, 0), (30, 9), (30, 10), (30, 11)] s.heap s.heap [] := Sd.start hO
  have hl : lv_has ls 6 [(0, .ref a0), (1, .int x1), (2, .int x2)] := hl
  refine lv_aload_n hx hb dX12_smokes_0 rfl (lv_at hl 0 rfl) ?_
  refine callV_Ev C S (c_X12_uses l D G a0 ga0) kV_X12_235 ga0 (trivial) (by decide +kernel) dX12_smokes_1 hl.1 rfl rfl (by decide) cd_X12_uses ⟨Nat.le_of_ble_eq_true rfl, Nat.le_of_ble_eq_true rfl, Nat.le_of_ble_eq_true rfl, Nat.le_of_ble_eq_true rfl, Nat.le_of_ble_eq_true rfl⟩ (fun H1 L1 S1 K1 q1 => ?_)
  have tz : (fI D H1 11 a0 9).toInt = 0 := q1.1
  refine lv_aload_n hx hb dX12_smokes_4 rfl (lv_at hl 0 rfl) ?_
  refine lv_aload_n hx hb dX12_smokes_5 rfl (lv_at hl 0 rfl) ?_
  refine lv_iload_n hx hb dX12_smokes_6 rfl (lv_at hl 1 rfl) ?_
  refine callV_Pi C S1.1 S1.2.1.2.1 (c_X12_noHouse l D G a0 x1 ga0) kV_X12_299 ga0 (trivial) dX12_smokes_7 hl.1 rfl rfl (by decide) cd_X12_noHouse ⟨Nat.le_of_ble_eq_true rfl, Nat.le_of_ble_eq_true rfl, Nat.le_of_ble_eq_true rfl, Nat.le_of_ble_eq_true rfl, Nat.le_of_ble_eq_true rfl⟩ (fun v2 q2 => ?_)
  rcases q2 with q2 | q2
  · skip
    refine lv_iconst (v := 1) hx hb dX12_smokes_10 (by decide) ?_
    have k_1 : (1 : Int32).toInt = 1 := by decide
    refine callV_Ei C S1 (c_X12_throwsIf l D G a0 v2 (1 : Int32) ga0 (by omega)) kV_X12_246 ga0 (trivial) (by decide +kernel) dX12_smokes_11 hl.1 rfl rfl (by decide) cd_X12_throwsIf ⟨Nat.le_of_ble_eq_true rfl, Nat.le_of_ble_eq_true rfl, Nat.le_of_ble_eq_true rfl, Nat.le_of_ble_eq_true rfl, Nat.le_of_ble_eq_true rfl⟩ (fun v3 H3 L3 S3 K3 q3 => ?_)
    have tz : (fI D H3 11 a0 9).toInt = 0 := by rw [K3.fI ga0 rfl (by decide) (by decide +kernel)]; exact tz
    have e11 := congrArg Int32.toInt (K3.fI (k := 11) ga0 rfl (by decide) (by decide +kernel))
    have k_0 : (0 : Int32).toInt = 0 := by decide
    refine lv_if_ne (tgt := 37) hx hb dX12_smokes_14 (by decide) (fun c4 => ?_) (fun c4 => ?_)
    · have b4 : ¬ v3.toInt = (0 : Int32).toInt := fun z9 => c4 (i_eq.mpr z9)
      exact absurd b4 (by omega)
    · have b4 : v3.toInt = (0 : Int32).toInt := i_eq.mp c4
      refine lv_aload_n hx hb dX12_smokes_17 rfl (lv_at hl 0 rfl) ?_
      refine lv_aload_n hx hb dX12_smokes_18 rfl (lv_at hl 0 rfl) ?_
      refine callV_Pi C S3.1 S3.2.1.2.1 (c_X12_isTold l D G a0 ga0) kV_X12_363 ga0 (trivial) dX12_smokes_19 hl.1 rfl rfl (by decide) cd_X12_isTold ⟨Nat.le_of_ble_eq_true rfl, Nat.le_of_ble_eq_true rfl, Nat.le_of_ble_eq_true rfl, Nat.le_of_ble_eq_true rfl, Nat.le_of_ble_eq_true rfl⟩ (fun v5 q5 => ?_)
      rcases q5 with q5 | q5
      · skip
        refine lv_if_ne (tgt := 29) hx hb dX12_smokes_22 (by decide) (fun c6 => ?_) (fun c6 => ?_)
        · have b6 : ¬ v5.toInt = (0 : Int32).toInt := fun z9 => c6 (i_eq.mpr z9)
          refine lv_iconst (v := 0) hx hb dX12_smokes_29 (by decide) ?_
          refine lv_iconst (v := 2) hx hb dX12_smokes_30 (by decide) ?_
          have k_2 : (2 : Int32).toInt = 2 := by decide
          refine callV_Ei C S3 (c_X12_throwsIf l D G a0 (0 : Int32) (2 : Int32) ga0 (by omega)) kV_X12_246 ga0 (trivial) (by decide +kernel) dX12_smokes_31 hl.1 rfl rfl (by decide) cd_X12_throwsIf ⟨Nat.le_of_ble_eq_true rfl, Nat.le_of_ble_eq_true rfl, Nat.le_of_ble_eq_true rfl, Nat.le_of_ble_eq_true rfl, Nat.le_of_ble_eq_true rfl⟩ (fun v7 H7 L7 S7 K7 q7 => ?_)
          have tz : (fI D H7 11 a0 9).toInt = 0 := by rw [K7.fI ga0 rfl (by decide) (by decide +kernel)]; exact tz
          have e11 := congrArg Int32.toInt (K7.fI (k := 11) ga0 rfl (by decide) (by decide +kernel))
          refine lv_if_eq (tgt := 39) hx hb dX12_smokes_34 (by decide) (fun c8 => ?_) (fun c8 => ?_)
          · have b8 : v7.toInt = (0 : Int32).toInt := i_eq.mp c8
            refine lv_aload_n hx hb dX12_smokes_39 rfl (lv_at hl 0 rfl) ?_
            refine lv_iload_n hx hb dX12_smokes_40 rfl (lv_at hl 1 rfl) ?_
            refine callV_Pi C S7.1 S7.2.1.2.1 (c_X12_hearthsOf l D G a0 x1 ga0) kV_X12_138 ga0 (trivial) dX12_smokes_41 hl.1 rfl rfl (by decide) cd_X12_hearthsOf ⟨Nat.le_of_ble_eq_true rfl, Nat.le_of_ble_eq_true rfl, Nat.le_of_ble_eq_true rfl, Nat.le_of_ble_eq_true rfl, Nat.le_of_ble_eq_true rfl⟩ (fun v9 q9 => ?_)
            refine lv_istore_n (lv' := [(3, .int v9), (0, .ref a0), (1, .int x1), (2, .int x2)]) hx hb dX12_smokes_44 rfl hl (by decide) rfl (fun ls hl => ?_)
            refine lv_iload_n hx hb dX12_smokes_45 rfl (lv_at hl 3 rfl) ?_
            refine lv_if_ne (tgt := 56) hx hb dX12_smokes_46 (by decide) (fun c10 => ?_) (fun c10 => ?_)
            · have b10 : ¬ x2.toInt = (0 : Int32).toInt := fun z9 => c10 (i_eq.mpr z9)
              refine lv_ldcw hx hb C.2.2.2.1 (C.2.2.2.2.1 _ kC_X12_369) dX12_smokes_56 ?_
              refine lv_istore (lv' := [(4, .int (1000000 : Int32)), (3, .int v9), (0, .ref a0), (1, .int x1), (2, .int x2)]) hx hb dX12_smokes_59 hl (by decide) rfl (fun ls hl => ?_)
              refine lv_iconst (v := 0) hx hb dX12_smokes_61 (by decide) ?_
              refine lv_istore (lv' := [(5, .int (0 : Int32)), (4, .int (1000000 : Int32)), (3, .int v9), (0, .ref a0), (1, .int x1), (2, .int x2)]) hx hb dX12_smokes_62 hl (by decide) rfl (fun ls hl => ?_)
              have Lp64 : ∀ (n : Nat) (x5_64 : Int32) (x4_64 : Int32) (ls : Array Slot), (0 ≤ x5_64.toInt ∧ x5_64.toInt ≤ 2147483647) → 2147483648 - x5_64.toInt ≤ (n : Int) → lv_has ls 6 [(5, .int x5_64), (4, .int x4_64), (3, .int v9), (0, .ref a0)] → W p l e (rmU 5 0 0) s m args below meth c H7 L7 0 0 Q (F0 m 64 ls []) := by
                intro n
                induction n with
                | zero =>
                  intro x5_64 x4_64 ls j64_0 hn hl
                  exact absurd hn (by omega)
                | succ n ih64 =>
                  intro x5_64 x4_64 ls j64_0 hn hl
                  refine lv_iload hx hb dX12_smokes_64 (lv_at hl 0 rfl) ?_
                  refine lv_iload_n hx hb dX12_smokes_66 rfl (lv_at hl 2 rfl) ?_
                  have r12 := i_rng x5_64
                  refine lv_icmp_gt (tgt := 111) hx hb dX12_smokes_67 (by decide) (fun c11 => ?_) (fun c11 => ?_)
                  · have b11 : v9.toInt < x5_64.toInt := i_lt.mp c11
                    refine lv_iload hx hb dX12_smokes_111 (lv_at hl 1 rfl) ?_
                    refine lv_ldcw hx hb C.2.2.2.1 (C.2.2.2.2.1 _ kC_X12_369) dX12_smokes_113 ?_
                    have k_1000000 : (1000000 : Int32).toInt = 1000000 := by decide
                    refine lv_icmp_ne (tgt := 123) hx hb dX12_smokes_116 (by decide) (fun c13 => ?_) (fun c13 => ?_)
                    · have b13 : ¬ x4_64.toInt = (1000000 : Int32).toInt := fun z9 => c13 (i_eq.mpr z9)
                      refine lv_iload hx hb dX12_smokes_123 (lv_at hl 1 rfl) ?_
                      exact retE_i hQ C S7 hr dX12_smokes_125 (tz)
                    · have b13 : x4_64.toInt = (1000000 : Int32).toInt := i_eq.mp c13
                      refine lv_iconst (v := -1) hx hb dX12_smokes_119 (by decide) ?_
                      refine lv_goto (tgt := 125) hx hb dX12_smokes_120 (by decide) ?_
                      have k_m1 : (-1 : Int32).toInt = -1 := by decide
                      exact retE_i hQ C S7 hr dX12_smokes_125 (tz)
                  · have b11 : ¬ v9.toInt < x5_64.toInt := fun z9 => c11 (i_lt.mpr z9)
                    refine lv_iload hx hb dX12_smokes_70 (lv_at hl 0 rfl) ?_
                    refine lv_iload_n hx hb dX12_smokes_72 rfl (lv_at hl 2 rfl) ?_
                    refine lv_iconst (v := -1) hx hb dX12_smokes_73 (by decide) ?_
                    have k_m1 : (-1 : Int32).toInt = -1 := by decide
                    refine lv_ixor hx hb dX12_smokes_74 ?_
                    refine lv_topi (fun v14 ev14 => ?_)
                    refine lv_iand hx hb dX12_smokes_75 ?_
                    have r15 := i_rng v14
                    refine lv_topi (fun v16 ev16 => ?_)
                    have f17 : 0 ≤ v16.toInt ∧ v16.toInt ≤ x5_64.toInt := by rw [ev16]; exact i_andl (by omega)
                    refine lv_if_ne (tgt := 101) hx hb dX12_smokes_76 (by decide) (fun c18 => ?_) (fun c18 => ?_)
                    · have b18 : ¬ v16.toInt = (0 : Int32).toInt := fun z9 => c18 (i_eq.mpr z9)
                      refine lv_iload hx hb dX12_smokes_101 (lv_at hl 1 rfl) ?_
                      refine lv_istore (lv' := [(4, .int x4_64), (5, .int x5_64), (3, .int v9), (0, .ref a0)]) hx hb dX12_smokes_103 hl (by decide) rfl (fun ls hl => ?_)
                      obtain ⟨v19, ev19⟩ : ∃ y : Int32, y = x5_64 + (1) := ⟨_, rfl⟩
                      have f20 : v19.toInt = x5_64.toInt + (1) := by rw [ev19]; exact i_addc k_1 (by omega) (by omega)
                      refine lv_iinc (v := v19) (lv' := [(5, .int v19), (4, .int x4_64), (3, .int v9), (0, .ref a0)]) hx hb dX12_smokes_105 hl (k := 1) rfl (by rw [ev19]; rfl) (by decide) rfl (fun ls hl => ?_)
                      refine lv_goto (tgt := 64) hx hb dX12_smokes_108 (by decide) ?_
                      exact ih64 v19 x4_64 ls (by omega) (by omega) (lv_sub hl [0, 1, 2, 3] rfl)
                    · have b18 : v16.toInt = (0 : Int32).toInt := i_eq.mp c18
                      refine lv_aload_n hx hb dX12_smokes_79 rfl (lv_at hl 3 rfl) ?_
                      refine lv_iload hx hb dX12_smokes_80 (lv_at hl 0 rfl) ?_
                      refine callV_Pi C S7.1 S7.2.1.2.1 (c_X12_fits l D G a0 x5_64 ga0) kV_X12_360 ga0 (by omega) dX12_smokes_82 hl.1 rfl rfl (by decide) cd_X12_fits ⟨Nat.le_of_ble_eq_true rfl, Nat.le_of_ble_eq_true rfl, Nat.le_of_ble_eq_true rfl, Nat.le_of_ble_eq_true rfl, Nat.le_of_ble_eq_true rfl⟩ (fun v21 q21 => ?_)
                      refine lv_if_eq (tgt := 101) hx hb dX12_smokes_85 (by decide) (fun c22 => ?_) (fun c22 => ?_)
                      · have b22 : v21.toInt = (0 : Int32).toInt := i_eq.mp c22
                        refine lv_iload hx hb dX12_smokes_101 (lv_at hl 1 rfl) ?_
                        refine lv_istore (lv' := [(4, .int x4_64), (5, .int x5_64), (3, .int v9), (0, .ref a0)]) hx hb dX12_smokes_103 hl (by decide) rfl (fun ls hl => ?_)
                        obtain ⟨v23, ev23⟩ : ∃ y : Int32, y = x5_64 + (1) := ⟨_, rfl⟩
                        have f24 : v23.toInt = x5_64.toInt + (1) := by rw [ev23]; exact i_addc k_1 (by omega) (by omega)
                        refine lv_iinc (v := v23) (lv' := [(5, .int v23), (4, .int x4_64), (3, .int v9), (0, .ref a0)]) hx hb dX12_smokes_105 hl (k := 1) rfl (by rw [ev23]; rfl) (by decide) rfl (fun ls hl => ?_)
                        refine lv_goto (tgt := 64) hx hb dX12_smokes_108 (by decide) ?_
                        exact ih64 v23 x4_64 ls (by omega) (by omega) (lv_sub hl [0, 1, 2, 3] rfl)
                      · have b22 : ¬ v21.toInt = (0 : Int32).toInt := fun z9 => c22 (i_eq.mpr z9)
                        refine lv_iload hx hb dX12_smokes_88 (lv_at hl 1 rfl) ?_
                        refine lv_iload hx hb dX12_smokes_90 (lv_at hl 0 rfl) ?_
                        refine callS_Pi C S7.1 S7.2.1.2.1 (c_J6_bitCount_0f7a4 l D G x5_64) kS_X12_142 (trivial) dX12_smokes_92 hl.1 cd_J6_bitCount_0f7a4 ⟨Nat.le_of_ble_eq_true rfl, Nat.le_of_ble_eq_true rfl, Nat.le_of_ble_eq_true rfl, Nat.le_of_ble_eq_true rfl, Nat.le_of_ble_eq_true rfl⟩ (fun v25 q25 => ?_)
                        refine q_min C kN_X12_270 dX12_smokes_95 hl.1 ⟨Nat.le_of_ble_eq_true rfl, Nat.le_of_ble_eq_true rfl, Nat.le_of_ble_eq_true rfl, Nat.le_of_ble_eq_true rfl⟩ (fun v26 fv26 => ?_)
                        refine lv_goto (tgt := 103) hx hb dX12_smokes_98 (by decide) ?_
                        refine lv_istore (lv' := [(4, .int v26), (5, .int x5_64), (3, .int v9), (0, .ref a0)]) hx hb dX12_smokes_103 hl (by decide) rfl (fun ls hl => ?_)
                        obtain ⟨v27, ev27⟩ : ∃ y : Int32, y = x5_64 + (1) := ⟨_, rfl⟩
                        have f28 : v27.toInt = x5_64.toInt + (1) := by rw [ev27]; exact i_addc k_1 (by omega) (by omega)
                        refine lv_iinc (v := v27) (lv' := [(5, .int v27), (4, .int v26), (3, .int v9), (0, .ref a0)]) hx hb dX12_smokes_105 hl (k := 1) rfl (by rw [ev27]; rfl) (by decide) rfl (fun ls hl => ?_)
                        refine lv_goto (tgt := 64) hx hb dX12_smokes_108 (by decide) ?_
                        exact ih64 v27 v26 ls (by omega) (by omega) (lv_sub hl [0, 1, 2, 3] rfl)
              have k_1000000 : (1000000 : Int32).toInt = 1000000 := by decide
              exact Lp64 2147483648 (0 : Int32) (1000000 : Int32) ls (by omega)  (by omega) (lv_sub hl [0, 1, 2, 3] rfl)
            · have b10 : x2.toInt = (0 : Int32).toInt := i_eq.mp c10
              refine lv_aload_n hx hb dX12_smokes_49 rfl (lv_at hl 1 rfl) ?_
              refine lv_iload_n hx hb dX12_smokes_50 rfl (lv_at hl 0 rfl) ?_
              refine lv_iconst (v := -1) hx hb dX12_smokes_51 (by decide) ?_
              have k_m1 : (-1 : Int32).toInt = -1 := by decide
              refine callV_Pi C S7.1 S7.2.1.2.1 (c_X12_howManyFit l D G a0 v9 (-1 : Int32) ga0 (by omega)) kV_X12_366 ga0 (by omega) dX12_smokes_52 hl.1 rfl rfl (by decide) cd_X12_howManyFit ⟨Nat.le_of_ble_eq_true rfl, Nat.le_of_ble_eq_true rfl, Nat.le_of_ble_eq_true rfl, Nat.le_of_ble_eq_true rfl, Nat.le_of_ble_eq_true rfl⟩ (fun v29 q29 => ?_)
              exact retE_i hQ C S7 hr dX12_smokes_55 (tz)
          · have b8 : ¬ v7.toInt = (0 : Int32).toInt := fun z9 => c8 (i_eq.mpr z9)
            exact absurd b8 (by omega)
        · have b6 : v5.toInt = (0 : Int32).toInt := i_eq.mp c6
          exact absurd b6 (by omega)
      · skip
        refine lv_if_ne (tgt := 29) hx hb dX12_smokes_22 (by decide) (fun c30 => ?_) (fun c30 => ?_)
        · have b30 : ¬ v5.toInt = (0 : Int32).toInt := fun z9 => c30 (i_eq.mpr z9)
          exact absurd b30 (by omega)
        · have b30 : v5.toInt = (0 : Int32).toInt := i_eq.mp c30
          refine lv_iconst (v := 1) hx hb dX12_smokes_25 (by decide) ?_
          refine lv_goto (tgt := 30) hx hb dX12_smokes_26 (by decide) ?_
          refine lv_iconst (v := 2) hx hb dX12_smokes_30 (by decide) ?_
          have k_2 : (2 : Int32).toInt = 2 := by decide
          refine callV_Ei C S3 (c_X12_throwsIf l D G a0 (1 : Int32) (2 : Int32) ga0 (by omega)) kV_X12_246 ga0 (trivial) (by decide +kernel) dX12_smokes_31 hl.1 rfl rfl (by decide) cd_X12_throwsIf ⟨Nat.le_of_ble_eq_true rfl, Nat.le_of_ble_eq_true rfl, Nat.le_of_ble_eq_true rfl, Nat.le_of_ble_eq_true rfl, Nat.le_of_ble_eq_true rfl⟩ (fun v31 H31 L31 S31 K31 q31 => ?_)
          have tz : (fI D H31 11 a0 9).toInt = 0 := by rw [K31.fI ga0 rfl (by decide) (by decide +kernel)]; exact tz
          have e11 := congrArg Int32.toInt (K31.fI (k := 11) ga0 rfl (by decide) (by decide +kernel))
          refine lv_if_eq (tgt := 39) hx hb dX12_smokes_34 (by decide) (fun c32 => ?_) (fun c32 => ?_)
          · have b32 : v31.toInt = (0 : Int32).toInt := i_eq.mp c32
            exact absurd b32 (by omega)
          · have b32 : ¬ v31.toInt = (0 : Int32).toInt := fun z9 => c32 (i_eq.mpr z9)
            refine lv_iconst (v := 0) hx hb dX12_smokes_37 (by decide) ?_
            exact retE_i hQ C S31 hr dX12_smokes_38 (tz)
  · skip
    refine lv_iconst (v := 1) hx hb dX12_smokes_10 (by decide) ?_
    have k_1 : (1 : Int32).toInt = 1 := by decide
    refine callV_Ei C S1 (c_X12_throwsIf l D G a0 v2 (1 : Int32) ga0 (by omega)) kV_X12_246 ga0 (trivial) (by decide +kernel) dX12_smokes_11 hl.1 rfl rfl (by decide) cd_X12_throwsIf ⟨Nat.le_of_ble_eq_true rfl, Nat.le_of_ble_eq_true rfl, Nat.le_of_ble_eq_true rfl, Nat.le_of_ble_eq_true rfl, Nat.le_of_ble_eq_true rfl⟩ (fun v33 H33 L33 S33 K33 q33 => ?_)
    have tz : (fI D H33 11 a0 9).toInt = 0 := by rw [K33.fI ga0 rfl (by decide) (by decide +kernel)]; exact tz
    have e11 := congrArg Int32.toInt (K33.fI (k := 11) ga0 rfl (by decide) (by decide +kernel))
    have k_0 : (0 : Int32).toInt = 0 := by decide
    refine lv_if_ne (tgt := 37) hx hb dX12_smokes_14 (by decide) (fun c34 => ?_) (fun c34 => ?_)
    · have b34 : ¬ v33.toInt = (0 : Int32).toInt := fun z9 => c34 (i_eq.mpr z9)
      refine lv_iconst (v := 0) hx hb dX12_smokes_37 (by decide) ?_
      exact retE_i hQ C S33 hr dX12_smokes_38 (tz)
    · have b34 : v33.toInt = (0 : Int32).toInt := i_eq.mp c34
      exact absurd b34 (by omega)

set_option maxRecDepth 100000 in
set_option maxHeartbeats 4000000 in
theorem c_X12_look (l : Launch) (D : DD) (G : Nat → Nat) (a0 : Nat) (x1 : Int32) (ga0 : G a0 = 30) : CE l D G yX12_look cX12_look 9 (some .int) 5 [.ref a0, .int x1] (fun _ => True) [(30, 0), (30, 9), (30, 10), (30, 11)] (xI (fun H r H1 => (fI D H1 11 a0 9).toInt = 0)) := by
  refine enter (by decide) (Nat.le_of_ble_eq_true rfl) ?_
  intro p e s m args below meth c ls Q hA hQ C hr hO hpre hl
  have hx := C.1
  have hb := C.2.1
  have S : Sd D G [(30, 0), (30, 9), (30, 10), (30, 11)] s.heap s.heap [] := Sd.start hO
  have hl : lv_has ls 9 [(0, .ref a0), (1, .int x1)] := hl
  refine lv_aload_n hx hb dX12_look_0 rfl (lv_at hl 0 rfl) ?_
  refine callV_Ev C S (c_X12_uses l D G a0 ga0) kV_X12_235 ga0 (trivial) (by decide +kernel) dX12_look_1 hl.1 rfl rfl (by decide) cd_X12_uses ⟨Nat.le_of_ble_eq_true rfl, Nat.le_of_ble_eq_true rfl, Nat.le_of_ble_eq_true rfl, Nat.le_of_ble_eq_true rfl, Nat.le_of_ble_eq_true rfl⟩ (fun H1 L1 S1 K1 q1 => ?_)
  have tz : (fI D H1 11 a0 9).toInt = 0 := q1.1
  refine lv_aload_n hx hb dX12_look_4 rfl (lv_at hl 0 rfl) ?_
  refine lv_aload_n hx hb dX12_look_5 rfl (lv_at hl 0 rfl) ?_
  refine lv_iload_n hx hb dX12_look_6 rfl (lv_at hl 1 rfl) ?_
  refine callV_Pi C S1.1 S1.2.1.2.1 (c_X12_noHouse l D G a0 x1 ga0) kV_X12_299 ga0 (trivial) dX12_look_7 hl.1 rfl rfl (by decide) cd_X12_noHouse ⟨Nat.le_of_ble_eq_true rfl, Nat.le_of_ble_eq_true rfl, Nat.le_of_ble_eq_true rfl, Nat.le_of_ble_eq_true rfl, Nat.le_of_ble_eq_true rfl⟩ (fun v2 q2 => ?_)
  rcases q2 with q2 | q2
  · skip
    refine lv_iconst (v := 1) hx hb dX12_look_10 (by decide) ?_
    have k_1 : (1 : Int32).toInt = 1 := by decide
    refine callV_Ei C S1 (c_X12_throwsIf l D G a0 v2 (1 : Int32) ga0 (by omega)) kV_X12_246 ga0 (trivial) (by decide +kernel) dX12_look_11 hl.1 rfl rfl (by decide) cd_X12_throwsIf ⟨Nat.le_of_ble_eq_true rfl, Nat.le_of_ble_eq_true rfl, Nat.le_of_ble_eq_true rfl, Nat.le_of_ble_eq_true rfl, Nat.le_of_ble_eq_true rfl⟩ (fun v3 H3 L3 S3 K3 q3 => ?_)
    have tz : (fI D H3 11 a0 9).toInt = 0 := by rw [K3.fI ga0 rfl (by decide) (by decide +kernel)]; exact tz
    have e11 := congrArg Int32.toInt (K3.fI (k := 11) ga0 rfl (by decide) (by decide +kernel))
    have k_0 : (0 : Int32).toInt = 0 := by decide
    refine lv_if_ne (tgt := 37) hx hb dX12_look_14 (by decide) (fun c4 => ?_) (fun c4 => ?_)
    · have b4 : ¬ v3.toInt = (0 : Int32).toInt := fun z9 => c4 (i_eq.mpr z9)
      exact absurd b4 (by omega)
    · have b4 : v3.toInt = (0 : Int32).toInt := i_eq.mp c4
      refine lv_aload_n hx hb dX12_look_17 rfl (lv_at hl 0 rfl) ?_
      refine lv_aload_n hx hb dX12_look_18 rfl (lv_at hl 0 rfl) ?_
      refine callV_Pi C S3.1 S3.2.1.2.1 (c_X12_isTold l D G a0 ga0) kV_X12_363 ga0 (trivial) dX12_look_19 hl.1 rfl rfl (by decide) cd_X12_isTold ⟨Nat.le_of_ble_eq_true rfl, Nat.le_of_ble_eq_true rfl, Nat.le_of_ble_eq_true rfl, Nat.le_of_ble_eq_true rfl, Nat.le_of_ble_eq_true rfl⟩ (fun v5 q5 => ?_)
      rcases q5 with q5 | q5
      · skip
        refine lv_if_ne (tgt := 29) hx hb dX12_look_22 (by decide) (fun c6 => ?_) (fun c6 => ?_)
        · have b6 : ¬ v5.toInt = (0 : Int32).toInt := fun z9 => c6 (i_eq.mpr z9)
          refine lv_iconst (v := 0) hx hb dX12_look_29 (by decide) ?_
          refine lv_iconst (v := 2) hx hb dX12_look_30 (by decide) ?_
          have k_2 : (2 : Int32).toInt = 2 := by decide
          refine callV_Ei C S3 (c_X12_throwsIf l D G a0 (0 : Int32) (2 : Int32) ga0 (by omega)) kV_X12_246 ga0 (trivial) (by decide +kernel) dX12_look_31 hl.1 rfl rfl (by decide) cd_X12_throwsIf ⟨Nat.le_of_ble_eq_true rfl, Nat.le_of_ble_eq_true rfl, Nat.le_of_ble_eq_true rfl, Nat.le_of_ble_eq_true rfl, Nat.le_of_ble_eq_true rfl⟩ (fun v7 H7 L7 S7 K7 q7 => ?_)
          have tz : (fI D H7 11 a0 9).toInt = 0 := by rw [K7.fI ga0 rfl (by decide) (by decide +kernel)]; exact tz
          have e11 := congrArg Int32.toInt (K7.fI (k := 11) ga0 rfl (by decide) (by decide +kernel))
          refine lv_if_eq (tgt := 39) hx hb dX12_look_34 (by decide) (fun c8 => ?_) (fun c8 => ?_)
          · have b8 : v7.toInt = (0 : Int32).toInt := i_eq.mp c8
            refine lv_aload_n hx hb dX12_look_39 rfl (lv_at hl 0 rfl) ?_
            refine lv_iload_n hx hb dX12_look_40 rfl (lv_at hl 1 rfl) ?_
            refine callV_Pi C S7.1 S7.2.1.2.1 (c_X12_hearthsOf l D G a0 x1 ga0) kV_X12_138 ga0 (trivial) dX12_look_41 hl.1 rfl rfl (by decide) cd_X12_hearthsOf ⟨Nat.le_of_ble_eq_true rfl, Nat.le_of_ble_eq_true rfl, Nat.le_of_ble_eq_true rfl, Nat.le_of_ble_eq_true rfl, Nat.le_of_ble_eq_true rfl⟩ (fun v9 q9 => ?_)
            refine lv_istore_n (lv' := [(2, .int v9), (0, .ref a0), (1, .int x1)]) hx hb dX12_look_44 rfl hl (by decide) rfl (fun ls hl => ?_)
            refine lv_aload_n hx hb dX12_look_45 rfl (lv_at hl 1 rfl) ?_
            refine lv_iload_n hx hb dX12_look_46 rfl (lv_at hl 0 rfl) ?_
            refine lv_iconst (v := -1) hx hb dX12_look_47 (by decide) ?_
            have k_m1 : (-1 : Int32).toInt = -1 := by decide
            refine callV_Pi C S7.1 S7.2.1.2.1 (c_X12_howManyFit l D G a0 v9 (-1 : Int32) ga0 (by omega)) kV_X12_366 ga0 (by omega) dX12_look_48 hl.1 rfl rfl (by decide) cd_X12_howManyFit ⟨Nat.le_of_ble_eq_true rfl, Nat.le_of_ble_eq_true rfl, Nat.le_of_ble_eq_true rfl, Nat.le_of_ble_eq_true rfl, Nat.le_of_ble_eq_true rfl⟩ (fun v10 q10 => ?_)
            refine lv_istore_n (lv' := [(3, .int v10), (2, .int v9), (0, .ref a0), (1, .int x1)]) hx hb dX12_look_51 rfl hl (by decide) rfl (fun ls hl => ?_)
            refine lv_iconst (v := -1) hx hb dX12_look_52 (by decide) ?_
            refine lv_istore (lv' := [(4, .int (-1 : Int32)), (3, .int v10), (2, .int v9), (0, .ref a0), (1, .int x1)]) hx hb dX12_look_53 hl (by decide) rfl (fun ls hl => ?_)
            refine lv_iload_n hx hb dX12_look_55 rfl (lv_at hl 1 rfl) ?_
            refine lv_istore (lv' := [(5, .int v10), (4, .int (-1 : Int32)), (3, .int v10), (2, .int v9), (0, .ref a0), (1, .int x1)]) hx hb dX12_look_56 hl (by decide) rfl (fun ls hl => ?_)
            refine lv_iconst (v := 0) hx hb dX12_look_58 (by decide) ?_
            refine lv_istore (lv' := [(6, .int (0 : Int32)), (5, .int v10), (4, .int (-1 : Int32)), (3, .int v10), (2, .int v9), (0, .ref a0), (1, .int x1)]) hx hb dX12_look_59 hl (by decide) rfl (fun ls hl => ?_)
            have Lp61 : ∀ (n : Nat) (x6_61 : Int32) (x5_61 : Int32) (x4_61 : Int32) (ls : Array Slot), (0 ≤ x6_61.toInt ∧ x6_61.toInt ≤ 2147483647) → 2147483648 - x6_61.toInt ≤ (n : Int) → lv_has ls 9 [(6, .int x6_61), (5, .int x5_61), (4, .int x4_61), (3, .int v10), (2, .int v9), (0, .ref a0)] → W p l e (rmU 5 0 0) s m args below meth c H7 L7 0 0 Q (F0 m 61 ls []) := by
              intro n
              induction n with
              | zero =>
                intro x6_61 x5_61 x4_61 ls j61_0 hn hl
                exact absurd hn (by omega)
              | succ n ih61 =>
                intro x6_61 x5_61 x4_61 ls j61_0 hn hl
                refine lv_iload hx hb dX12_look_61 (lv_at hl 0 rfl) ?_
                refine lv_aload_n hx hb dX12_look_63 rfl (lv_at hl 5 rfl) ?_
                refine callV_Pi C S7.1 S7.2.1.2.1 (c_X12_hearths l D G a0 ga0) kV_X12_67 ga0 (trivial) dX12_look_64 hl.1 rfl rfl (by decide) cd_X12_hearths ⟨Nat.le_of_ble_eq_true rfl, Nat.le_of_ble_eq_true rfl, Nat.le_of_ble_eq_true rfl, Nat.le_of_ble_eq_true rfl, Nat.le_of_ble_eq_true rfl⟩ (fun v11 q11 => ?_)
                have r13 := i_rng x6_61
                refine lv_icmp_ge (tgt := 133) hx hb dX12_look_67 (by decide) (fun c12 => ?_) (fun c12 => ?_)
                · have b12 : v11.toInt ≤ x6_61.toInt := i_le.mp c12
                  refine lv_iload hx hb dX12_look_133 (lv_at hl 2 rfl) ?_
                  exact retE_i hQ C S7 hr dX12_look_135 (tz)
                · have b12 : ¬ v11.toInt ≤ x6_61.toInt := fun z9 => c12 (i_le.mpr z9)
                  refine lv_iload_n hx hb dX12_look_70 rfl (lv_at hl 4 rfl) ?_
                  refine lv_iload hx hb dX12_look_71 (lv_at hl 0 rfl) ?_
                  refine callS_Pi C S7.1 S7.2.1.2.1 (c_X12_has l D G v9 x6_61) kS_X12_287 (trivial) dX12_look_73 hl.1 cd_X12_has ⟨Nat.le_of_ble_eq_true rfl, Nat.le_of_ble_eq_true rfl, Nat.le_of_ble_eq_true rfl, Nat.le_of_ble_eq_true rfl, Nat.le_of_ble_eq_true rfl⟩ (fun v14 q14 => ?_)
                  refine lv_if_ne (tgt := 82) hx hb dX12_look_76 (by decide) (fun c15 => ?_) (fun c15 => ?_)
                  · have b15 : ¬ v14.toInt = (0 : Int32).toInt := fun z9 => c15 (i_eq.mpr z9)
                    refine lv_aload_n hx hb dX12_look_82 rfl (lv_at hl 5 rfl) ?_
                    refine lv_iload_n hx hb dX12_look_83 rfl (lv_at hl 4 rfl) ?_
                    refine lv_iload hx hb dX12_look_84 (lv_at hl 0 rfl) ?_
                    refine callV_Pi C S7.1 S7.2.1.2.1 (c_X12_howManyFit l D G a0 v9 x6_61 ga0 (by omega)) kV_X12_366 ga0 (by omega) dX12_look_86 hl.1 rfl rfl (by decide) cd_X12_howManyFit ⟨Nat.le_of_ble_eq_true rfl, Nat.le_of_ble_eq_true rfl, Nat.le_of_ble_eq_true rfl, Nat.le_of_ble_eq_true rfl, Nat.le_of_ble_eq_true rfl⟩ (fun v16 q16 => ?_)
                    refine lv_istore (lv' := [(7, .int v16), (6, .int x6_61), (5, .int x5_61), (4, .int x4_61), (3, .int v10), (2, .int v9), (0, .ref a0)]) hx hb dX12_look_89 hl (by decide) rfl (fun ls hl => ?_)
                    refine lv_iload hx hb dX12_look_91 (lv_at hl 0 rfl) ?_
                    refine lv_iload_n hx hb dX12_look_93 rfl (lv_at hl 4 rfl) ?_
                    refine lv_iload hx hb dX12_look_94 (lv_at hl 0 rfl) ?_
                    refine lv_isub hx hb dX12_look_96 ?_
                    refine lv_topi (fun v17 ev17 => ?_)
                    refine q_max C kN_X12_370 dX12_look_97 hl.1 ⟨Nat.le_of_ble_eq_true rfl, Nat.le_of_ble_eq_true rfl, Nat.le_of_ble_eq_true rfl, Nat.le_of_ble_eq_true rfl⟩ (fun v18 fv18 => ?_)
                    refine lv_istore (lv' := [(8, .int v18), (7, .int v16), (6, .int x6_61), (5, .int x5_61), (4, .int x4_61), (3, .int v10), (2, .int v9), (0, .ref a0)]) hx hb dX12_look_100 hl (by decide) rfl (fun ls hl => ?_)
                    refine lv_iload hx hb dX12_look_102 (lv_at hl 0 rfl) ?_
                    refine lv_iload hx hb dX12_look_104 (lv_at hl 3 rfl) ?_
                    refine lv_icmp_ge (tgt := 114) hx hb dX12_look_106 (by decide) (fun c19 => ?_) (fun c19 => ?_)
                    · have b19 : x5_61.toInt ≤ v18.toInt := i_le.mp c19
                      refine lv_iload hx hb dX12_look_114 (lv_at hl 4 rfl) ?_
                      refine lv_istore (lv' := [(4, .int x4_61), (8, .int v18), (7, .int v16), (6, .int x6_61), (5, .int x5_61), (3, .int v10), (2, .int v9), (0, .ref a0)]) hx hb dX12_look_116 hl (by decide) rfl (fun ls hl => ?_)
                      refine lv_iload hx hb dX12_look_118 (lv_at hl 4 rfl) ?_
                      refine lv_iload hx hb dX12_look_120 (lv_at hl 1 rfl) ?_
                      refine q_min C kN_X12_270 dX12_look_122 hl.1 ⟨Nat.le_of_ble_eq_true rfl, Nat.le_of_ble_eq_true rfl, Nat.le_of_ble_eq_true rfl, Nat.le_of_ble_eq_true rfl⟩ (fun v20 fv20 => ?_)
                      refine lv_istore (lv' := [(5, .int v20), (4, .int x4_61), (8, .int v18), (7, .int v16), (6, .int x6_61), (3, .int v10), (2, .int v9), (0, .ref a0)]) hx hb dX12_look_125 hl (by decide) rfl (fun ls hl => ?_)
                      obtain ⟨v21, ev21⟩ : ∃ y : Int32, y = x6_61 + (1) := ⟨_, rfl⟩
                      have f22 : v21.toInt = x6_61.toInt + (1) := by rw [ev21]; exact i_addc k_1 (by omega) (by omega)
                      refine lv_iinc (v := v21) (lv' := [(6, .int v21), (5, .int v20), (4, .int x4_61), (8, .int v18), (7, .int v16), (3, .int v10), (2, .int v9), (0, .ref a0)]) hx hb dX12_look_127 hl (k := 4) rfl (by rw [ev21]; rfl) (by decide) rfl (fun ls hl => ?_)
                      refine lv_goto (tgt := 61) hx hb dX12_look_130 (by decide) ?_
                      exact ih61 v21 v20 x4_61 ls (by omega) (by omega) (lv_sub hl [0, 1, 2, 5, 6, 7] rfl)
                    · have b19 : ¬ x5_61.toInt ≤ v18.toInt := fun z9 => c19 (i_le.mpr z9)
                      refine lv_iload hx hb dX12_look_109 (lv_at hl 2 rfl) ?_
                      refine lv_goto (tgt := 116) hx hb dX12_look_111 (by decide) ?_
                      refine lv_istore (lv' := [(4, .int x6_61), (8, .int v18), (7, .int v16), (6, .int x6_61), (5, .int x5_61), (3, .int v10), (2, .int v9), (0, .ref a0)]) hx hb dX12_look_116 hl (by decide) rfl (fun ls hl => ?_)
                      refine lv_iload hx hb dX12_look_118 (lv_at hl 4 rfl) ?_
                      refine lv_iload hx hb dX12_look_120 (lv_at hl 1 rfl) ?_
                      refine q_min C kN_X12_270 dX12_look_122 hl.1 ⟨Nat.le_of_ble_eq_true rfl, Nat.le_of_ble_eq_true rfl, Nat.le_of_ble_eq_true rfl, Nat.le_of_ble_eq_true rfl⟩ (fun v23 fv23 => ?_)
                      refine lv_istore (lv' := [(5, .int v23), (4, .int x6_61), (8, .int v18), (7, .int v16), (6, .int x6_61), (3, .int v10), (2, .int v9), (0, .ref a0)]) hx hb dX12_look_125 hl (by decide) rfl (fun ls hl => ?_)
                      obtain ⟨v24, ev24⟩ : ∃ y : Int32, y = x6_61 + (1) := ⟨_, rfl⟩
                      have f25 : v24.toInt = x6_61.toInt + (1) := by rw [ev24]; exact i_addc k_1 (by omega) (by omega)
                      refine lv_iinc (v := v24) (lv' := [(6, .int v24), (5, .int v23), (4, .int x6_61), (8, .int v18), (7, .int v16), (3, .int v10), (2, .int v9), (0, .ref a0)]) hx hb dX12_look_127 hl (k := 4) rfl (by rw [ev24]; rfl) (by decide) rfl (fun ls hl => ?_)
                      refine lv_goto (tgt := 61) hx hb dX12_look_130 (by decide) ?_
                      exact ih61 v24 v23 x6_61 ls (by omega) (by omega) (lv_sub hl [0, 1, 2, 5, 6, 7] rfl)
                  · have b15 : v14.toInt = (0 : Int32).toInt := i_eq.mp c15
                    refine lv_goto (tgt := 127) hx hb dX12_look_79 (by decide) ?_
                    obtain ⟨v26, ev26⟩ : ∃ y : Int32, y = x6_61 + (1) := ⟨_, rfl⟩
                    have f27 : v26.toInt = x6_61.toInt + (1) := by rw [ev26]; exact i_addc k_1 (by omega) (by omega)
                    refine lv_iinc (v := v26) (lv' := [(6, .int v26), (5, .int x5_61), (4, .int x4_61), (3, .int v10), (2, .int v9), (0, .ref a0)]) hx hb dX12_look_127 hl (k := 0) rfl (by rw [ev26]; rfl) (by decide) rfl (fun ls hl => ?_)
                    refine lv_goto (tgt := 61) hx hb dX12_look_130 (by decide) ?_
                    exact ih61 v26 x5_61 x4_61 ls (by omega) (by omega) (lv_sub hl [0, 1, 2, 3, 4, 5] rfl)
            exact Lp61 2147483648 (0 : Int32) v10 (-1 : Int32) ls (by omega)  (by omega) (lv_sub hl [0, 1, 2, 3, 4, 5] rfl)
          · have b8 : ¬ v7.toInt = (0 : Int32).toInt := fun z9 => c8 (i_eq.mpr z9)
            exact absurd b8 (by omega)
        · have b6 : v5.toInt = (0 : Int32).toInt := i_eq.mp c6
          exact absurd b6 (by omega)
      · skip
        refine lv_if_ne (tgt := 29) hx hb dX12_look_22 (by decide) (fun c28 => ?_) (fun c28 => ?_)
        · have b28 : ¬ v5.toInt = (0 : Int32).toInt := fun z9 => c28 (i_eq.mpr z9)
          exact absurd b28 (by omega)
        · have b28 : v5.toInt = (0 : Int32).toInt := i_eq.mp c28
          refine lv_iconst (v := 1) hx hb dX12_look_25 (by decide) ?_
          refine lv_goto (tgt := 30) hx hb dX12_look_26 (by decide) ?_
          refine lv_iconst (v := 2) hx hb dX12_look_30 (by decide) ?_
          have k_2 : (2 : Int32).toInt = 2 := by decide
          refine callV_Ei C S3 (c_X12_throwsIf l D G a0 (1 : Int32) (2 : Int32) ga0 (by omega)) kV_X12_246 ga0 (trivial) (by decide +kernel) dX12_look_31 hl.1 rfl rfl (by decide) cd_X12_throwsIf ⟨Nat.le_of_ble_eq_true rfl, Nat.le_of_ble_eq_true rfl, Nat.le_of_ble_eq_true rfl, Nat.le_of_ble_eq_true rfl, Nat.le_of_ble_eq_true rfl⟩ (fun v29 H29 L29 S29 K29 q29 => ?_)
          have tz : (fI D H29 11 a0 9).toInt = 0 := by rw [K29.fI ga0 rfl (by decide) (by decide +kernel)]; exact tz
          have e11 := congrArg Int32.toInt (K29.fI (k := 11) ga0 rfl (by decide) (by decide +kernel))
          refine lv_if_eq (tgt := 39) hx hb dX12_look_34 (by decide) (fun c30 => ?_) (fun c30 => ?_)
          · have b30 : v29.toInt = (0 : Int32).toInt := i_eq.mp c30
            exact absurd b30 (by omega)
          · have b30 : ¬ v29.toInt = (0 : Int32).toInt := fun z9 => c30 (i_eq.mpr z9)
            refine lv_iconst (v := 0) hx hb dX12_look_37 (by decide) ?_
            exact retE_i hQ C S29 hr dX12_look_38 (tz)
  · skip
    refine lv_iconst (v := 1) hx hb dX12_look_10 (by decide) ?_
    have k_1 : (1 : Int32).toInt = 1 := by decide
    refine callV_Ei C S1 (c_X12_throwsIf l D G a0 v2 (1 : Int32) ga0 (by omega)) kV_X12_246 ga0 (trivial) (by decide +kernel) dX12_look_11 hl.1 rfl rfl (by decide) cd_X12_throwsIf ⟨Nat.le_of_ble_eq_true rfl, Nat.le_of_ble_eq_true rfl, Nat.le_of_ble_eq_true rfl, Nat.le_of_ble_eq_true rfl, Nat.le_of_ble_eq_true rfl⟩ (fun v31 H31 L31 S31 K31 q31 => ?_)
    have tz : (fI D H31 11 a0 9).toInt = 0 := by rw [K31.fI ga0 rfl (by decide) (by decide +kernel)]; exact tz
    have e11 := congrArg Int32.toInt (K31.fI (k := 11) ga0 rfl (by decide) (by decide +kernel))
    have k_0 : (0 : Int32).toInt = 0 := by decide
    refine lv_if_ne (tgt := 37) hx hb dX12_look_14 (by decide) (fun c32 => ?_) (fun c32 => ?_)
    · have b32 : ¬ v31.toInt = (0 : Int32).toInt := fun z9 => c32 (i_eq.mpr z9)
      refine lv_iconst (v := 0) hx hb dX12_look_37 (by decide) ?_
      exact retE_i hQ C S31 hr dX12_look_38 (tz)
    · have b32 : v31.toInt = (0 : Int32).toInt := i_eq.mp c32
      exact absurd b32 (by omega)

set_option maxRecDepth 100000 in
set_option maxHeartbeats 4000000 in
theorem c_X12_feed (l : Launch) (D : DD) (G : Nat → Nat) (a0 : Nat) (x1 : Int32) (x2 : Int32) (x3 : Int32) (x4 : Int32) (x5 : Int32) (ga0 : G a0 = 30) : CE l D G yX12_feed cX12_feed 7 (some .int) 0 [.ref a0, .int x1, .int x2, .int x3, .int x4, .int x5] (fun _ => True) [(30, 0), (30, 9), (36, 0), (37, 0)] (xI (fun H r H1 => ((fI D H 11 a0 9).toInt ≤ 380 ∧ r.toInt = (fI D H 11 a0 9).toInt + 20 ∧ (fI D H1 11 a0 9).toInt = (fI D H 11 a0 9).toInt + 20) ∨ (380 < (fI D H 11 a0 9).toInt ∧ r.toInt = -1 ∧ (fI D H1 11 a0 9).toInt = (fI D H 11 a0 9).toInt))) := by
  refine enter (by decide) (Nat.le_of_ble_eq_true rfl) ?_
  intro p e s m args below meth c ls Q hA hQ C hr hO hpre hl
  have hx := C.1
  have hb := C.2.1
  have S : Sd D G [(30, 0), (30, 9), (36, 0), (37, 0)] s.heap s.heap [] := Sd.start hO
  have hl : lv_has ls 7 [(0, .ref a0), (1, .int x1), (2, .int x2), (3, .int x3), (4, .int x4), (5, .int x5)] := hl
  refine lv_aload_n hx hb dX12_feed_0 rfl (lv_at hl 0 rfl) ?_
  refine lv_iconst (v := 0) hx hb dX12_feed_1 (by decide) ?_
  have k_0 : (0 : Int32).toInt = 0 := by decide
  refine q_put (T := TX12) C S ga0 0 kF_X12_3 dX12_feed_2 rfl rfl (by decide) (by decide) rfl rfl rfl rfl rfl (vok_a rfl) (by decide +kernel) (fun H1 L1 S1 P1 => ?_)
  refine lv_aload_n hx hb dX12_feed_5 rfl (lv_at hl 0 rfl) ?_
  refine q_gi (T := TX12) C S1.1 ga0 9 kF_X12_75 dX12_feed_6 rfl rfl (by decide) rfl (by decide) rfl ?_
  have c2 : (fI D H1 11 a0 9).toInt = (fI D s.heap 11 a0 9).toInt := by rw [Pt.o P1 (by decide) (by decide)]
  have r3 : 0 ≤ (fI D H1 11 a0 9).toInt ∧ (fI D H1 11 a0 9).toInt ≤ 400 := S1.1.rng ga0 rfl (by decide) rfl
  refine lv_bipush (v := 20) hx hb dX12_feed_9 (by decide) ?_
  have k_20 : (20 : Int32).toInt = 20 := by decide
  refine lv_iadd hx hb dX12_feed_11 ?_
  refine lv_topi (fun v4 ev4 => ?_)
  have f5 : v4.toInt = (fI D H1 11 a0 9).toInt + (20 : Int32).toInt := by rw [ev4]; exact i_add (by omega) (by omega)
  refine lv_sipush (v := 400) hx hb dX12_feed_12 (by decide) ?_
  have k_400 : (400 : Int32).toInt = 400 := by decide
  refine lv_icmp_le (tgt := 20) hx hb dX12_feed_15 (by decide) (fun c6 => ?_) (fun c6 => ?_)
  · have b6 : v4.toInt ≤ (400 : Int32).toInt := i_le.mp c6
    refine lv_aload_n hx hb dX12_feed_20 rfl (lv_at hl 0 rfl) ?_
    refine q_gr (T := TX12) C S1.1 ga0 15 kF_X12_36 dX12_feed_21 rfl rfl (by decide) rfl (by decide) rfl (fun g7 => ?_)
    refine lv_iconst (v := 0) hx hb dX12_feed_24 (by decide) ?_
    refine lv_iload_n hx hb dX12_feed_25 rfl (lv_at hl 1 rfl) ?_
    have n8 : aN H1 (fR D H1 11 a0 15) = 5 := len_37 S1.1 g7
    refine q_iast C S1 g7 (by omega) (by omega) dX12_feed_26 rfl (by decide) (by decide +kernel) (fun _ _ h => ak_37 h) (fun H9 L9 S9 P9 => ?_)
    refine lv_aload_n hx hb dX12_feed_27 rfl (lv_at hl 0 rfl) ?_
    refine q_gr (T := TX12) C S9.1 ga0 15 kF_X12_36 dX12_feed_28 rfl rfl (by decide) rfl (by decide) rfl (fun g10 => ?_)
    refine lv_iconst (v := 1) hx hb dX12_feed_31 (by decide) ?_
    refine lv_iload_n hx hb dX12_feed_32 rfl (lv_at hl 2 rfl) ?_
    have n11 : aN H9 (fR D H9 11 a0 15) = 5 := len_37 S9.1 g10
    have k_1 : (1 : Int32).toInt = 1 := by decide
    refine q_iast C S9 g10 (by omega) (by omega) dX12_feed_33 rfl (by decide) (by decide +kernel) (fun _ _ h => ak_37 h) (fun H12 L12 S12 P12 => ?_)
    refine lv_aload_n hx hb dX12_feed_34 rfl (lv_at hl 0 rfl) ?_
    refine q_gr (T := TX12) C S12.1 ga0 15 kF_X12_36 dX12_feed_35 rfl rfl (by decide) rfl (by decide) rfl (fun g13 => ?_)
    refine lv_iconst (v := 2) hx hb dX12_feed_38 (by decide) ?_
    refine lv_iload_n hx hb dX12_feed_39 rfl (lv_at hl 3 rfl) ?_
    have n14 : aN H12 (fR D H12 11 a0 15) = 5 := len_37 S12.1 g13
    have k_2 : (2 : Int32).toInt = 2 := by decide
    refine q_iast C S12 g13 (by omega) (by omega) dX12_feed_40 rfl (by decide) (by decide +kernel) (fun _ _ h => ak_37 h) (fun H15 L15 S15 P15 => ?_)
    refine lv_aload_n hx hb dX12_feed_41 rfl (lv_at hl 0 rfl) ?_
    refine q_gr (T := TX12) C S15.1 ga0 15 kF_X12_36 dX12_feed_42 rfl rfl (by decide) rfl (by decide) rfl (fun g16 => ?_)
    refine lv_iconst (v := 3) hx hb dX12_feed_45 (by decide) ?_
    refine lv_iload hx hb dX12_feed_46 (lv_at hl 4 rfl) ?_
    have n17 : aN H15 (fR D H15 11 a0 15) = 5 := len_37 S15.1 g16
    have k_3 : (3 : Int32).toInt = 3 := by decide
    refine q_iast C S15 g16 (by omega) (by omega) dX12_feed_48 rfl (by decide) (by decide +kernel) (fun _ _ h => ak_37 h) (fun H18 L18 S18 P18 => ?_)
    refine lv_aload_n hx hb dX12_feed_49 rfl (lv_at hl 0 rfl) ?_
    refine q_gr (T := TX12) C S18.1 ga0 15 kF_X12_36 dX12_feed_50 rfl rfl (by decide) rfl (by decide) rfl (fun g19 => ?_)
    refine lv_iconst (v := 4) hx hb dX12_feed_53 (by decide) ?_
    refine lv_iload hx hb dX12_feed_54 (lv_at hl 5 rfl) ?_
    have n20 : aN H18 (fR D H18 11 a0 15) = 5 := len_37 S18.1 g19
    have k_4 : (4 : Int32).toInt = 4 := by decide
    refine q_iast C S18 g19 (by omega) (by omega) dX12_feed_56 rfl (by decide) (by decide +kernel) (fun _ _ h => ak_37 h) (fun H21 L21 S21 P21 => ?_)
    refine lv_iconst (v := 0) hx hb dX12_feed_57 (by decide) ?_
    refine lv_istore (lv' := [(6, .int (0 : Int32)), (0, .ref a0), (1, .int x1), (2, .int x2), (3, .int x3), (4, .int x4), (5, .int x5)]) hx hb dX12_feed_58 hl (by decide) rfl (fun ls hl => ?_)
    have Lp60 : ∀ (n : Nat) (x6_60 : Int32) (H_60 : Heap) (L_60 : List Loc) (ls : Array Slot), (Sd D G [(30, 0), (30, 9), (36, 0), (37, 0)] s.heap H_60 L_60) → (0 ≤ x6_60.toInt ∧ x6_60.toInt ≤ 20) → ((fI D H_60 11 a0 9).toInt = (fI D s.heap 11 a0 9).toInt) → 21 - x6_60.toInt ≤ (n : Int) → lv_has ls 7 [(6, .int x6_60), (0, .ref a0)] → W p l e (rmU 0 0 0) s m args below meth c H_60 L_60 0 0 Q (F0 m 60 ls []) := by
      intro n
      induction n with
      | zero =>
        intro x6_60 H_60 L_60 ls S_60 j60_0 u60_0 hn hl
        exact absurd hn (by omega)
      | succ n ih60 =>
        intro x6_60 H_60 L_60 ls S_60 j60_0 u60_0 hn hl
        refine lv_iload hx hb dX12_feed_60 (lv_at hl 0 rfl) ?_
        refine lv_bipush (v := 20) hx hb dX12_feed_62 (by decide) ?_
        refine lv_icmp_ge (tgt := 106) hx hb dX12_feed_64 (by decide) (fun c22 => ?_) (fun c22 => ?_)
        · have b22 : (20 : Int32).toInt ≤ x6_60.toInt := i_le.mp c22
          refine lv_aload_n hx hb dX12_feed_106 rfl (lv_at hl 1 rfl) ?_
          refine lv_dup hx hb dX12_feed_107 rfl ?_
          refine q_gi (T := TX12) C S_60.1 ga0 9 kF_X12_75 dX12_feed_108 rfl rfl (by decide) rfl (by decide) rfl ?_
          have r23 : 0 ≤ (fI D H_60 11 a0 9).toInt ∧ (fI D H_60 11 a0 9).toInt ≤ 400 := S_60.1.rng ga0 rfl (by decide) rfl
          refine lv_bipush (v := 20) hx hb dX12_feed_111 (by decide) ?_
          refine lv_iadd hx hb dX12_feed_113 ?_
          refine lv_topi (fun v24 ev24 => ?_)
          have f25 : v24.toInt = (fI D H_60 11 a0 9).toInt + (20 : Int32).toInt := by rw [ev24]; exact i_add (by omega) (by omega)
          refine q_put (T := TX12) C S_60 ga0 9 kF_X12_75 dX12_feed_114 rfl rfl (by decide) (by decide) rfl rfl rfl rfl rfl (vok_i rfl (by omega) (by omega)) (by decide +kernel) (fun H26 L26 S26 P26 => ?_)
          refine lv_aload_n hx hb dX12_feed_117 rfl (lv_at hl 1 rfl) ?_
          refine q_gi (T := TX12) C S26.1 ga0 9 kF_X12_75 dX12_feed_118 rfl rfl (by decide) rfl (by decide) rfl ?_
          have c27 : (fI D H26 11 a0 9).toInt = v24.toInt := by rw [Pt.i P26]
          have r28 : 0 ≤ (fI D H26 11 a0 9).toInt ∧ (fI D H26 11 a0 9).toInt ≤ 400 := S26.1.rng ga0 rfl (by decide) rfl
          exact retE_i hQ C S26 hr dX12_feed_121 (by omega)
        · have b22 : ¬ (20 : Int32).toInt ≤ x6_60.toInt := fun z9 => c22 (i_le.mpr z9)
          refine lv_aload_n hx hb dX12_feed_67 rfl (lv_at hl 1 rfl) ?_
          refine q_gr (T := TX12) C S_60.1 ga0 8 kF_X12_29 dX12_feed_68 rfl rfl (by decide) rfl (by decide) rfl (fun g29 => ?_)
          refine lv_aload_n hx hb dX12_feed_71 rfl (lv_at hl 1 rfl) ?_
          refine q_gi (T := TX12) C S_60.1 ga0 9 kF_X12_75 dX12_feed_72 rfl rfl (by decide) rfl (by decide) rfl ?_
          have r30 : 0 ≤ (fI D H_60 11 a0 9).toInt ∧ (fI D H_60 11 a0 9).toInt ≤ 400 := S_60.1.rng ga0 rfl (by decide) rfl
          refine lv_iload hx hb dX12_feed_75 (lv_at hl 0 rfl) ?_
          refine lv_iadd hx hb dX12_feed_77 ?_
          refine lv_topi (fun v31 ev31 => ?_)
          have f32 : v31.toInt = (fI D H_60 11 a0 9).toInt + x6_60.toInt := by rw [ev31]; exact i_add (by omega) (by omega)
          refine lv_aload_n hx hb dX12_feed_78 rfl (lv_at hl 1 rfl) ?_
          refine q_gr (T := TX12) C S_60.1 ga0 15 kF_X12_36 dX12_feed_79 rfl rfl (by decide) rfl (by decide) rfl (fun g33 => ?_)
          refine lv_iload hx hb dX12_feed_82 (lv_at hl 0 rfl) ?_
          refine lv_iconst (v := 4) hx hb dX12_feed_84 (by decide) ?_
          refine lv_idiv hx hb dX12_feed_85 (by first | decide | (intro z9; have := i_eq.mp z9; simp at this; omega) | assumption) ?_
          refine lv_topi (fun v34 ev34 => ?_)
          have f35 : v34.toInt = x6_60.toInt / 4 := by rw [ev34]; exact i_divc k_4 (by omega) (by decide)
          have n36 : aN H_60 (fR D H_60 11 a0 15) = 5 := len_37 S_60.1 g33
          refine q_iald C S_60.1 g33 (by omega) (by omega) dX12_feed_86 rfl (by decide) ?_
          refine lv_topi (fun v37 ev37 => ?_)
          refine lv_bipush (v := 24) hx hb dX12_feed_87 (by decide) ?_
          refine lv_bipush (v := 8) hx hb dX12_feed_89 (by decide) ?_
          refine lv_iload hx hb dX12_feed_91 (lv_at hl 0 rfl) ?_
          refine lv_iconst (v := 4) hx hb dX12_feed_93 (by decide) ?_
          refine lv_irem hx hb dX12_feed_94 (by first | decide | (intro z9; have := i_eq.mp z9; simp at this; omega) | assumption) ?_
          refine lv_topi (fun v38 ev38 => ?_)
          have f39 : v38.toInt = x6_60.toInt % 4 := by rw [ev38]; exact i_remc k_4 (by omega) (by decide)
          have k_8 : (8 : Int32).toInt = 8 := by decide
          refine lv_imul hx hb dX12_feed_95 ?_
          refine lv_topi (fun v40 ev40 => ?_)
          have f41 : v40.toInt = (8) * v38.toInt := by rw [ev40]; exact i_cmul k_8 (by omega) (by omega)
          have k_24 : (24 : Int32).toInt = 24 := by decide
          refine lv_isub hx hb dX12_feed_96 ?_
          refine lv_topi (fun v42 ev42 => ?_)
          have f43 : v42.toInt = (24 : Int32).toInt - v40.toInt := by rw [ev42]; exact i_sub (by omega) (by omega)
          refine lv_ishr hx hb dX12_feed_97 ?_
          refine lv_topi (fun v44 ev44 => ?_)
          refine lv_i2b hx hb dX12_feed_98 rfl ?_
          refine lv_topi (fun v45 ev45 => ?_)
          have n46 : aN H_60 (fR D H_60 11 a0 8) = 400 := len_36 S_60.1 g29
          refine q_bast C S_60 g29 (by omega) (by omega) dX12_feed_99 rfl (by decide) (by decide) (fun _ _ h => ak_36 h) (fun H47 L47 z47 hz47 S47 P47 => ?_)
          obtain ⟨v48, ev48⟩ : ∃ y : Int32, y = x6_60 + (1) := ⟨_, rfl⟩
          have f49 : v48.toInt = x6_60.toInt + (1) := by rw [ev48]; exact i_addc k_1 (by omega) (by omega)
          refine lv_iinc (v := v48) (lv' := [(6, .int v48), (0, .ref a0)]) hx hb dX12_feed_100 hl (k := 0) rfl (by rw [ev48]; rfl) (by decide) rfl (fun ls hl => ?_)
          refine lv_goto (tgt := 60) hx hb dX12_feed_103 (by decide) ?_
          exact ih60 v48 H47 L47 ls S47 (by omega) (by rw [Pa.f P47 (ne_role ga0 g29 (by decide))]; omega) (by omega) (lv_sub hl [0, 1] rfl)
    exact Lp60 21 (0 : Int32) H21 L21 ls S21 (by omega) (by rw [Pa.f P21 (ne_role ga0 g19 (by decide)), Pa.f P18 (ne_role ga0 g16 (by decide)), Pa.f P15 (ne_role ga0 g13 (by decide)), Pa.f P12 (ne_role ga0 g10 (by decide)), Pa.f P9 (ne_role ga0 g7 (by decide)), Pt.o P1 (by decide) (by decide)])  (by omega) (lv_sub hl [0, 1] rfl)
  · have b6 : ¬ v4.toInt ≤ (400 : Int32).toInt := fun z9 => c6 (i_le.mpr z9)
    refine lv_iconst (v := -1) hx hb dX12_feed_18 (by decide) ?_
    have k_m1 : (-1 : Int32).toInt = -1 := by decide
    exact retE_i hQ C S1 hr dX12_feed_19 (by omega)

set_option maxRecDepth 100000 in
set_option maxHeartbeats 4000000 in
theorem c_X12_end (l : Launch) (D : DD) (G : Nat → Nat) (a0 : Nat) (x1 : Int32) (ga0 : G a0 = 30) : CE l D G yX12_end cX12_end 2 (some .boolean) 0 [.ref a0, .int x1] (fun _ => True) [(30, 0), (30, 9)] (xI (fun H r H1 => (r.toInt = 1 ∧ 0 ≤ x1.toInt ∧ x1.toInt ≤ (fI D H 11 a0 9).toInt ∧ (fI D H1 11 a0 9).toInt = x1.toInt) ∨ (r.toInt = 0 ∧ (x1.toInt < 0 ∨ (fI D H 11 a0 9).toInt < x1.toInt) ∧ (fI D H1 11 a0 9).toInt = (fI D H 11 a0 9).toInt))) := by
  refine enter (by decide) (Nat.le_of_ble_eq_true rfl) ?_
  intro p e s m args below meth c ls Q hA hQ C hr hO hpre hl
  have hx := C.1
  have hb := C.2.1
  have S : Sd D G [(30, 0), (30, 9)] s.heap s.heap [] := Sd.start hO
  have hl : lv_has ls 2 [(0, .ref a0), (1, .int x1)] := hl
  refine lv_aload_n hx hb dX12_end_0 rfl (lv_at hl 0 rfl) ?_
  refine lv_iconst (v := 0) hx hb dX12_end_1 (by decide) ?_
  have k_0 : (0 : Int32).toInt = 0 := by decide
  refine q_put (T := TX12) C S ga0 0 kF_X12_3 dX12_end_2 rfl rfl (by decide) (by decide) rfl rfl rfl rfl rfl (vok_a rfl) (by decide +kernel) (fun H1 L1 S1 P1 => ?_)
  refine lv_iload_n hx hb dX12_end_5 rfl (lv_at hl 1 rfl) ?_
  refine lv_if_lt (tgt := 17) hx hb dX12_end_6 (by decide) (fun c2 => ?_) (fun c2 => ?_)
  · have b2 : x1.toInt < (0 : Int32).toInt := i_lt.mp c2
    refine lv_iconst (v := 0) hx hb dX12_end_17 (by decide) ?_
    exact retE_z hQ C S1 hr dX12_end_18 (z01 (by omega) (by omega)) (by rw [Pt.o P1 (by decide) (by decide)]; omega)
  · have b2 : ¬ x1.toInt < (0 : Int32).toInt := fun z9 => c2 (i_lt.mpr z9)
    refine lv_iload_n hx hb dX12_end_9 rfl (lv_at hl 1 rfl) ?_
    refine lv_aload_n hx hb dX12_end_10 rfl (lv_at hl 0 rfl) ?_
    refine q_gi (T := TX12) C S1.1 ga0 9 kF_X12_75 dX12_end_11 rfl rfl (by decide) rfl (by decide) rfl ?_
    have c3 : (fI D H1 11 a0 9).toInt = (fI D s.heap 11 a0 9).toInt := by rw [Pt.o P1 (by decide) (by decide)]
    have r4 : 0 ≤ (fI D H1 11 a0 9).toInt ∧ (fI D H1 11 a0 9).toInt ≤ 400 := S1.1.rng ga0 rfl (by decide) rfl
    have r6 := i_rng x1
    refine lv_icmp_le (tgt := 19) hx hb dX12_end_14 (by decide) (fun c5 => ?_) (fun c5 => ?_)
    · have b5 : x1.toInt ≤ (fI D H1 11 a0 9).toInt := i_le.mp c5
      refine lv_aload_n hx hb dX12_end_19 rfl (lv_at hl 0 rfl) ?_
      refine lv_iload_n hx hb dX12_end_20 rfl (lv_at hl 1 rfl) ?_
      refine q_put (T := TX12) C S1 ga0 9 kF_X12_75 dX12_end_21 rfl rfl (by decide) (by decide) rfl rfl rfl rfl rfl (vok_i rfl (by omega) (by omega)) (by decide +kernel) (fun H7 L7 S7 P7 => ?_)
      refine lv_iconst (v := 1) hx hb dX12_end_24 (by decide) ?_
      have k_1 : (1 : Int32).toInt = 1 := by decide
      exact retE_z hQ C S7 hr dX12_end_25 (z01 (by omega) (by omega)) (by rw [Pt.i P7]; omega)
    · have b5 : ¬ x1.toInt ≤ (fI D H1 11 a0 9).toInt := fun z9 => c5 (i_le.mpr z9)
      refine lv_iconst (v := 0) hx hb dX12_end_17 (by decide) ?_
      exact retE_z hQ C S1 hr dX12_end_18 (z01 (by omega) (by omega)) (by rw [Pt.o P1 (by decide) (by decide)]; omega)
