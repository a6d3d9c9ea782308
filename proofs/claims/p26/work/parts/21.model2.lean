set_option maxRecDepth 100000 in
set_option maxHeartbeats 4000000 in
theorem c_X12_throwsIf (l : Launch) (D : DD) (G : Nat → Nat) (a0 : Nat) (x1 : Int32) (x2 : Int32) (ga0 : G a0 = 30) (ix1 : 0 ≤ x1.toInt ∧ x1.toInt ≤ 1) : CE l D G yX12_throwsIf cX12_throwsIf 3 (some .boolean) 0 [.ref a0, .int x1, .int x2] (fun _ => True) [(30, 0)] (xI (fun H r H1 => r.toInt = x1.toInt)) := by
  refine enter (by decide) (Nat.le_of_ble_eq_true rfl) ?_
  intro p e s m args below meth c ls Q hA hQ C hr hO hpre hl
  have hx := C.1
  have hb := C.2.1
  have S : Sd D G [(30, 0)] s.heap s.heap [] := Sd.start hO
  have hl : lv_has ls 3 [(0, .ref a0), (1, .int x1), (2, .int x2)] := hl
  refine lv_iload_n hx hb dX12_throwsIf_0 rfl (lv_at hl 1 rfl) ?_
  have k_0 : (0 : Int32).toInt = 0 := by decide
  refine lv_if_eq (tgt := 9) hx hb dX12_throwsIf_1 (by decide) (fun c1 => ?_) (fun c1 => ?_)
  · have b1 : x1.toInt = (0 : Int32).toInt := i_eq.mp c1
    refine lv_iload_n hx hb dX12_throwsIf_9 rfl (lv_at hl 1 rfl) ?_
    exact retE_z hQ C S hr dX12_throwsIf_10 (z01 (by omega) (by omega)) (by omega)
  · have b1 : ¬ x1.toInt = (0 : Int32).toInt := fun z9 => c1 (i_eq.mpr z9)
    refine lv_aload_n hx hb dX12_throwsIf_4 rfl (lv_at hl 0 rfl) ?_
    refine lv_iload_n hx hb dX12_throwsIf_5 rfl (lv_at hl 2 rfl) ?_
    refine q_put (T := TX12) C S ga0 0 kF_X12_3 dX12_throwsIf_6 rfl rfl (by decide) (by decide) rfl rfl rfl rfl rfl (vok_a rfl) (by decide +kernel) (fun H2 L2 S2 P2 => ?_)
    refine lv_iload_n hx hb dX12_throwsIf_9 rfl (lv_at hl 1 rfl) ?_
    exact retE_z hQ C S2 hr dX12_throwsIf_10 (z01 (by omega) (by omega)) (by omega)

set_option maxRecDepth 100000 in
set_option maxHeartbeats 4000000 in
theorem c_X12_noHouse (l : Launch) (D : DD) (G : Nat → Nat) (a0 : Nat) (x1 : Int32) (ga0 : G a0 = 30) : CP l D G yX12_noHouse cX12_noHouse 2 (some .boolean) 1 [.ref a0, .int x1] (fun _ => True) (pI (fun H r => (r.toInt = 0 ∧ 0 ≤ x1.toInt ∧ x1.toInt ≤ 5) ∨ r.toInt = 1)) := by
  refine enter (by decide) (Nat.le_of_ble_eq_true rfl) ?_
  intro p e s m args below meth c ls Q hA hQ C hr hO hpre hl
  have hx := C.1
  have hb := C.2.1
  have hl : lv_has ls 2 [(0, .ref a0), (1, .int x1)] := hl
  refine lv_iload_n hx hb dX12_noHouse_0 rfl (lv_at hl 1 rfl) ?_
  refine lv_iconst (v := 0) hx hb dX12_noHouse_1 (by decide) ?_
  refine lv_aload_n hx hb dX12_noHouse_2 rfl (lv_at hl 0 rfl) ?_
  refine callV_Pi C hO (fun _ _ _ => rfl) (c_X12_houses l D G a0 ga0) kV_X12_59 ga0 (trivial) dX12_noHouse_3 hl.1 rfl rfl (by decide) cd_X12_houses ⟨Nat.le_of_ble_eq_true rfl, Nat.le_of_ble_eq_true rfl, Nat.le_of_ble_eq_true rfl, Nat.le_of_ble_eq_true rfl, Nat.le_of_ble_eq_true rfl⟩ (fun v1 q1 => ?_)
  refine lv_iconst (v := 1) hx hb dX12_noHouse_6 (by decide) ?_
  have k_1 : (1 : Int32).toInt = 1 := by decide
  refine lv_isub hx hb dX12_noHouse_7 ?_
  refine lv_topi (fun v2 ev2 => ?_)
  have f3 : v2.toInt = v1.toInt - (1 : Int32).toInt := by rw [ev2]; exact i_sub (by omega) (by omega)
  have k_0 : (0 : Int32).toInt = 0 := by decide
  refine callS_Pi C hO (fun _ _ _ => rfl) (c_X12_in l D G x1 (0 : Int32) v2) kS_X12_63 (trivial) dX12_noHouse_8 hl.1 cd_X12_in ⟨Nat.le_of_ble_eq_true rfl, Nat.le_of_ble_eq_true rfl, Nat.le_of_ble_eq_true rfl, Nat.le_of_ble_eq_true rfl, Nat.le_of_ble_eq_true rfl⟩ (fun v4 q4 => ?_)
  rcases q4 with q4 | q4
  · skip
    refine lv_if_ne (tgt := 18) hx hb dX12_noHouse_11 (by decide) (fun c5 => ?_) (fun c5 => ?_)
    · have b5 : ¬ v4.toInt = (0 : Int32).toInt := fun z9 => c5 (i_eq.mpr z9)
      refine lv_iconst (v := 0) hx hb dX12_noHouse_18 (by decide) ?_
      exact retP_z hQ C hr dX12_noHouse_19 (z01 (by omega) (by omega)) (by omega)
    · have b5 : v4.toInt = (0 : Int32).toInt := i_eq.mp c5
      exact absurd b5 (by omega)
  · skip
    refine lv_if_ne (tgt := 18) hx hb dX12_noHouse_11 (by decide) (fun c6 => ?_) (fun c6 => ?_)
    · have b6 : ¬ v4.toInt = (0 : Int32).toInt := fun z9 => c6 (i_eq.mpr z9)
      exact absurd b6 (by omega)
    · have b6 : v4.toInt = (0 : Int32).toInt := i_eq.mp c6
      refine lv_iconst (v := 1) hx hb dX12_noHouse_14 (by decide) ?_
      refine lv_goto (tgt := 19) hx hb dX12_noHouse_15 (by decide) ?_
      exact retP_z hQ C hr dX12_noHouse_19 (z01 (by omega) (by omega)) (by omega)

set_option maxRecDepth 100000 in
set_option maxHeartbeats 4000000 in
theorem c_X12_noHearth (l : Launch) (D : DD) (G : Nat → Nat) (a0 : Nat) (x1 : Int32) (ga0 : G a0 = 30) : CP l D G yX12_noHearth cX12_noHearth 2 (some .boolean) 1 [.ref a0, .int x1] (fun _ => True) (pI (fun H r => (r.toInt = 0 ∧ 0 ≤ x1.toInt ∧ x1.toInt ≤ 11) ∨ r.toInt = 1)) := by
  refine enter (by decide) (Nat.le_of_ble_eq_true rfl) ?_
  intro p e s m args below meth c ls Q hA hQ C hr hO hpre hl
  have hx := C.1
  have hb := C.2.1
  have hl : lv_has ls 2 [(0, .ref a0), (1, .int x1)] := hl
  refine lv_iload_n hx hb dX12_noHearth_0 rfl (lv_at hl 1 rfl) ?_
  refine lv_iconst (v := 0) hx hb dX12_noHearth_1 (by decide) ?_
  refine lv_aload_n hx hb dX12_noHearth_2 rfl (lv_at hl 0 rfl) ?_
  refine callV_Pi C hO (fun _ _ _ => rfl) (c_X12_hearths l D G a0 ga0) kV_X12_67 ga0 (trivial) dX12_noHearth_3 hl.1 rfl rfl (by decide) cd_X12_hearths ⟨Nat.le_of_ble_eq_true rfl, Nat.le_of_ble_eq_true rfl, Nat.le_of_ble_eq_true rfl, Nat.le_of_ble_eq_true rfl, Nat.le_of_ble_eq_true rfl⟩ (fun v1 q1 => ?_)
  refine lv_iconst (v := 1) hx hb dX12_noHearth_6 (by decide) ?_
  have k_1 : (1 : Int32).toInt = 1 := by decide
  refine lv_isub hx hb dX12_noHearth_7 ?_
  refine lv_topi (fun v2 ev2 => ?_)
  have f3 : v2.toInt = v1.toInt - (1 : Int32).toInt := by rw [ev2]; exact i_sub (by omega) (by omega)
  have k_0 : (0 : Int32).toInt = 0 := by decide
  refine callS_Pi C hO (fun _ _ _ => rfl) (c_X12_in l D G x1 (0 : Int32) v2) kS_X12_63 (trivial) dX12_noHearth_8 hl.1 cd_X12_in ⟨Nat.le_of_ble_eq_true rfl, Nat.le_of_ble_eq_true rfl, Nat.le_of_ble_eq_true rfl, Nat.le_of_ble_eq_true rfl, Nat.le_of_ble_eq_true rfl⟩ (fun v4 q4 => ?_)
  rcases q4 with q4 | q4
  · skip
    refine lv_if_ne (tgt := 18) hx hb dX12_noHearth_11 (by decide) (fun c5 => ?_) (fun c5 => ?_)
    · have b5 : ¬ v4.toInt = (0 : Int32).toInt := fun z9 => c5 (i_eq.mpr z9)
      refine lv_iconst (v := 0) hx hb dX12_noHearth_18 (by decide) ?_
      exact retP_z hQ C hr dX12_noHearth_19 (z01 (by omega) (by omega)) (by omega)
    · have b5 : v4.toInt = (0 : Int32).toInt := i_eq.mp c5
      exact absurd b5 (by omega)
  · skip
    refine lv_if_ne (tgt := 18) hx hb dX12_noHearth_11 (by decide) (fun c6 => ?_) (fun c6 => ?_)
    · have b6 : ¬ v4.toInt = (0 : Int32).toInt := fun z9 => c6 (i_eq.mpr z9)
      exact absurd b6 (by omega)
    · have b6 : v4.toInt = (0 : Int32).toInt := i_eq.mp c6
      refine lv_iconst (v := 1) hx hb dX12_noHearth_14 (by decide) ?_
      refine lv_goto (tgt := 19) hx hb dX12_noHearth_15 (by decide) ?_
      exact retP_z hQ C hr dX12_noHearth_19 (z01 (by omega) (by omega)) (by omega)

set_option maxRecDepth 100000 in
set_option maxHeartbeats 4000000 in
theorem c_X12_hearthsOf (l : Launch) (D : DD) (G : Nat → Nat) (a0 : Nat) (x1 : Int32) (ga0 : G a0 = 30) : CP l D G yX12_hearthsOf cX12_hearthsOf 4 (some .int) 3 [.ref a0, .int x1] (fun _ => True) (pI (fun H r => 0 ≤ r.toInt ∧ r.toInt ≤ 4095)) := by
  refine enter (by decide) (Nat.le_of_ble_eq_true rfl) ?_
  intro p e s m args below meth c ls Q hA hQ C hr hO hpre hl
  have hx := C.1
  have hb := C.2.1
  have hl : lv_has ls 4 [(0, .ref a0), (1, .int x1)] := hl
  refine lv_iconst (v := 0) hx hb dX12_hearthsOf_0 (by decide) ?_
  refine lv_istore_n (lv' := [(2, .int (0 : Int32)), (0, .ref a0), (1, .int x1)]) hx hb dX12_hearthsOf_1 rfl hl (by decide) rfl (fun ls hl => ?_)
  refine lv_iconst (v := 0) hx hb dX12_hearthsOf_2 (by decide) ?_
  refine lv_istore_n (lv' := [(3, .int (0 : Int32)), (2, .int (0 : Int32)), (0, .ref a0), (1, .int x1)]) hx hb dX12_hearthsOf_3 rfl hl (by decide) rfl (fun ls hl => ?_)
  have Lp4 : ∀ (n : Nat) (x3_4 : Int32) (x2_4 : Int32) (ls : Array Slot), (0 ≤ x3_4.toInt ∧ x3_4.toInt ≤ 12) → (0 ≤ x2_4.toInt ∧ x2_4.toInt ≤ 4095) → 13 - x3_4.toInt ≤ (n : Int) → lv_has ls 4 [(3, .int x3_4), (2, .int x2_4), (0, .ref a0), (1, .int x1)] → W p l e (rmU 3 0 0) s m args below meth c s.heap [] 0 0 Q (F0 m 4 ls []) := by
    intro n
    induction n with
    | zero =>
      intro x3_4 x2_4 ls j4_0 j4_1 hn hl
      exact absurd hn (by omega)
    | succ n ih4 =>
      intro x3_4 x2_4 ls j4_0 j4_1 hn hl
      refine lv_iload_n hx hb dX12_hearthsOf_4 rfl (lv_at hl 0 rfl) ?_
      refine lv_aload_n hx hb dX12_hearthsOf_5 rfl (lv_at hl 2 rfl) ?_
      refine callV_Pi C hO (fun _ _ _ => rfl) (c_X12_hearths l D G a0 ga0) kV_X12_67 ga0 (trivial) dX12_hearthsOf_6 hl.1 rfl rfl (by decide) cd_X12_hearths ⟨Nat.le_of_ble_eq_true rfl, Nat.le_of_ble_eq_true rfl, Nat.le_of_ble_eq_true rfl, Nat.le_of_ble_eq_true rfl, Nat.le_of_ble_eq_true rfl⟩ (fun v1 q1 => ?_)
      refine lv_icmp_ge (tgt := 37) hx hb dX12_hearthsOf_9 (by decide) (fun c2 => ?_) (fun c2 => ?_)
      · have b2 : v1.toInt ≤ x3_4.toInt := i_le.mp c2
        refine lv_iload_n hx hb dX12_hearthsOf_37 rfl (lv_at hl 1 rfl) ?_
        exact retP_i hQ C hr dX12_hearthsOf_38 (by omega)
      · have b2 : ¬ v1.toInt ≤ x3_4.toInt := fun z9 => c2 (i_le.mpr z9)
        refine lv_iload_n hx hb dX12_hearthsOf_12 rfl (lv_at hl 1 rfl) ?_
        refine lv_aload_n hx hb dX12_hearthsOf_13 rfl (lv_at hl 2 rfl) ?_
        refine lv_iload_n hx hb dX12_hearthsOf_14 rfl (lv_at hl 0 rfl) ?_
        refine lv_iload_n hx hb dX12_hearthsOf_15 rfl (lv_at hl 3 rfl) ?_
        refine callV_Pi C hO (fun _ _ _ => rfl) (c_X12_isOf l D G a0 x3_4 x1 ga0 (by omega)) kV_X12_70 ga0 (trivial) dX12_hearthsOf_16 hl.1 rfl rfl (by decide) cd_X12_isOf ⟨Nat.le_of_ble_eq_true rfl, Nat.le_of_ble_eq_true rfl, Nat.le_of_ble_eq_true rfl, Nat.le_of_ble_eq_true rfl, Nat.le_of_ble_eq_true rfl⟩ (fun v3 q3 => ?_)
        have k_0 : (0 : Int32).toInt = 0 := by decide
        refine lv_if_eq (tgt := 28) hx hb dX12_hearthsOf_19 (by decide) (fun c4 => ?_) (fun c4 => ?_)
        · have b4 : v3.toInt = (0 : Int32).toInt := i_eq.mp c4
          refine lv_iconst (v := 0) hx hb dX12_hearthsOf_28 (by decide) ?_
          refine lv_ior hx hb dX12_hearthsOf_29 ?_
          refine lv_topi (fun v5 ev5 => ?_)
          have f6 : 0 ≤ v5.toInt ∧ v5.toInt < 4096 := by rw [ev5]; exact i_or 12 (by omega) (by omega) (by omega) (by omega)
          refine lv_istore_n (lv' := [(2, .int v5), (3, .int x3_4), (0, .ref a0), (1, .int x1)]) hx hb dX12_hearthsOf_30 rfl hl (by decide) rfl (fun ls hl => ?_)
          obtain ⟨v7, ev7⟩ : ∃ y : Int32, y = x3_4 + (1) := ⟨_, rfl⟩
          have k_1 : (1 : Int32).toInt = 1 := by decide
          have f8 : v7.toInt = x3_4.toInt + (1) := by rw [ev7]; exact i_addc k_1 (by omega) (by omega)
          refine lv_iinc (v := v7) (lv' := [(3, .int v7), (2, .int v5), (0, .ref a0), (1, .int x1)]) hx hb dX12_hearthsOf_31 hl (k := 1) rfl (by rw [ev7]; rfl) (by decide) rfl (fun ls hl => ?_)
          refine lv_goto (tgt := 4) hx hb dX12_hearthsOf_34 (by decide) ?_
          exact ih4 v7 v5 ls (by omega) (by omega) (by omega) (lv_sub hl [0, 1, 2, 3] rfl)
        · have b4 : ¬ v3.toInt = (0 : Int32).toInt := fun z9 => c4 (i_eq.mpr z9)
          refine lv_iconst (v := 1) hx hb dX12_hearthsOf_22 (by decide) ?_
          refine lv_iload_n hx hb dX12_hearthsOf_23 rfl (lv_at hl 0 rfl) ?_
          have k_1 : (1 : Int32).toInt = 1 := by decide
          refine lv_ishl hx hb dX12_hearthsOf_24 ?_
          refine lv_topi (fun v9 ev9 => ?_)
          have f10 : 1 ≤ v9.toInt ∧ v9.toInt ≤ 2048 := by rw [ev9]; exact i_shl1 11 (by omega) (by omega) (by decide)
          refine lv_goto (tgt := 29) hx hb dX12_hearthsOf_25 (by decide) ?_
          refine lv_ior hx hb dX12_hearthsOf_29 ?_
          refine lv_topi (fun v11 ev11 => ?_)
          have f12 : 0 ≤ v11.toInt ∧ v11.toInt < 4096 := by rw [ev11]; exact i_or 12 (by omega) (by omega) (by omega) (by omega)
          refine lv_istore_n (lv' := [(2, .int v11), (3, .int x3_4), (0, .ref a0), (1, .int x1)]) hx hb dX12_hearthsOf_30 rfl hl (by decide) rfl (fun ls hl => ?_)
          obtain ⟨v13, ev13⟩ : ∃ y : Int32, y = x3_4 + (1) := ⟨_, rfl⟩
          have f14 : v13.toInt = x3_4.toInt + (1) := by rw [ev13]; exact i_addc k_1 (by omega) (by omega)
          refine lv_iinc (v := v13) (lv' := [(3, .int v13), (2, .int v11), (0, .ref a0), (1, .int x1)]) hx hb dX12_hearthsOf_31 hl (k := 1) rfl (by rw [ev13]; rfl) (by decide) rfl (fun ls hl => ?_)
          refine lv_goto (tgt := 4) hx hb dX12_hearthsOf_34 (by decide) ?_
          exact ih4 v13 v11 ls (by omega) (by omega) (by omega) (lv_sub hl [0, 1, 2, 3] rfl)
  have k_0 : (0 : Int32).toInt = 0 := by decide
  exact Lp4 13 (0 : Int32) (0 : Int32) ls (by omega) (by omega)  (by omega) (lv_sub hl [0, 1, 2, 3] rfl)

set_option maxRecDepth 100000 in
set_option maxHeartbeats 4000000 in
theorem c_X12_ofState (l : Launch) (D : DD) (G : Nat → Nat) (a0 : Nat) (x1 : Int32) (ga0 : G a0 = 30) : CP l D G yX12_ofState cX12_ofState 4 (some .int) 2 [.ref a0, .int x1] (fun _ => True) (pI (fun H r => 0 ≤ r.toInt ∧ r.toInt ≤ 4095)) := by
  refine enter (by decide) (Nat.le_of_ble_eq_true rfl) ?_
  intro p e s m args below meth c ls Q hA hQ C hr hO hpre hl
  have hx := C.1
  have hb := C.2.1
  have hl : lv_has ls 4 [(0, .ref a0), (1, .int x1)] := hl
  refine lv_iconst (v := 0) hx hb dX12_ofState_0 (by decide) ?_
  refine lv_istore_n (lv' := [(2, .int (0 : Int32)), (0, .ref a0), (1, .int x1)]) hx hb dX12_ofState_1 rfl hl (by decide) rfl (fun ls hl => ?_)
  refine lv_iconst (v := 0) hx hb dX12_ofState_2 (by decide) ?_
  refine lv_istore_n (lv' := [(3, .int (0 : Int32)), (2, .int (0 : Int32)), (0, .ref a0), (1, .int x1)]) hx hb dX12_ofState_3 rfl hl (by decide) rfl (fun ls hl => ?_)
  have Lp4 : ∀ (n : Nat) (x3_4 : Int32) (x2_4 : Int32) (ls : Array Slot), (0 ≤ x3_4.toInt ∧ x3_4.toInt ≤ 12) → (0 ≤ x2_4.toInt ∧ x2_4.toInt ≤ 4095) → 13 - x3_4.toInt ≤ (n : Int) → lv_has ls 4 [(3, .int x3_4), (2, .int x2_4), (0, .ref a0), (1, .int x1)] → W p l e (rmU 2 0 0) s m args below meth c s.heap [] 0 0 Q (F0 m 4 ls []) := by
    intro n
    induction n with
    | zero =>
      intro x3_4 x2_4 ls j4_0 j4_1 hn hl
      exact absurd hn (by omega)
    | succ n ih4 =>
      intro x3_4 x2_4 ls j4_0 j4_1 hn hl
      refine lv_iload_n hx hb dX12_ofState_4 rfl (lv_at hl 0 rfl) ?_
      refine lv_aload_n hx hb dX12_ofState_5 rfl (lv_at hl 2 rfl) ?_
      refine callV_Pi C hO (fun _ _ _ => rfl) (c_X12_hearths l D G a0 ga0) kV_X12_67 ga0 (trivial) dX12_ofState_6 hl.1 rfl rfl (by decide) cd_X12_hearths ⟨Nat.le_of_ble_eq_true rfl, Nat.le_of_ble_eq_true rfl, Nat.le_of_ble_eq_true rfl, Nat.le_of_ble_eq_true rfl, Nat.le_of_ble_eq_true rfl⟩ (fun v1 q1 => ?_)
      refine lv_icmp_ge (tgt := 38) hx hb dX12_ofState_9 (by decide) (fun c2 => ?_) (fun c2 => ?_)
      · have b2 : v1.toInt ≤ x3_4.toInt := i_le.mp c2
        refine lv_iload_n hx hb dX12_ofState_38 rfl (lv_at hl 1 rfl) ?_
        exact retP_i hQ C hr dX12_ofState_39 (by omega)
      · have b2 : ¬ v1.toInt ≤ x3_4.toInt := fun z9 => c2 (i_le.mpr z9)
        refine lv_iload_n hx hb dX12_ofState_12 rfl (lv_at hl 1 rfl) ?_
        refine lv_aload_n hx hb dX12_ofState_13 rfl (lv_at hl 2 rfl) ?_
        refine lv_iload_n hx hb dX12_ofState_14 rfl (lv_at hl 0 rfl) ?_
        refine lv_iconst (v := 5) hx hb dX12_ofState_15 (by decide) ?_
        have k_5 : (5 : Int32).toInt = 5 := by decide
        refine callV_Pi C hO (fun _ _ _ => rfl) (c_X12_ofHearth l D G a0 x3_4 (5 : Int32) ga0 (by omega) (by omega)) kV_X12_56 ga0 (trivial) dX12_ofState_16 hl.1 rfl rfl (by decide) cd_X12_ofHearth ⟨Nat.le_of_ble_eq_true rfl, Nat.le_of_ble_eq_true rfl, Nat.le_of_ble_eq_true rfl, Nat.le_of_ble_eq_true rfl, Nat.le_of_ble_eq_true rfl⟩ (fun v3 q3 => ?_)
        refine lv_iload_n hx hb dX12_ofState_19 rfl (lv_at hl 3 rfl) ?_
        refine lv_icmp_ne (tgt := 29) hx hb dX12_ofState_20 (by decide) (fun c4 => ?_) (fun c4 => ?_)
        · have b4 : ¬ v3.toInt = x1.toInt := fun z9 => c4 (i_eq.mpr z9)
          refine lv_iconst (v := 0) hx hb dX12_ofState_29 (by decide) ?_
          have k_0 : (0 : Int32).toInt = 0 := by decide
          refine lv_ior hx hb dX12_ofState_30 ?_
          refine lv_topi (fun v5 ev5 => ?_)
          have f6 : 0 ≤ v5.toInt ∧ v5.toInt < 4096 := by rw [ev5]; exact i_or 12 (by omega) (by omega) (by omega) (by omega)
          refine lv_istore_n (lv' := [(2, .int v5), (3, .int x3_4), (0, .ref a0), (1, .int x1)]) hx hb dX12_ofState_31 rfl hl (by decide) rfl (fun ls hl => ?_)
          obtain ⟨v7, ev7⟩ : ∃ y : Int32, y = x3_4 + (1) := ⟨_, rfl⟩
          have k_1 : (1 : Int32).toInt = 1 := by decide
          have f8 : v7.toInt = x3_4.toInt + (1) := by rw [ev7]; exact i_addc k_1 (by omega) (by omega)
          refine lv_iinc (v := v7) (lv' := [(3, .int v7), (2, .int v5), (0, .ref a0), (1, .int x1)]) hx hb dX12_ofState_32 hl (k := 1) rfl (by rw [ev7]; rfl) (by decide) rfl (fun ls hl => ?_)
          refine lv_goto (tgt := 4) hx hb dX12_ofState_35 (by decide) ?_
          exact ih4 v7 v5 ls (by omega) (by omega) (by omega) (lv_sub hl [0, 1, 2, 3] rfl)
        · have b4 : v3.toInt = x1.toInt := i_eq.mp c4
          refine lv_iconst (v := 1) hx hb dX12_ofState_23 (by decide) ?_
          refine lv_iload_n hx hb dX12_ofState_24 rfl (lv_at hl 0 rfl) ?_
          have k_1 : (1 : Int32).toInt = 1 := by decide
          refine lv_ishl hx hb dX12_ofState_25 ?_
          refine lv_topi (fun v9 ev9 => ?_)
          have f10 : 1 ≤ v9.toInt ∧ v9.toInt ≤ 2048 := by rw [ev9]; exact i_shl1 11 (by omega) (by omega) (by decide)
          refine lv_goto (tgt := 30) hx hb dX12_ofState_26 (by decide) ?_
          refine lv_ior hx hb dX12_ofState_30 ?_
          refine lv_topi (fun v11 ev11 => ?_)
          have f12 : 0 ≤ v11.toInt ∧ v11.toInt < 4096 := by rw [ev11]; exact i_or 12 (by omega) (by omega) (by omega) (by omega)
          refine lv_istore_n (lv' := [(2, .int v11), (3, .int x3_4), (0, .ref a0), (1, .int x1)]) hx hb dX12_ofState_31 rfl hl (by decide) rfl (fun ls hl => ?_)
          obtain ⟨v13, ev13⟩ : ∃ y : Int32, y = x3_4 + (1) := ⟨_, rfl⟩
          have f14 : v13.toInt = x3_4.toInt + (1) := by rw [ev13]; exact i_addc k_1 (by omega) (by omega)
          refine lv_iinc (v := v13) (lv' := [(3, .int v13), (2, .int v11), (0, .ref a0), (1, .int x1)]) hx hb dX12_ofState_32 hl (k := 1) rfl (by rw [ev13]; rfl) (by decide) rfl (fun ls hl => ?_)
          refine lv_goto (tgt := 4) hx hb dX12_ofState_35 (by decide) ?_
          exact ih4 v13 v11 ls (by omega) (by omega) (by omega) (lv_sub hl [0, 1, 2, 3] rfl)
  have k_0 : (0 : Int32).toInt = 0 := by decide
  exact Lp4 13 (0 : Int32) (0 : Int32) ls (by omega) (by omega)  (by omega) (lv_sub hl [0, 1, 2, 3] rfl)

set_option maxRecDepth 100000 in
set_option maxHeartbeats 4000000 in
theorem c_X12_drawn (l : Launch) (D : DD) (G : Nat → Nat) (a0 : Nat) (x1 : Int32) (ga0 : G a0 = 30) (ix1 : 100 ≤ x1.toInt ∧ x1.toInt ≤ 100) : CE l D G yX12_drawn cX12_drawn 2 (some .int) 0 [.ref a0, .int x1] (fun _ => True) [(31, 0)] (xI (fun H r H1 => True)) := by
  refine enter (by decide) (Nat.le_of_ble_eq_true rfl) ?_
  intro p e s m args below meth c ls Q hA hQ C hr hO hpre hl
  have hx := C.1
  have hb := C.2.1
  have S : Sd D G [(31, 0)] s.heap s.heap [] := Sd.start hO
  have hl : lv_has ls 2 [(0, .ref a0), (1, .int x1)] := hl
  refine lv_aload_n hx hb dX12_drawn_0 rfl (lv_at hl 0 rfl) ?_
  refine q_gr (T := TX12) C S.1 ga0 1 kF_X12_13 dX12_drawn_1 rfl rfl (by decide) rfl (by decide) rfl (fun g1 => ?_)
  refine lv_bipush (v := 11) hx hb dX12_drawn_4 (by decide) ?_
  refine lv_ldc hx hb C.2.2.2.1 (C.2.2.2.2.1 _ kC_X12_74) dX12_drawn_6 ?_
  refine lv_aload_n hx hb dX12_drawn_8 rfl (lv_at hl 0 rfl) ?_
  refine q_gr (T := TX12) C S.1 ga0 1 kF_X12_13 dX12_drawn_9 rfl rfl (by decide) rfl (by decide) rfl (fun g2 => ?_)
  refine lv_bipush (v := 11) hx hb dX12_drawn_12 (by decide) ?_
  have n3 : aN s.heap (fR D s.heap 11 a0 1) = 2052 := len_31 S.1 g2
  have k_11 : (11 : Int32).toInt = 11 := by decide
  refine q_iald C S.1 g2 (by omega) (by omega) dX12_drawn_14 rfl (by decide) ?_
  refine lv_topi (fun v4 ev4 => ?_)
  have k_1103515245 : (1103515245 : Int32).toInt = 1103515245 := by decide
  refine lv_imul hx hb dX12_drawn_15 ?_
  refine lv_topi (fun v5 ev5 => ?_)
  refine lv_sipush (v := 12345) hx hb dX12_drawn_16 (by decide) ?_
  have k_12345 : (12345 : Int32).toInt = 12345 := by decide
  refine lv_iadd hx hb dX12_drawn_19 ?_
  refine lv_topi (fun v6 ev6 => ?_)
  refine q_iast C S g1 (by omega) (by omega) dX12_drawn_20 rfl (by decide) (by decide +kernel) (fun _ _ h => wk_low _ _ (by omega) (fun h9 => by omega) (fun h9 => by omega) (fun h9 => by omega) (fun j hj h9 => by omega) h) (fun H7 L7 S7 P7 => ?_) (hs := fun _ => Or.inr (vy_no (by omega) (by omega) (by omega) (by omega) (fun h9 hh9 => by omega) (fun j9 hj9 => by omega)))
  refine lv_aload_n hx hb dX12_drawn_21 rfl (lv_at hl 0 rfl) ?_
  refine q_gr (T := TX12) C S7.1 ga0 1 kF_X12_13 dX12_drawn_22 rfl rfl (by decide) rfl (by decide) rfl (fun g8 => ?_)
  refine lv_bipush (v := 11) hx hb dX12_drawn_25 (by decide) ?_
  have n9 : aN H7 (fR D H7 11 a0 1) = 2052 := len_31 S7.1 g8
  refine q_iald C S7.1 g8 (by omega) (by omega) dX12_drawn_27 rfl (by decide) ?_
  refine lv_topi (fun v10 ev10 => ?_)
  refine lv_bipush (v := 16) hx hb dX12_drawn_28 (by decide) ?_
  have k_16 : (16 : Int32).toInt = 16 := by decide
  refine lv_ishr hx hb dX12_drawn_30 ?_
  refine lv_topi (fun v11 ev11 => ?_)
  refine lv_sipush (v := 32767) hx hb dX12_drawn_31 (by decide) ?_
  have k_32767 : (32767 : Int32).toInt = 32767 := by decide
  refine lv_iand hx hb dX12_drawn_34 ?_
  have r12 := i_rng v11
  refine lv_topi (fun v13 ev13 => ?_)
  have f14 : 0 ≤ v13.toInt ∧ v13.toInt ≤ (32767 : Int32).toInt := by rw [ev13]; exact i_and (by omega)
  refine lv_iload_n hx hb dX12_drawn_35 rfl (lv_at hl 1 rfl) ?_
  refine lv_irem hx hb dX12_drawn_36 (by first | decide | (intro z9; have := i_eq.mp z9; simp at this; omega) | assumption) ?_
  refine lv_topi (fun v15 ev15 => ?_)
  exact retE_i hQ C S7 hr dX12_drawn_37 (trivial)

set_option maxRecDepth 100000 in
set_option maxHeartbeats 4000000 in
theorem c_X12_burningOf (l : Launch) (D : DD) (G : Nat → Nat) (a0 : Nat) (x1 : Int32) (ga0 : G a0 = 30) : CP l D G yX12_burningOf cX12_burningOf 2 (some .int) 4 [.ref a0, .int x1] (fun _ => True) (pI (fun H r => 0 ≤ r.toInt ∧ r.toInt ≤ 4095)) := by
  refine enter (by decide) (Nat.le_of_ble_eq_true rfl) ?_
  intro p e s m args below meth c ls Q hA hQ C hr hO hpre hl
  have hx := C.1
  have hb := C.2.1
  have hl : lv_has ls 2 [(0, .ref a0), (1, .int x1)] := hl
  refine lv_aload_n hx hb dX12_burningOf_0 rfl (lv_at hl 0 rfl) ?_
  refine lv_iload_n hx hb dX12_burningOf_1 rfl (lv_at hl 1 rfl) ?_
  refine callV_Pi C hO (fun _ _ _ => rfl) (c_X12_hearthsOf l D G a0 x1 ga0) kV_X12_138 ga0 (trivial) dX12_burningOf_2 hl.1 rfl rfl (by decide) cd_X12_hearthsOf ⟨Nat.le_of_ble_eq_true rfl, Nat.le_of_ble_eq_true rfl, Nat.le_of_ble_eq_true rfl, Nat.le_of_ble_eq_true rfl, Nat.le_of_ble_eq_true rfl⟩ (fun v1 q1 => ?_)
  refine lv_aload_n hx hb dX12_burningOf_5 rfl (lv_at hl 0 rfl) ?_
  refine lv_iconst (v := 1) hx hb dX12_burningOf_6 (by decide) ?_
  have k_1 : (1 : Int32).toInt = 1 := by decide
  refine callV_Pi C hO (fun _ _ _ => rfl) (c_X12_ofState l D G a0 (1 : Int32) ga0) kV_X12_249 ga0 (trivial) dX12_burningOf_7 hl.1 rfl rfl (by decide) cd_X12_ofState ⟨Nat.le_of_ble_eq_true rfl, Nat.le_of_ble_eq_true rfl, Nat.le_of_ble_eq_true rfl, Nat.le_of_ble_eq_true rfl, Nat.le_of_ble_eq_true rfl⟩ (fun v2 q2 => ?_)
  refine lv_iconst (v := -1) hx hb dX12_burningOf_10 (by decide) ?_
  have k_m1 : (-1 : Int32).toInt = -1 := by decide
  refine lv_ixor hx hb dX12_burningOf_11 ?_
  refine lv_topi (fun v3 ev3 => ?_)
  refine lv_iand hx hb dX12_burningOf_12 ?_
  have r4 := i_rng v3
  refine lv_topi (fun v5 ev5 => ?_)
  have f6 : 0 ≤ v5.toInt ∧ v5.toInt ≤ v1.toInt := by rw [ev5]; exact i_andl (by omega)
  exact retP_i hQ C hr dX12_burningOf_13 (by omega)

set_option maxRecDepth 100000 in
set_option maxHeartbeats 4000000 in
theorem c_J6_bitCount_0f7a4 (l : Launch) (D : DD) (G : Nat → Nat) (x0 : Int32) : CP l D G yJ6_bitCount_0f7a4 cJ6_bitCount_0f7a4 1 (some .int) 0 [.int x0] (fun _ => True) (pI (fun H r => 0 ≤ x0.toInt ∧ x0.toInt < 4096 → r.toInt = ((ones x0.toInt.toNat : Nat) : Int))) := by
  refine enter (by decide) (Nat.le_of_ble_eq_true rfl) ?_
  intro p e s m args below meth c ls Q hA hQ C hr hO hpre hl
  have hx := C.1
  have hb := C.2.1
  have hl : lv_has ls 1 [(0, .int x0)] := hl
  refine lv_iload_n hx hb dJ6_bitCount_0f7a4_0 rfl (lv_at hl 0 rfl) ?_
  refine lv_iload_n hx hb dJ6_bitCount_0f7a4_1 rfl (lv_at hl 0 rfl) ?_
  refine lv_iconst (v := 1) hx hb dJ6_bitCount_0f7a4_2 (by decide) ?_
  have k_1 : (1 : Int32).toInt = 1 := by decide
  refine lv_iushr hx hb dJ6_bitCount_0f7a4_3 rfl ?_
  refine lv_topi (fun v1 ev1 => ?_)
  refine lv_ldcw hx hb C.2.2.2.1 (C.2.2.2.2.1 _ kC_J6_265) dJ6_bitCount_0f7a4_4 ?_
  have k_1431655765 : (1431655765 : Int32).toInt = 1431655765 := by decide
  refine lv_iand hx hb dJ6_bitCount_0f7a4_7 ?_
  have r2 := i_rng v1
  refine lv_topi (fun v3 ev3 => ?_)
  have f4 : 0 ≤ v3.toInt ∧ v3.toInt ≤ (1431655765 : Int32).toInt := by rw [ev3]; exact i_and (by omega)
  refine lv_isub hx hb dJ6_bitCount_0f7a4_8 ?_
  refine lv_topi (fun v5 ev5 => ?_)
  refine lv_istore_n (lv' := [(0, .int v5)]) hx hb dJ6_bitCount_0f7a4_9 rfl hl (by decide) rfl (fun ls hl => ?_)
  refine lv_iload_n hx hb dJ6_bitCount_0f7a4_10 rfl (lv_at hl 0 rfl) ?_
  refine lv_ldcw hx hb C.2.2.2.1 (C.2.2.2.2.1 _ kC_J6_266) dJ6_bitCount_0f7a4_11 ?_
  have k_858993459 : (858993459 : Int32).toInt = 858993459 := by decide
  refine lv_iand hx hb dJ6_bitCount_0f7a4_14 ?_
  have r6 := i_rng v5
  refine lv_topi (fun v7 ev7 => ?_)
  have f8 : 0 ≤ v7.toInt ∧ v7.toInt ≤ (858993459 : Int32).toInt := by rw [ev7]; exact i_and (by omega)
  refine lv_iload_n hx hb dJ6_bitCount_0f7a4_15 rfl (lv_at hl 0 rfl) ?_
  refine lv_iconst (v := 2) hx hb dJ6_bitCount_0f7a4_16 (by decide) ?_
  have k_2 : (2 : Int32).toInt = 2 := by decide
  refine lv_iushr hx hb dJ6_bitCount_0f7a4_17 rfl ?_
  refine lv_topi (fun v9 ev9 => ?_)
  refine lv_ldcw hx hb C.2.2.2.1 (C.2.2.2.2.1 _ kC_J6_266) dJ6_bitCount_0f7a4_18 ?_
  refine lv_iand hx hb dJ6_bitCount_0f7a4_21 ?_
  have r10 := i_rng v9
  refine lv_topi (fun v11 ev11 => ?_)
  have f12 : 0 ≤ v11.toInt ∧ v11.toInt ≤ (858993459 : Int32).toInt := by rw [ev11]; exact i_and (by omega)
  refine lv_iadd hx hb dJ6_bitCount_0f7a4_22 ?_
  refine lv_topi (fun v13 ev13 => ?_)
  have f14 : v13.toInt = v7.toInt + v11.toInt := by rw [ev13]; exact i_add (by omega) (by omega)
  refine lv_istore_n (lv' := [(0, .int v13)]) hx hb dJ6_bitCount_0f7a4_23 rfl hl (by decide) rfl (fun ls hl => ?_)
  refine lv_iload_n hx hb dJ6_bitCount_0f7a4_24 rfl (lv_at hl 0 rfl) ?_
  refine lv_iload_n hx hb dJ6_bitCount_0f7a4_25 rfl (lv_at hl 0 rfl) ?_
  refine lv_iconst (v := 4) hx hb dJ6_bitCount_0f7a4_26 (by decide) ?_
  have k_4 : (4 : Int32).toInt = 4 := by decide
  refine lv_iushr hx hb dJ6_bitCount_0f7a4_27 rfl ?_
  refine lv_topi (fun v15 ev15 => ?_)
  refine lv_iadd hx hb dJ6_bitCount_0f7a4_28 ?_
  refine lv_topi (fun v16 ev16 => ?_)
  refine lv_ldcw hx hb C.2.2.2.1 (C.2.2.2.2.1 _ kC_J6_267) dJ6_bitCount_0f7a4_29 ?_
  have k_252645135 : (252645135 : Int32).toInt = 252645135 := by decide
  refine lv_iand hx hb dJ6_bitCount_0f7a4_32 ?_
  have r17 := i_rng v16
  refine lv_topi (fun v18 ev18 => ?_)
  have f19 : 0 ≤ v18.toInt ∧ v18.toInt ≤ (252645135 : Int32).toInt := by rw [ev18]; exact i_and (by omega)
  refine lv_istore_n (lv' := [(0, .int v18)]) hx hb dJ6_bitCount_0f7a4_33 rfl hl (by decide) rfl (fun ls hl => ?_)
  refine lv_iload_n hx hb dJ6_bitCount_0f7a4_34 rfl (lv_at hl 0 rfl) ?_
  refine lv_iload_n hx hb dJ6_bitCount_0f7a4_35 rfl (lv_at hl 0 rfl) ?_
  refine lv_bipush (v := 8) hx hb dJ6_bitCount_0f7a4_36 (by decide) ?_
  have k_8 : (8 : Int32).toInt = 8 := by decide
  refine lv_iushr hx hb dJ6_bitCount_0f7a4_38 rfl ?_
  refine lv_topi (fun v20 ev20 => ?_)
  refine lv_iadd hx hb dJ6_bitCount_0f7a4_39 ?_
  refine lv_topi (fun v21 ev21 => ?_)
  refine lv_istore_n (lv' := [(0, .int v21)]) hx hb dJ6_bitCount_0f7a4_40 rfl hl (by decide) rfl (fun ls hl => ?_)
  refine lv_iload_n hx hb dJ6_bitCount_0f7a4_41 rfl (lv_at hl 0 rfl) ?_
  refine lv_iload_n hx hb dJ6_bitCount_0f7a4_42 rfl (lv_at hl 0 rfl) ?_
  refine lv_bipush (v := 16) hx hb dJ6_bitCount_0f7a4_43 (by decide) ?_
  have k_16 : (16 : Int32).toInt = 16 := by decide
  refine lv_iushr hx hb dJ6_bitCount_0f7a4_45 rfl ?_
  refine lv_topi (fun v22 ev22 => ?_)
  refine lv_iadd hx hb dJ6_bitCount_0f7a4_46 ?_
  refine lv_topi (fun v23 ev23 => ?_)
  refine lv_istore_n (lv' := [(0, .int v23)]) hx hb dJ6_bitCount_0f7a4_47 rfl hl (by decide) rfl (fun ls hl => ?_)
  refine lv_iload_n hx hb dJ6_bitCount_0f7a4_48 rfl (lv_at hl 0 rfl) ?_
  refine lv_bipush (v := 63) hx hb dJ6_bitCount_0f7a4_49 (by decide) ?_
  have k_63 : (63 : Int32).toInt = 63 := by decide
  refine lv_iand hx hb dJ6_bitCount_0f7a4_51 ?_
  have r24 := i_rng v23
  refine lv_topi (fun v25 ev25 => ?_)
  have f26 : 0 ≤ v25.toInt ∧ v25.toInt ≤ (63 : Int32).toInt := by rw [ev25]; exact i_and (by omega)
  exact retP_i hQ C hr dJ6_bitCount_0f7a4_52 (fun h9 => by subst_vars; exact bc_ones h9)

set_option maxRecDepth 100000 in
set_option maxHeartbeats 4000000 in
theorem c_X12_factOf (l : Launch) (D : DD) (G : Nat → Nat) (a0 : Nat) (x1 : Int32) (x2 : Int32) (x3 : Int32) (ga0 : G a0 = 30) (ix3 : 0 ≤ x3.toInt ∧ x3.toInt ≤ 11) : CP l D G yX12_factOf cX12_factOf 5 (some .int) 5 [.ref a0, .int x1, .int x2, .int x3] (fun _ => True) (pI (fun H r => True)) := by
  refine enter (by decide) (Nat.le_of_ble_eq_true rfl) ?_
  intro p e s m args below meth c ls Q hA hQ C hr hO hpre hl
  have hx := C.1
  have hb := C.2.1
  have hl : lv_has ls 5 [(0, .ref a0), (1, .int x1), (2, .int x2), (3, .int x3)] := hl
  refine lv_aload_n hx hb dX12_factOf_0 rfl (lv_at hl 0 rfl) ?_
  refine lv_iload_n hx hb dX12_factOf_1 rfl (lv_at hl 3 rfl) ?_
  refine lv_iconst (v := 0) hx hb dX12_factOf_2 (by decide) ?_
  have k_0 : (0 : Int32).toInt = 0 := by decide
  refine callV_Pi C hO (fun _ _ _ => rfl) (c_X12_ofHearth l D G a0 x3 (0 : Int32) ga0 (by omega) (by omega)) kV_X12_56 ga0 (trivial) dX12_factOf_3 hl.1 rfl rfl (by decide) cd_X12_ofHearth ⟨Nat.le_of_ble_eq_true rfl, Nat.le_of_ble_eq_true rfl, Nat.le_of_ble_eq_true rfl, Nat.le_of_ble_eq_true rfl, Nat.le_of_ble_eq_true rfl⟩ (fun v1 q1 => ?_)
  refine lv_istore (lv' := [(4, .int v1), (0, .ref a0), (1, .int x1), (2, .int x2), (3, .int x3)]) hx hb dX12_factOf_6 hl (by decide) rfl (fun ls hl => ?_)
  refine lv_iload_n hx hb dX12_factOf_8 rfl (lv_at hl 2 rfl) ?_
  by_cases w2 : x1.toInt = (0)
  · refine lv_tableIn (tgt := 72) (off := 63) hx hb dX12_factOf_9 (by omega) (by omega) (by rw [w2]; rfl) (by decide) ?_
    refine lv_iload hx hb dX12_factOf_72 (lv_at hl 0 rfl) ?_
    exact retP_i hQ C hr dX12_factOf_74 (trivial)
  by_cases w3 : x1.toInt = (1)
  · refine lv_tableIn (tgt := 75) (off := 66) hx hb dX12_factOf_9 (by omega) (by omega) (by rw [w3]; rfl) (by decide) ?_
    refine lv_aload_n hx hb dX12_factOf_75 rfl (lv_at hl 1 rfl) ?_
    refine lv_iload_n hx hb dX12_factOf_76 rfl (lv_at hl 4 rfl) ?_
    refine lv_iconst (v := 2) hx hb dX12_factOf_77 (by decide) ?_
    have k_2 : (2 : Int32).toInt = 2 := by decide
    refine callV_Pi C hO (fun _ _ _ => rfl) (c_X12_ofHearth l D G a0 x3 (2 : Int32) ga0 (by omega) (by omega)) kV_X12_56 ga0 (trivial) dX12_factOf_78 hl.1 rfl rfl (by decide) cd_X12_ofHearth ⟨Nat.le_of_ble_eq_true rfl, Nat.le_of_ble_eq_true rfl, Nat.le_of_ble_eq_true rfl, Nat.le_of_ble_eq_true rfl, Nat.le_of_ble_eq_true rfl⟩ (fun v4 q4 => ?_)
    exact retP_i hQ C hr dX12_factOf_81 (trivial)
  by_cases w5 : x1.toInt = (2)
  · refine lv_tableIn (tgt := 82) (off := 73) hx hb dX12_factOf_9 (by omega) (by omega) (by rw [w5]; rfl) (by decide) ?_
    refine lv_aload_n hx hb dX12_factOf_82 rfl (lv_at hl 1 rfl) ?_
    refine lv_iload_n hx hb dX12_factOf_83 rfl (lv_at hl 4 rfl) ?_
    refine lv_iconst (v := 3) hx hb dX12_factOf_84 (by decide) ?_
    have k_3 : (3 : Int32).toInt = 3 := by decide
    refine callV_Pi C hO (fun _ _ _ => rfl) (c_X12_ofHearth l D G a0 x3 (3 : Int32) ga0 (by omega) (by omega)) kV_X12_56 ga0 (trivial) dX12_factOf_85 hl.1 rfl rfl (by decide) cd_X12_ofHearth ⟨Nat.le_of_ble_eq_true rfl, Nat.le_of_ble_eq_true rfl, Nat.le_of_ble_eq_true rfl, Nat.le_of_ble_eq_true rfl, Nat.le_of_ble_eq_true rfl⟩ (fun v6 q6 => ?_)
    exact retP_i hQ C hr dX12_factOf_88 (trivial)
  by_cases w7 : x1.toInt = (3)
  · refine lv_tableIn (tgt := 89) (off := 80) hx hb dX12_factOf_9 (by omega) (by omega) (by rw [w7]; rfl) (by decide) ?_
    refine lv_aload_n hx hb dX12_factOf_89 rfl (lv_at hl 1 rfl) ?_
    refine lv_iload hx hb dX12_factOf_90 (lv_at hl 0 rfl) ?_
    refine callV_Pi C hO (fun _ _ _ => rfl) (c_X12_burningOf l D G a0 v1 ga0) kV_X12_252 ga0 (trivial) dX12_factOf_92 hl.1 rfl rfl (by decide) cd_X12_burningOf ⟨Nat.le_of_ble_eq_true rfl, Nat.le_of_ble_eq_true rfl, Nat.le_of_ble_eq_true rfl, Nat.le_of_ble_eq_true rfl, Nat.le_of_ble_eq_true rfl⟩ (fun v8 q8 => ?_)
    refine callS_Pi C hO (fun _ _ _ => rfl) (c_J6_bitCount_0f7a4 l D G v8) kS_X12_142 (trivial) dX12_factOf_95 hl.1 cd_J6_bitCount_0f7a4 ⟨Nat.le_of_ble_eq_true rfl, Nat.le_of_ble_eq_true rfl, Nat.le_of_ble_eq_true rfl, Nat.le_of_ble_eq_true rfl, Nat.le_of_ble_eq_true rfl⟩ (fun v9 q9 => ?_)
    exact retP_i hQ C hr dX12_factOf_98 (trivial)
  by_cases w10 : x1.toInt = (4)
  · refine lv_tableIn (tgt := 99) (off := 90) hx hb dX12_factOf_9 (by omega) (by omega) (by rw [w10]; rfl) (by decide) ?_
    refine lv_aload_n hx hb dX12_factOf_99 rfl (lv_at hl 1 rfl) ?_
    refine lv_iload hx hb dX12_factOf_100 (lv_at hl 0 rfl) ?_
    refine lv_iconst (v := 2) hx hb dX12_factOf_102 (by decide) ?_
    have k_2 : (2 : Int32).toInt = 2 := by decide
    refine callV_Pi C hO (fun _ _ _ => rfl) (c_X12_of l D G a0 v1 (2 : Int32) ga0 (by omega) (by omega)) kV_X12_255 ga0 (trivial) dX12_factOf_103 hl.1 rfl rfl (by decide) cd_X12_of ⟨Nat.le_of_ble_eq_true rfl, Nat.le_of_ble_eq_true rfl, Nat.le_of_ble_eq_true rfl, Nat.le_of_ble_eq_true rfl, Nat.le_of_ble_eq_true rfl⟩ (fun v11 q11 => ?_)
    exact retP_i hQ C hr dX12_factOf_106 (trivial)
  by_cases w12 : x1.toInt = (5)
  · refine lv_tableIn (tgt := 107) (off := 98) hx hb dX12_factOf_9 (by omega) (by omega) (by rw [w12]; rfl) (by decide) ?_
    refine lv_aload_n hx hb dX12_factOf_107 rfl (lv_at hl 1 rfl) ?_
    refine q_gr (T := TX12) C hO ga0 1 kF_X12_13 dX12_factOf_108 rfl rfl (by decide) rfl (by decide) rfl (fun g13 => ?_)
    refine lv_iconst (v := 4) hx hb dX12_factOf_111 (by decide) ?_
    have n14 : aN s.heap (fR D s.heap 11 a0 1) = 2052 := len_31 hO g13
    have k_4 : (4 : Int32).toInt = 4 := by decide
    refine q_iald C hO g13 (by omega) (by omega) dX12_factOf_112 rfl (by decide) ?_
    refine lv_topi (fun v15 ev15 => ?_)
    exact retP_i hQ C hr dX12_factOf_113 (trivial)
  by_cases w16 : x1.toInt = (6)
  · refine lv_tableIn (tgt := 114) (off := 105) hx hb dX12_factOf_9 (by omega) (by omega) (by rw [w16]; rfl) (by decide) ?_
    refine lv_aload_n hx hb dX12_factOf_114 rfl (lv_at hl 1 rfl) ?_
    refine lv_iload hx hb dX12_factOf_115 (lv_at hl 0 rfl) ?_
    refine lv_iconst (v := 1) hx hb dX12_factOf_117 (by decide) ?_
    have k_1 : (1 : Int32).toInt = 1 := by decide
    refine callV_Pi C hO (fun _ _ _ => rfl) (c_X12_of l D G a0 v1 (1 : Int32) ga0 (by omega) (by omega)) kV_X12_255 ga0 (trivial) dX12_factOf_118 hl.1 rfl rfl (by decide) cd_X12_of ⟨Nat.le_of_ble_eq_true rfl, Nat.le_of_ble_eq_true rfl, Nat.le_of_ble_eq_true rfl, Nat.le_of_ble_eq_true rfl, Nat.le_of_ble_eq_true rfl⟩ (fun v17 q17 => ?_)
    exact retP_i hQ C hr dX12_factOf_121 (trivial)
  by_cases w18 : x1.toInt = (7)
  · refine lv_tableIn (tgt := 124) (off := 115) hx hb dX12_factOf_9 (by omega) (by omega) (by rw [w18]; rfl) (by decide) ?_
    refine lv_aload_n hx hb dX12_factOf_124 rfl (lv_at hl 1 rfl) ?_
    refine lv_iload_n hx hb dX12_factOf_125 rfl (lv_at hl 4 rfl) ?_
    refine lv_iconst (v := 1) hx hb dX12_factOf_126 (by decide) ?_
    have k_1 : (1 : Int32).toInt = 1 := by decide
    refine callV_Pi C hO (fun _ _ _ => rfl) (c_X12_ofHearth l D G a0 x3 (1 : Int32) ga0 (by omega) (by omega)) kV_X12_56 ga0 (trivial) dX12_factOf_127 hl.1 rfl rfl (by decide) cd_X12_ofHearth ⟨Nat.le_of_ble_eq_true rfl, Nat.le_of_ble_eq_true rfl, Nat.le_of_ble_eq_true rfl, Nat.le_of_ble_eq_true rfl, Nat.le_of_ble_eq_true rfl⟩ (fun v19 q19 => ?_)
    refine lv_iload_n hx hb dX12_factOf_130 rfl (lv_at hl 2 rfl) ?_
    refine lv_bipush (v := 7) hx hb dX12_factOf_131 (by decide) ?_
    have k_7 : (7 : Int32).toInt = 7 := by decide
    refine lv_isub hx hb dX12_factOf_133 ?_
    refine lv_topi (fun v20 ev20 => ?_)
    have f21 : v20.toInt = x1.toInt - (7 : Int32).toInt := by rw [ev20]; exact i_sub (by omega) (by omega)
    refine lv_icmp_ne (tgt := 141) hx hb dX12_factOf_134 (by decide) (fun c22 => ?_) (fun c22 => ?_)
    · have b22 : ¬ v19.toInt = v20.toInt := fun z9 => c22 (i_eq.mpr z9)
      refine lv_iconst (v := 0) hx hb dX12_factOf_141 (by decide) ?_
      exact retP_i hQ C hr dX12_factOf_142 (trivial)
    · have b22 : v19.toInt = v20.toInt := i_eq.mp c22
      refine lv_iconst (v := 1) hx hb dX12_factOf_137 (by decide) ?_
      refine lv_goto (tgt := 142) hx hb dX12_factOf_138 (by decide) ?_
      exact retP_i hQ C hr dX12_factOf_142 (trivial)
  by_cases w23 : x1.toInt = (8)
  · refine lv_tableIn (tgt := 124) (off := 115) hx hb dX12_factOf_9 (by omega) (by omega) (by rw [w23]; rfl) (by decide) ?_
    refine lv_aload_n hx hb dX12_factOf_124 rfl (lv_at hl 1 rfl) ?_
    refine lv_iload_n hx hb dX12_factOf_125 rfl (lv_at hl 4 rfl) ?_
    refine lv_iconst (v := 1) hx hb dX12_factOf_126 (by decide) ?_
    have k_1 : (1 : Int32).toInt = 1 := by decide
    refine callV_Pi C hO (fun _ _ _ => rfl) (c_X12_ofHearth l D G a0 x3 (1 : Int32) ga0 (by omega) (by omega)) kV_X12_56 ga0 (trivial) dX12_factOf_127 hl.1 rfl rfl (by decide) cd_X12_ofHearth ⟨Nat.le_of_ble_eq_true rfl, Nat.le_of_ble_eq_true rfl, Nat.le_of_ble_eq_true rfl, Nat.le_of_ble_eq_true rfl, Nat.le_of_ble_eq_true rfl⟩ (fun v24 q24 => ?_)
    refine lv_iload_n hx hb dX12_factOf_130 rfl (lv_at hl 2 rfl) ?_
    refine lv_bipush (v := 7) hx hb dX12_factOf_131 (by decide) ?_
    have k_7 : (7 : Int32).toInt = 7 := by decide
    refine lv_isub hx hb dX12_factOf_133 ?_
    refine lv_topi (fun v25 ev25 => ?_)
    have f26 : v25.toInt = x1.toInt - (7 : Int32).toInt := by rw [ev25]; exact i_sub (by omega) (by omega)
    refine lv_icmp_ne (tgt := 141) hx hb dX12_factOf_134 (by decide) (fun c27 => ?_) (fun c27 => ?_)
    · have b27 : ¬ v24.toInt = v25.toInt := fun z9 => c27 (i_eq.mpr z9)
      refine lv_iconst (v := 0) hx hb dX12_factOf_141 (by decide) ?_
      exact retP_i hQ C hr dX12_factOf_142 (trivial)
    · have b27 : v24.toInt = v25.toInt := i_eq.mp c27
      refine lv_iconst (v := 1) hx hb dX12_factOf_137 (by decide) ?_
      refine lv_goto (tgt := 142) hx hb dX12_factOf_138 (by decide) ?_
      exact retP_i hQ C hr dX12_factOf_142 (trivial)
  by_cases w28 : x1.toInt = (9)
  · refine lv_tableIn (tgt := 124) (off := 115) hx hb dX12_factOf_9 (by omega) (by omega) (by rw [w28]; rfl) (by decide) ?_
    refine lv_aload_n hx hb dX12_factOf_124 rfl (lv_at hl 1 rfl) ?_
    refine lv_iload_n hx hb dX12_factOf_125 rfl (lv_at hl 4 rfl) ?_
    refine lv_iconst (v := 1) hx hb dX12_factOf_126 (by decide) ?_
    have k_1 : (1 : Int32).toInt = 1 := by decide
    refine callV_Pi C hO (fun _ _ _ => rfl) (c_X12_ofHearth l D G a0 x3 (1 : Int32) ga0 (by omega) (by omega)) kV_X12_56 ga0 (trivial) dX12_factOf_127 hl.1 rfl rfl (by decide) cd_X12_ofHearth ⟨Nat.le_of_ble_eq_true rfl, Nat.le_of_ble_eq_true rfl, Nat.le_of_ble_eq_true rfl, Nat.le_of_ble_eq_true rfl, Nat.le_of_ble_eq_true rfl⟩ (fun v29 q29 => ?_)
    refine lv_iload_n hx hb dX12_factOf_130 rfl (lv_at hl 2 rfl) ?_
    refine lv_bipush (v := 7) hx hb dX12_factOf_131 (by decide) ?_
    have k_7 : (7 : Int32).toInt = 7 := by decide
    refine lv_isub hx hb dX12_factOf_133 ?_
    refine lv_topi (fun v30 ev30 => ?_)
    have f31 : v30.toInt = x1.toInt - (7 : Int32).toInt := by rw [ev30]; exact i_sub (by omega) (by omega)
    refine lv_icmp_ne (tgt := 141) hx hb dX12_factOf_134 (by decide) (fun c32 => ?_) (fun c32 => ?_)
    · have b32 : ¬ v29.toInt = v30.toInt := fun z9 => c32 (i_eq.mpr z9)
      refine lv_iconst (v := 0) hx hb dX12_factOf_141 (by decide) ?_
      exact retP_i hQ C hr dX12_factOf_142 (trivial)
    · have b32 : v29.toInt = v30.toInt := i_eq.mp c32
      refine lv_iconst (v := 1) hx hb dX12_factOf_137 (by decide) ?_
      refine lv_goto (tgt := 142) hx hb dX12_factOf_138 (by decide) ?_
      exact retP_i hQ C hr dX12_factOf_142 (trivial)
  by_cases w33 : x1.toInt = (10)
  · refine lv_tableIn (tgt := 124) (off := 115) hx hb dX12_factOf_9 (by omega) (by omega) (by rw [w33]; rfl) (by decide) ?_
    refine lv_aload_n hx hb dX12_factOf_124 rfl (lv_at hl 1 rfl) ?_
    refine lv_iload_n hx hb dX12_factOf_125 rfl (lv_at hl 4 rfl) ?_
    refine lv_iconst (v := 1) hx hb dX12_factOf_126 (by decide) ?_
    have k_1 : (1 : Int32).toInt = 1 := by decide
    refine callV_Pi C hO (fun _ _ _ => rfl) (c_X12_ofHearth l D G a0 x3 (1 : Int32) ga0 (by omega) (by omega)) kV_X12_56 ga0 (trivial) dX12_factOf_127 hl.1 rfl rfl (by decide) cd_X12_ofHearth ⟨Nat.le_of_ble_eq_true rfl, Nat.le_of_ble_eq_true rfl, Nat.le_of_ble_eq_true rfl, Nat.le_of_ble_eq_true rfl, Nat.le_of_ble_eq_true rfl⟩ (fun v34 q34 => ?_)
    refine lv_iload_n hx hb dX12_factOf_130 rfl (lv_at hl 2 rfl) ?_
    refine lv_bipush (v := 7) hx hb dX12_factOf_131 (by decide) ?_
    have k_7 : (7 : Int32).toInt = 7 := by decide
    refine lv_isub hx hb dX12_factOf_133 ?_
    refine lv_topi (fun v35 ev35 => ?_)
    have f36 : v35.toInt = x1.toInt - (7 : Int32).toInt := by rw [ev35]; exact i_sub (by omega) (by omega)
    refine lv_icmp_ne (tgt := 141) hx hb dX12_factOf_134 (by decide) (fun c37 => ?_) (fun c37 => ?_)
    · have b37 : ¬ v34.toInt = v35.toInt := fun z9 => c37 (i_eq.mpr z9)
      refine lv_iconst (v := 0) hx hb dX12_factOf_141 (by decide) ?_
      exact retP_i hQ C hr dX12_factOf_142 (trivial)
    · have b37 : v34.toInt = v35.toInt := i_eq.mp c37
      refine lv_iconst (v := 1) hx hb dX12_factOf_137 (by decide) ?_
      refine lv_goto (tgt := 142) hx hb dX12_factOf_138 (by decide) ?_
      exact retP_i hQ C hr dX12_factOf_142 (trivial)
  by_cases w38 : x1.toInt = (11)
  · refine lv_tableIn (tgt := 122) (off := 113) hx hb dX12_factOf_9 (by omega) (by omega) (by rw [w38]; rfl) (by decide) ?_
    refine lv_iload_n hx hb dX12_factOf_122 rfl (lv_at hl 3 rfl) ?_
    exact retP_i hQ C hr dX12_factOf_123 (trivial)
  refine lv_tableOut (tgt := 124) hx hb dX12_factOf_9 (by omega) (by decide) ?_
  refine lv_aload_n hx hb dX12_factOf_124 rfl (lv_at hl 1 rfl) ?_
  refine lv_iload_n hx hb dX12_factOf_125 rfl (lv_at hl 4 rfl) ?_
  refine lv_iconst (v := 1) hx hb dX12_factOf_126 (by decide) ?_
  have k_1 : (1 : Int32).toInt = 1 := by decide
  refine callV_Pi C hO (fun _ _ _ => rfl) (c_X12_ofHearth l D G a0 x3 (1 : Int32) ga0 (by omega) (by omega)) kV_X12_56 ga0 (trivial) dX12_factOf_127 hl.1 rfl rfl (by decide) cd_X12_ofHearth ⟨Nat.le_of_ble_eq_true rfl, Nat.le_of_ble_eq_true rfl, Nat.le_of_ble_eq_true rfl, Nat.le_of_ble_eq_true rfl, Nat.le_of_ble_eq_true rfl⟩ (fun v39 q39 => ?_)
  refine lv_iload_n hx hb dX12_factOf_130 rfl (lv_at hl 2 rfl) ?_
  refine lv_bipush (v := 7) hx hb dX12_factOf_131 (by decide) ?_
  have k_7 : (7 : Int32).toInt = 7 := by decide
  refine lv_isub hx hb dX12_factOf_133 ?_
  refine lv_topi (fun v40 ev40 => ?_)
  refine lv_icmp_ne (tgt := 141) hx hb dX12_factOf_134 (by decide) (fun c41 => ?_) (fun c41 => ?_)
  · have b41 : ¬ v39.toInt = v40.toInt := fun z9 => c41 (i_eq.mpr z9)
    refine lv_iconst (v := 0) hx hb dX12_factOf_141 (by decide) ?_
    exact retP_i hQ C hr dX12_factOf_142 (trivial)
  · have b41 : v39.toInt = v40.toInt := i_eq.mp c41
    refine lv_iconst (v := 1) hx hb dX12_factOf_137 (by decide) ?_
    refine lv_goto (tgt := 142) hx hb dX12_factOf_138 (by decide) ?_
    exact retP_i hQ C hr dX12_factOf_142 (trivial)

set_option maxRecDepth 100000 in
set_option maxHeartbeats 4000000 in
theorem c_X12_noRate (l : Launch) (D : DD) (G : Nat → Nat) (x0 : Int32) : CP l D G yX12_noRate cX12_noRate 1 (some .boolean) 1 [.int x0] (fun _ => True) (pI (fun H r => (r.toInt = 0 ∧ 0 ≤ x0.toInt ∧ x0.toInt ≤ 20) ∨ r.toInt = 1)) := by
  refine enter (by decide) (Nat.le_of_ble_eq_true rfl) ?_
  intro p e s m args below meth c ls Q hA hQ C hr hO hpre hl
  have hx := C.1
  have hb := C.2.1
  have hl : lv_has ls 1 [(0, .int x0)] := hl
  refine lv_iload_n hx hb dX12_noRate_0 rfl (lv_at hl 0 rfl) ?_
  refine lv_iconst (v := 0) hx hb dX12_noRate_1 (by decide) ?_
  refine lv_bipush (v := 20) hx hb dX12_noRate_2 (by decide) ?_
  have k_0 : (0 : Int32).toInt = 0 := by decide
  have k_20 : (20 : Int32).toInt = 20 := by decide
  refine callS_Pi C hO (fun _ _ _ => rfl) (c_X12_in l D G x0 (0 : Int32) (20 : Int32)) kS_X12_63 (trivial) dX12_noRate_4 hl.1 cd_X12_in ⟨Nat.le_of_ble_eq_true rfl, Nat.le_of_ble_eq_true rfl, Nat.le_of_ble_eq_true rfl, Nat.le_of_ble_eq_true rfl, Nat.le_of_ble_eq_true rfl⟩ (fun v1 q1 => ?_)
  rcases q1 with q1 | q1
  · skip
    refine lv_if_ne (tgt := 14) hx hb dX12_noRate_7 (by decide) (fun c2 => ?_) (fun c2 => ?_)
    · have b2 : ¬ v1.toInt = (0 : Int32).toInt := fun z9 => c2 (i_eq.mpr z9)
      refine lv_iconst (v := 0) hx hb dX12_noRate_14 (by decide) ?_
      exact retP_z hQ C hr dX12_noRate_15 (z01 (by omega) (by omega)) (by omega)
    · have b2 : v1.toInt = (0 : Int32).toInt := i_eq.mp c2
      exact absurd b2 (by omega)
  · skip
    refine lv_if_ne (tgt := 14) hx hb dX12_noRate_7 (by decide) (fun c3 => ?_) (fun c3 => ?_)
    · have b3 : ¬ v1.toInt = (0 : Int32).toInt := fun z9 => c3 (i_eq.mpr z9)
      exact absurd b3 (by omega)
    · have b3 : v1.toInt = (0 : Int32).toInt := i_eq.mp c3
      refine lv_iconst (v := 1) hx hb dX12_noRate_10 (by decide) ?_
      refine lv_goto (tgt := 15) hx hb dX12_noRate_11 (by decide) ?_
      have k_1 : (1 : Int32).toInt = 1 := by decide
      exact retP_z hQ C hr dX12_noRate_15 (z01 (by omega) (by omega)) (by omega)

set_option maxRecDepth 100000 in
set_option maxHeartbeats 4000000 in
theorem c_X12_noAhead (l : Launch) (D : DD) (G : Nat → Nat) (x0 : Int32) : CP l D G yX12_noAhead cX12_noAhead 1 (some .boolean) 1 [.int x0] (fun _ => True) (pI (fun H r => (r.toInt = 0 ∧ 0 ≤ x0.toInt ∧ x0.toInt ≤ 100) ∨ r.toInt = 1)) := by
  refine enter (by decide) (Nat.le_of_ble_eq_true rfl) ?_
  intro p e s m args below meth c ls Q hA hQ C hr hO hpre hl
  have hx := C.1
  have hb := C.2.1
  have hl : lv_has ls 1 [(0, .int x0)] := hl
  refine lv_iload_n hx hb dX12_noAhead_0 rfl (lv_at hl 0 rfl) ?_
  refine lv_iconst (v := 0) hx hb dX12_noAhead_1 (by decide) ?_
  refine lv_bipush (v := 100) hx hb dX12_noAhead_2 (by decide) ?_
  have k_0 : (0 : Int32).toInt = 0 := by decide
  have k_100 : (100 : Int32).toInt = 100 := by decide
  refine callS_Pi C hO (fun _ _ _ => rfl) (c_X12_in l D G x0 (0 : Int32) (100 : Int32)) kS_X12_63 (trivial) dX12_noAhead_4 hl.1 cd_X12_in ⟨Nat.le_of_ble_eq_true rfl, Nat.le_of_ble_eq_true rfl, Nat.le_of_ble_eq_true rfl, Nat.le_of_ble_eq_true rfl, Nat.le_of_ble_eq_true rfl⟩ (fun v1 q1 => ?_)
  rcases q1 with q1 | q1
  · skip
    refine lv_if_ne (tgt := 14) hx hb dX12_noAhead_7 (by decide) (fun c2 => ?_) (fun c2 => ?_)
    · have b2 : ¬ v1.toInt = (0 : Int32).toInt := fun z9 => c2 (i_eq.mpr z9)
      refine lv_iconst (v := 0) hx hb dX12_noAhead_14 (by decide) ?_
      exact retP_z hQ C hr dX12_noAhead_15 (z01 (by omega) (by omega)) (by omega)
    · have b2 : v1.toInt = (0 : Int32).toInt := i_eq.mp c2
      exact absurd b2 (by omega)
  · skip
    refine lv_if_ne (tgt := 14) hx hb dX12_noAhead_7 (by decide) (fun c3 => ?_) (fun c3 => ?_)
    · have b3 : ¬ v1.toInt = (0 : Int32).toInt := fun z9 => c3 (i_eq.mpr z9)
      exact absurd b3 (by omega)
    · have b3 : v1.toInt = (0 : Int32).toInt := i_eq.mp c3
      refine lv_iconst (v := 1) hx hb dX12_noAhead_10 (by decide) ?_
      refine lv_goto (tgt := 15) hx hb dX12_noAhead_11 (by decide) ?_
      have k_1 : (1 : Int32).toInt = 1 := by decide
      exact retP_z hQ C hr dX12_noAhead_15 (z01 (by omega) (by omega)) (by omega)

set_option maxRecDepth 100000 in
set_option maxHeartbeats 4000000 in
theorem c_X12_canPay (l : Launch) (D : DD) (G : Nat → Nat) (a0 : Nat) (x1 : Int32) (x2 : Int32) (ga0 : G a0 = 30) (ix1 : 0 ≤ x1.toInt ∧ x1.toInt ≤ 11) : CP l D G yX12_canPay cX12_canPay 3 (some .boolean) 2 [.ref a0, .int x1, .int x2] (fun _ => True) (pI (fun H r => 0 ≤ r.toInt ∧ r.toInt ≤ 1)) := by
  refine enter (by decide) (Nat.le_of_ble_eq_true rfl) ?_
  intro p e s m args below meth c ls Q hA hQ C hr hO hpre hl
  have hx := C.1
  have hb := C.2.1
  have hl : lv_has ls 3 [(0, .ref a0), (1, .int x1), (2, .int x2)] := hl
  refine lv_aload_n hx hb dX12_canPay_0 rfl (lv_at hl 0 rfl) ?_
  refine lv_aload_n hx hb dX12_canPay_1 rfl (lv_at hl 0 rfl) ?_
  refine lv_iload_n hx hb dX12_canPay_2 rfl (lv_at hl 1 rfl) ?_
  refine lv_iconst (v := 0) hx hb dX12_canPay_3 (by decide) ?_
  have k_0 : (0 : Int32).toInt = 0 := by decide
  refine callV_Pi C hO (fun _ _ _ => rfl) (c_X12_ofHearth l D G a0 x1 (0 : Int32) ga0 (by omega) (by omega)) kV_X12_56 ga0 (trivial) dX12_canPay_4 hl.1 rfl rfl (by decide) cd_X12_ofHearth ⟨Nat.le_of_ble_eq_true rfl, Nat.le_of_ble_eq_true rfl, Nat.le_of_ble_eq_true rfl, Nat.le_of_ble_eq_true rfl, Nat.le_of_ble_eq_true rfl⟩ (fun v1 q1 => ?_)
  refine lv_iconst (v := 0) hx hb dX12_canPay_7 (by decide) ?_
  refine callV_Pi C hO (fun _ _ _ => rfl) (c_X12_of l D G a0 v1 (0 : Int32) ga0 (by omega) (by omega)) kV_X12_255 ga0 (trivial) dX12_canPay_8 hl.1 rfl rfl (by decide) cd_X12_of ⟨Nat.le_of_ble_eq_true rfl, Nat.le_of_ble_eq_true rfl, Nat.le_of_ble_eq_true rfl, Nat.le_of_ble_eq_true rfl, Nat.le_of_ble_eq_true rfl⟩ (fun v2 q2 => ?_)
  refine lv_iload_n hx hb dX12_canPay_11 rfl (lv_at hl 2 rfl) ?_
  refine lv_icmp_lt (tgt := 19) hx hb dX12_canPay_12 (by decide) (fun c3 => ?_) (fun c3 => ?_)
  · have b3 : v2.toInt < x2.toInt := i_lt.mp c3
    refine lv_iconst (v := 0) hx hb dX12_canPay_19 (by decide) ?_
    exact retP_z hQ C hr dX12_canPay_20 (z01 (by omega) (by omega)) (by omega)
  · have b3 : ¬ v2.toInt < x2.toInt := fun z9 => c3 (i_lt.mpr z9)
    refine lv_iconst (v := 1) hx hb dX12_canPay_15 (by decide) ?_
    refine lv_goto (tgt := 20) hx hb dX12_canPay_16 (by decide) ?_
    have k_1 : (1 : Int32).toInt = 1 := by decide
    exact retP_z hQ C hr dX12_canPay_20 (z01 (by omega) (by omega)) (by omega)

set_option maxRecDepth 100000 in
set_option maxHeartbeats 4000000 in
theorem c_X12_fluesOf (l : Launch) (D : DD) (G : Nat → Nat) (a0 : Nat) (x1 : Int32) (ga0 : G a0 = 30) : CP l D G yX12_fluesOf cX12_fluesOf 4 (some .int) 2 [.ref a0, .int x1] (fun _ => True) (pI (fun H r => True)) := by
  refine enter (by decide) (Nat.le_of_ble_eq_true rfl) ?_
  intro p e s m args below meth c ls Q hA hQ C hr hO hpre hl
  have hx := C.1
  have hb := C.2.1
  have hl : lv_has ls 4 [(0, .ref a0), (1, .int x1)] := hl
  refine lv_iconst (v := 0) hx hb dX12_fluesOf_0 (by decide) ?_
  refine lv_istore_n (lv' := [(2, .int (0 : Int32)), (0, .ref a0), (1, .int x1)]) hx hb dX12_fluesOf_1 rfl hl (by decide) rfl (fun ls hl => ?_)
  refine lv_iconst (v := 0) hx hb dX12_fluesOf_2 (by decide) ?_
  refine lv_istore_n (lv' := [(3, .int (0 : Int32)), (2, .int (0 : Int32)), (0, .ref a0), (1, .int x1)]) hx hb dX12_fluesOf_3 rfl hl (by decide) rfl (fun ls hl => ?_)
  have Lp4 : ∀ (n : Nat) (x3_4 : Int32) (x2_4 : Int32) (ls : Array Slot), (0 ≤ x3_4.toInt ∧ x3_4.toInt ≤ 2147483647) → 2147483648 - x3_4.toInt ≤ (n : Int) → lv_has ls 4 [(3, .int x3_4), (2, .int x2_4), (0, .ref a0), (1, .int x1)] → W p l e (rmU 2 0 0) s m args below meth c s.heap [] 0 0 Q (F0 m 4 ls []) := by
    intro n
    induction n with
    | zero =>
      intro x3_4 x2_4 ls j4_0 hn hl
      exact absurd hn (by omega)
    | succ n ih4 =>
      intro x3_4 x2_4 ls j4_0 hn hl
      refine lv_iload_n hx hb dX12_fluesOf_4 rfl (lv_at hl 0 rfl) ?_
      refine lv_aload_n hx hb dX12_fluesOf_5 rfl (lv_at hl 2 rfl) ?_
      refine callV_Pi C hO (fun _ _ _ => rfl) (c_X12_hearths l D G a0 ga0) kV_X12_67 ga0 (trivial) dX12_fluesOf_6 hl.1 rfl rfl (by decide) cd_X12_hearths ⟨Nat.le_of_ble_eq_true rfl, Nat.le_of_ble_eq_true rfl, Nat.le_of_ble_eq_true rfl, Nat.le_of_ble_eq_true rfl, Nat.le_of_ble_eq_true rfl⟩ (fun v1 q1 => ?_)
      have r3 := i_rng x3_4
      refine lv_icmp_ge (tgt := 41) hx hb dX12_fluesOf_9 (by decide) (fun c2 => ?_) (fun c2 => ?_)
      · have b2 : v1.toInt ≤ x3_4.toInt := i_le.mp c2
        refine lv_iload_n hx hb dX12_fluesOf_41 rfl (lv_at hl 1 rfl) ?_
        exact retP_i hQ C hr dX12_fluesOf_42 (trivial)
      · have b2 : ¬ v1.toInt ≤ x3_4.toInt := fun z9 => c2 (i_le.mpr z9)
        refine lv_iload_n hx hb dX12_fluesOf_12 rfl (lv_at hl 1 rfl) ?_
        refine lv_iload_n hx hb dX12_fluesOf_13 rfl (lv_at hl 3 rfl) ?_
        refine lv_iload_n hx hb dX12_fluesOf_14 rfl (lv_at hl 0 rfl) ?_
        refine callS_Pi C hO (fun _ _ _ => rfl) (c_X12_has l D G x1 x3_4) kS_X12_287 (trivial) dX12_fluesOf_15 hl.1 cd_X12_has ⟨Nat.le_of_ble_eq_true rfl, Nat.le_of_ble_eq_true rfl, Nat.le_of_ble_eq_true rfl, Nat.le_of_ble_eq_true rfl, Nat.le_of_ble_eq_true rfl⟩ (fun v4 q4 => ?_)
        have k_0 : (0 : Int32).toInt = 0 := by decide
        refine lv_if_eq (tgt := 32) hx hb dX12_fluesOf_18 (by decide) (fun c5 => ?_) (fun c5 => ?_)
        · have b5 : v4.toInt = (0 : Int32).toInt := i_eq.mp c5
          refine lv_iconst (v := 0) hx hb dX12_fluesOf_32 (by decide) ?_
          refine lv_ior hx hb dX12_fluesOf_33 ?_
          refine lv_topi (fun v6 ev6 => ?_)
          refine lv_istore_n (lv' := [(2, .int v6), (3, .int x3_4), (0, .ref a0), (1, .int x1)]) hx hb dX12_fluesOf_34 rfl hl (by decide) rfl (fun ls hl => ?_)
          obtain ⟨v7, ev7⟩ : ∃ y : Int32, y = x3_4 + (1) := ⟨_, rfl⟩
          have k_1 : (1 : Int32).toInt = 1 := by decide
          have f8 : v7.toInt = x3_4.toInt + (1) := by rw [ev7]; exact i_addc k_1 (by omega) (by omega)
          refine lv_iinc (v := v7) (lv' := [(3, .int v7), (2, .int v6), (0, .ref a0), (1, .int x1)]) hx hb dX12_fluesOf_35 hl (k := 1) rfl (by rw [ev7]; rfl) (by decide) rfl (fun ls hl => ?_)
          refine lv_goto (tgt := 4) hx hb dX12_fluesOf_38 (by decide) ?_
          exact ih4 v7 v6 ls (by omega) (by omega) (lv_sub hl [0, 1, 2, 3] rfl)
        · have b5 : ¬ v4.toInt = (0 : Int32).toInt := fun z9 => c5 (i_eq.mpr z9)
          refine lv_iconst (v := 1) hx hb dX12_fluesOf_21 (by decide) ?_
          refine lv_aload_n hx hb dX12_fluesOf_22 rfl (lv_at hl 2 rfl) ?_
          refine lv_iload_n hx hb dX12_fluesOf_23 rfl (lv_at hl 0 rfl) ?_
          refine lv_iconst (v := 2) hx hb dX12_fluesOf_24 (by decide) ?_
          have k_2 : (2 : Int32).toInt = 2 := by decide
          refine callV_Pi C hO (fun _ _ _ => rfl) (c_X12_ofHearth l D G a0 x3_4 (2 : Int32) ga0 (by omega) (by omega)) kV_X12_56 ga0 (trivial) dX12_fluesOf_25 hl.1 rfl rfl (by decide) cd_X12_ofHearth ⟨Nat.le_of_ble_eq_true rfl, Nat.le_of_ble_eq_true rfl, Nat.le_of_ble_eq_true rfl, Nat.le_of_ble_eq_true rfl, Nat.le_of_ble_eq_true rfl⟩ (fun v9 q9 => ?_)
          have k_1 : (1 : Int32).toInt = 1 := by decide
          refine lv_ishl hx hb dX12_fluesOf_28 ?_
          refine lv_topi (fun v10 ev10 => ?_)
          refine lv_goto (tgt := 33) hx hb dX12_fluesOf_29 (by decide) ?_
          refine lv_ior hx hb dX12_fluesOf_33 ?_
          refine lv_topi (fun v11 ev11 => ?_)
          refine lv_istore_n (lv' := [(2, .int v11), (3, .int x3_4), (0, .ref a0), (1, .int x1)]) hx hb dX12_fluesOf_34 rfl hl (by decide) rfl (fun ls hl => ?_)
          obtain ⟨v12, ev12⟩ : ∃ y : Int32, y = x3_4 + (1) := ⟨_, rfl⟩
          have f13 : v12.toInt = x3_4.toInt + (1) := by rw [ev12]; exact i_addc k_1 (by omega) (by omega)
          refine lv_iinc (v := v12) (lv' := [(3, .int v12), (2, .int v11), (0, .ref a0), (1, .int x1)]) hx hb dX12_fluesOf_35 hl (k := 1) rfl (by rw [ev12]; rfl) (by decide) rfl (fun ls hl => ?_)
          refine lv_goto (tgt := 4) hx hb dX12_fluesOf_38 (by decide) ?_
          exact ih4 v12 v11 ls (by omega) (by omega) (lv_sub hl [0, 1, 2, 3] rfl)
  have k_0 : (0 : Int32).toInt = 0 := by decide
  exact Lp4 2147483648 (0 : Int32) (0 : Int32) ls (by omega)  (by omega) (lv_sub hl [0, 1, 2, 3] rfl)

set_option maxRecDepth 100000 in
set_option maxHeartbeats 4000000 in
theorem c_X12_smokeOf (l : Launch) (D : DD) (G : Nat → Nat) (a0 : Nat) (x1 : Int32) (ga0 : G a0 = 30) : CP l D G yX12_smokeOf cX12_smokeOf 2 (some .int) 5 [.ref a0, .int x1] (fun _ => True) (pI (fun H r => True)) := by
  refine enter (by decide) (Nat.le_of_ble_eq_true rfl) ?_
  intro p e s m args below meth c ls Q hA hQ C hr hO hpre hl
  have hx := C.1
  have hb := C.2.1
  have hl : lv_has ls 2 [(0, .ref a0), (1, .int x1)] := hl
  refine lv_aload_n hx hb dX12_smokeOf_0 rfl (lv_at hl 0 rfl) ?_
  refine lv_aload_n hx hb dX12_smokeOf_1 rfl (lv_at hl 0 rfl) ?_
  refine lv_iload_n hx hb dX12_smokeOf_2 rfl (lv_at hl 1 rfl) ?_
  refine callV_Pi C hO (fun _ _ _ => rfl) (c_X12_burningOf l D G a0 x1 ga0) kV_X12_252 ga0 (trivial) dX12_smokeOf_3 hl.1 rfl rfl (by decide) cd_X12_burningOf ⟨Nat.le_of_ble_eq_true rfl, Nat.le_of_ble_eq_true rfl, Nat.le_of_ble_eq_true rfl, Nat.le_of_ble_eq_true rfl, Nat.le_of_ble_eq_true rfl⟩ (fun v1 q1 => ?_)
  refine callV_Pi C hO (fun _ _ _ => rfl) (c_X12_fluesOf l D G a0 v1 ga0) kV_X12_290 ga0 (trivial) dX12_smokeOf_6 hl.1 rfl rfl (by decide) cd_X12_fluesOf ⟨Nat.le_of_ble_eq_true rfl, Nat.le_of_ble_eq_true rfl, Nat.le_of_ble_eq_true rfl, Nat.le_of_ble_eq_true rfl, Nat.le_of_ble_eq_true rfl⟩ (fun v2 q2 => ?_)
  exact retP_i hQ C hr dX12_smokeOf_9 (trivial)

set_option maxRecDepth 100000 in
set_option maxHeartbeats 4000000 in
theorem c_X12_warmthOf (l : Launch) (D : DD) (G : Nat → Nat) (a0 : Nat) (x1 : Int32) (ga0 : G a0 = 30) : CP l D G yX12_warmthOf cX12_warmthOf 4 (some .int) 5 [.ref a0, .int x1] (fun _ => True) (pI (fun H r => True)) := by
  refine enter (by decide) (Nat.le_of_ble_eq_true rfl) ?_
  intro p e s m args below meth c ls Q hA hQ C hr hO hpre hl
  have hx := C.1
  have hb := C.2.1
  have hl : lv_has ls 4 [(0, .ref a0), (1, .int x1)] := hl
  refine lv_iconst (v := 0) hx hb dX12_warmthOf_0 (by decide) ?_
  refine lv_istore_n (lv' := [(2, .int (0 : Int32)), (0, .ref a0), (1, .int x1)]) hx hb dX12_warmthOf_1 rfl hl (by decide) rfl (fun ls hl => ?_)
  refine lv_iconst (v := 0) hx hb dX12_warmthOf_2 (by decide) ?_
  refine lv_istore_n (lv' := [(3, .int (0 : Int32)), (2, .int (0 : Int32)), (0, .ref a0), (1, .int x1)]) hx hb dX12_warmthOf_3 rfl hl (by decide) rfl (fun ls hl => ?_)
  have Lp4 : ∀ (n : Nat) (x3_4 : Int32) (x2_4 : Int32) (ls : Array Slot), (0 ≤ x3_4.toInt ∧ x3_4.toInt ≤ 2147483647) → 2147483648 - x3_4.toInt ≤ (n : Int) → lv_has ls 4 [(3, .int x3_4), (2, .int x2_4), (0, .ref a0), (1, .int x1)] → W p l e (rmU 5 0 0) s m args below meth c s.heap [] 0 0 Q (F0 m 4 ls []) := by
    intro n
    induction n with
    | zero =>
      intro x3_4 x2_4 ls j4_0 hn hl
      exact absurd hn (by omega)
    | succ n ih4 =>
      intro x3_4 x2_4 ls j4_0 hn hl
      refine lv_iload_n hx hb dX12_warmthOf_4 rfl (lv_at hl 0 rfl) ?_
      refine lv_aload_n hx hb dX12_warmthOf_5 rfl (lv_at hl 2 rfl) ?_
      refine callV_Pi C hO (fun _ _ _ => rfl) (c_X12_hearths l D G a0 ga0) kV_X12_67 ga0 (trivial) dX12_warmthOf_6 hl.1 rfl rfl (by decide) cd_X12_hearths ⟨Nat.le_of_ble_eq_true rfl, Nat.le_of_ble_eq_true rfl, Nat.le_of_ble_eq_true rfl, Nat.le_of_ble_eq_true rfl, Nat.le_of_ble_eq_true rfl⟩ (fun v1 q1 => ?_)
      have r3 := i_rng x3_4
      refine lv_icmp_ge (tgt := 43) hx hb dX12_warmthOf_9 (by decide) (fun c2 => ?_) (fun c2 => ?_)
      · have b2 : v1.toInt ≤ x3_4.toInt := i_le.mp c2
        refine lv_iload_n hx hb dX12_warmthOf_43 rfl (lv_at hl 1 rfl) ?_
        exact retP_i hQ C hr dX12_warmthOf_44 (trivial)
      · have b2 : ¬ v1.toInt ≤ x3_4.toInt := fun z9 => c2 (i_le.mpr z9)
        refine lv_iload_n hx hb dX12_warmthOf_12 rfl (lv_at hl 1 rfl) ?_
        refine lv_aload_n hx hb dX12_warmthOf_13 rfl (lv_at hl 2 rfl) ?_
        refine lv_iload_n hx hb dX12_warmthOf_14 rfl (lv_at hl 3 rfl) ?_
        refine callV_Pi C hO (fun _ _ _ => rfl) (c_X12_burningOf l D G a0 x1 ga0) kV_X12_252 ga0 (trivial) dX12_warmthOf_15 hl.1 rfl rfl (by decide) cd_X12_burningOf ⟨Nat.le_of_ble_eq_true rfl, Nat.le_of_ble_eq_true rfl, Nat.le_of_ble_eq_true rfl, Nat.le_of_ble_eq_true rfl, Nat.le_of_ble_eq_true rfl⟩ (fun v4 q4 => ?_)
        refine lv_iload_n hx hb dX12_warmthOf_18 rfl (lv_at hl 0 rfl) ?_
        refine callS_Pi C hO (fun _ _ _ => rfl) (c_X12_has l D G v4 x3_4) kS_X12_287 (trivial) dX12_warmthOf_19 hl.1 cd_X12_has ⟨Nat.le_of_ble_eq_true rfl, Nat.le_of_ble_eq_true rfl, Nat.le_of_ble_eq_true rfl, Nat.le_of_ble_eq_true rfl, Nat.le_of_ble_eq_true rfl⟩ (fun v5 q5 => ?_)
        have k_0 : (0 : Int32).toInt = 0 := by decide
        refine lv_if_eq (tgt := 34) hx hb dX12_warmthOf_22 (by decide) (fun c6 => ?_) (fun c6 => ?_)
        · have b6 : v5.toInt = (0 : Int32).toInt := i_eq.mp c6
          refine lv_iconst (v := 0) hx hb dX12_warmthOf_34 (by decide) ?_
          refine lv_iadd hx hb dX12_warmthOf_35 ?_
          refine lv_topi (fun v7 ev7 => ?_)
          refine lv_istore_n (lv' := [(2, .int v7), (3, .int x3_4), (0, .ref a0), (1, .int x1)]) hx hb dX12_warmthOf_36 rfl hl (by decide) rfl (fun ls hl => ?_)
          obtain ⟨v8, ev8⟩ : ∃ y : Int32, y = x3_4 + (1) := ⟨_, rfl⟩
          have k_1 : (1 : Int32).toInt = 1 := by decide
          have f9 : v8.toInt = x3_4.toInt + (1) := by rw [ev8]; exact i_addc k_1 (by omega) (by omega)
          refine lv_iinc (v := v8) (lv' := [(3, .int v8), (2, .int v7), (0, .ref a0), (1, .int x1)]) hx hb dX12_warmthOf_37 hl (k := 1) rfl (by rw [ev8]; rfl) (by decide) rfl (fun ls hl => ?_)
          refine lv_goto (tgt := 4) hx hb dX12_warmthOf_40 (by decide) ?_
          exact ih4 v8 v7 ls (by omega) (by omega) (lv_sub hl [0, 1, 2, 3] rfl)
        · have b6 : ¬ v5.toInt = (0 : Int32).toInt := fun z9 => c6 (i_eq.mpr z9)
          refine lv_aload_n hx hb dX12_warmthOf_25 rfl (lv_at hl 2 rfl) ?_
          refine lv_iload_n hx hb dX12_warmthOf_26 rfl (lv_at hl 0 rfl) ?_
          refine lv_iconst (v := 3) hx hb dX12_warmthOf_27 (by decide) ?_
          have k_3 : (3 : Int32).toInt = 3 := by decide
          refine callV_Pi C hO (fun _ _ _ => rfl) (c_X12_ofHearth l D G a0 x3_4 (3 : Int32) ga0 (by omega) (by omega)) kV_X12_56 ga0 (trivial) dX12_warmthOf_28 hl.1 rfl rfl (by decide) cd_X12_ofHearth ⟨Nat.le_of_ble_eq_true rfl, Nat.le_of_ble_eq_true rfl, Nat.le_of_ble_eq_true rfl, Nat.le_of_ble_eq_true rfl, Nat.le_of_ble_eq_true rfl⟩ (fun v10 q10 => ?_)
          refine lv_goto (tgt := 35) hx hb dX12_warmthOf_31 (by decide) ?_
          refine lv_iadd hx hb dX12_warmthOf_35 ?_
          refine lv_topi (fun v11 ev11 => ?_)
          refine lv_istore_n (lv' := [(2, .int v11), (3, .int x3_4), (0, .ref a0), (1, .int x1)]) hx hb dX12_warmthOf_36 rfl hl (by decide) rfl (fun ls hl => ?_)
          obtain ⟨v12, ev12⟩ : ∃ y : Int32, y = x3_4 + (1) := ⟨_, rfl⟩
          have k_1 : (1 : Int32).toInt = 1 := by decide
          have f13 : v12.toInt = x3_4.toInt + (1) := by rw [ev12]; exact i_addc k_1 (by omega) (by omega)
          refine lv_iinc (v := v12) (lv' := [(3, .int v12), (2, .int v11), (0, .ref a0), (1, .int x1)]) hx hb dX12_warmthOf_37 hl (k := 1) rfl (by rw [ev12]; rfl) (by decide) rfl (fun ls hl => ?_)
          refine lv_goto (tgt := 4) hx hb dX12_warmthOf_40 (by decide) ?_
          exact ih4 v12 v11 ls (by omega) (by omega) (lv_sub hl [0, 1, 2, 3] rfl)
  have k_0 : (0 : Int32).toInt = 0 := by decide
  exact Lp4 2147483648 (0 : Int32) (0 : Int32) ls (by omega)  (by omega) (lv_sub hl [0, 1, 2, 3] rfl)

set_option maxRecDepth 100000 in
set_option maxHeartbeats 4000000 in
theorem c_X12_costOf (l : Launch) (D : DD) (G : Nat → Nat) (a0 : Nat) (x1 : Int32) (ga0 : G a0 = 30) : CP l D G yX12_costOf cX12_costOf 4 (some .int) 2 [.ref a0, .int x1] (fun _ => True) (pI (fun H r => True)) := by
  refine enter (by decide) (Nat.le_of_ble_eq_true rfl) ?_
  intro p e s m args below meth c ls Q hA hQ C hr hO hpre hl
  have hx := C.1
  have hb := C.2.1
  have hl : lv_has ls 4 [(0, .ref a0), (1, .int x1)] := hl
  refine lv_iconst (v := 0) hx hb dX12_costOf_0 (by decide) ?_
  refine lv_istore_n (lv' := [(2, .int (0 : Int32)), (0, .ref a0), (1, .int x1)]) hx hb dX12_costOf_1 rfl hl (by decide) rfl (fun ls hl => ?_)
  refine lv_iconst (v := 0) hx hb dX12_costOf_2 (by decide) ?_
  refine lv_istore_n (lv' := [(3, .int (0 : Int32)), (2, .int (0 : Int32)), (0, .ref a0), (1, .int x1)]) hx hb dX12_costOf_3 rfl hl (by decide) rfl (fun ls hl => ?_)
  have Lp4 : ∀ (n : Nat) (x3_4 : Int32) (x2_4 : Int32) (ls : Array Slot), (0 ≤ x3_4.toInt ∧ x3_4.toInt ≤ 2147483647) → 2147483648 - x3_4.toInt ≤ (n : Int) → lv_has ls 4 [(3, .int x3_4), (2, .int x2_4), (0, .ref a0), (1, .int x1)] → W p l e (rmU 2 0 0) s m args below meth c s.heap [] 0 0 Q (F0 m 4 ls []) := by
    intro n
    induction n with
    | zero =>
      intro x3_4 x2_4 ls j4_0 hn hl
      exact absurd hn (by omega)
    | succ n ih4 =>
      intro x3_4 x2_4 ls j4_0 hn hl
      refine lv_iload_n hx hb dX12_costOf_4 rfl (lv_at hl 0 rfl) ?_
      refine lv_aload_n hx hb dX12_costOf_5 rfl (lv_at hl 2 rfl) ?_
      refine callV_Pi C hO (fun _ _ _ => rfl) (c_X12_hearths l D G a0 ga0) kV_X12_67 ga0 (trivial) dX12_costOf_6 hl.1 rfl rfl (by decide) cd_X12_hearths ⟨Nat.le_of_ble_eq_true rfl, Nat.le_of_ble_eq_true rfl, Nat.le_of_ble_eq_true rfl, Nat.le_of_ble_eq_true rfl, Nat.le_of_ble_eq_true rfl⟩ (fun v1 q1 => ?_)
      have r3 := i_rng x3_4
      refine lv_icmp_ge (tgt := 39) hx hb dX12_costOf_9 (by decide) (fun c2 => ?_) (fun c2 => ?_)
      · have b2 : v1.toInt ≤ x3_4.toInt := i_le.mp c2
        refine lv_iload_n hx hb dX12_costOf_39 rfl (lv_at hl 1 rfl) ?_
        exact retP_i hQ C hr dX12_costOf_40 (trivial)
      · have b2 : ¬ v1.toInt ≤ x3_4.toInt := fun z9 => c2 (i_le.mpr z9)
        refine lv_iload_n hx hb dX12_costOf_12 rfl (lv_at hl 1 rfl) ?_
        refine lv_iload_n hx hb dX12_costOf_13 rfl (lv_at hl 3 rfl) ?_
        refine lv_iload_n hx hb dX12_costOf_14 rfl (lv_at hl 0 rfl) ?_
        refine callS_Pi C hO (fun _ _ _ => rfl) (c_X12_has l D G x1 x3_4) kS_X12_287 (trivial) dX12_costOf_15 hl.1 cd_X12_has ⟨Nat.le_of_ble_eq_true rfl, Nat.le_of_ble_eq_true rfl, Nat.le_of_ble_eq_true rfl, Nat.le_of_ble_eq_true rfl, Nat.le_of_ble_eq_true rfl⟩ (fun v4 q4 => ?_)
        have k_0 : (0 : Int32).toInt = 0 := by decide
        refine lv_if_eq (tgt := 30) hx hb dX12_costOf_18 (by decide) (fun c5 => ?_) (fun c5 => ?_)
        · have b5 : v4.toInt = (0 : Int32).toInt := i_eq.mp c5
          refine lv_iconst (v := 0) hx hb dX12_costOf_30 (by decide) ?_
          refine lv_iadd hx hb dX12_costOf_31 ?_
          refine lv_topi (fun v6 ev6 => ?_)
          refine lv_istore_n (lv' := [(2, .int v6), (3, .int x3_4), (0, .ref a0), (1, .int x1)]) hx hb dX12_costOf_32 rfl hl (by decide) rfl (fun ls hl => ?_)
          obtain ⟨v7, ev7⟩ : ∃ y : Int32, y = x3_4 + (1) := ⟨_, rfl⟩
          have k_1 : (1 : Int32).toInt = 1 := by decide
          have f8 : v7.toInt = x3_4.toInt + (1) := by rw [ev7]; exact i_addc k_1 (by omega) (by omega)
          refine lv_iinc (v := v7) (lv' := [(3, .int v7), (2, .int v6), (0, .ref a0), (1, .int x1)]) hx hb dX12_costOf_33 hl (k := 1) rfl (by rw [ev7]; rfl) (by decide) rfl (fun ls hl => ?_)
          refine lv_goto (tgt := 4) hx hb dX12_costOf_36 (by decide) ?_
          exact ih4 v7 v6 ls (by omega) (by omega) (lv_sub hl [0, 1, 2, 3] rfl)
        · have b5 : ¬ v4.toInt = (0 : Int32).toInt := fun z9 => c5 (i_eq.mpr z9)
          refine lv_aload_n hx hb dX12_costOf_21 rfl (lv_at hl 2 rfl) ?_
          refine lv_iload_n hx hb dX12_costOf_22 rfl (lv_at hl 0 rfl) ?_
          refine lv_iconst (v := 4) hx hb dX12_costOf_23 (by decide) ?_
          have k_4 : (4 : Int32).toInt = 4 := by decide
          refine callV_Pi C hO (fun _ _ _ => rfl) (c_X12_ofHearth l D G a0 x3_4 (4 : Int32) ga0 (by omega) (by omega)) kV_X12_56 ga0 (trivial) dX12_costOf_24 hl.1 rfl rfl (by decide) cd_X12_ofHearth ⟨Nat.le_of_ble_eq_true rfl, Nat.le_of_ble_eq_true rfl, Nat.le_of_ble_eq_true rfl, Nat.le_of_ble_eq_true rfl, Nat.le_of_ble_eq_true rfl⟩ (fun v9 q9 => ?_)
          refine lv_goto (tgt := 31) hx hb dX12_costOf_27 (by decide) ?_
          refine lv_iadd hx hb dX12_costOf_31 ?_
          refine lv_topi (fun v10 ev10 => ?_)
          refine lv_istore_n (lv' := [(2, .int v10), (3, .int x3_4), (0, .ref a0), (1, .int x1)]) hx hb dX12_costOf_32 rfl hl (by decide) rfl (fun ls hl => ?_)
          obtain ⟨v11, ev11⟩ : ∃ y : Int32, y = x3_4 + (1) := ⟨_, rfl⟩
          have k_1 : (1 : Int32).toInt = 1 := by decide
          have f12 : v11.toInt = x3_4.toInt + (1) := by rw [ev11]; exact i_addc k_1 (by omega) (by omega)
          refine lv_iinc (v := v11) (lv' := [(3, .int v11), (2, .int v10), (0, .ref a0), (1, .int x1)]) hx hb dX12_costOf_33 hl (k := 1) rfl (by rw [ev11]; rfl) (by decide) rfl (fun ls hl => ?_)
          refine lv_goto (tgt := 4) hx hb dX12_costOf_36 (by decide) ?_
          exact ih4 v11 v10 ls (by omega) (by omega) (lv_sub hl [0, 1, 2, 3] rfl)
  have k_0 : (0 : Int32).toInt = 0 := by decide
  exact Lp4 2147483648 (0 : Int32) (0 : Int32) ls (by omega)  (by omega) (lv_sub hl [0, 1, 2, 3] rfl)

set_option maxRecDepth 100000 in
set_option maxHeartbeats 4000000 in
theorem c_X12_openOf (l : Launch) (D : DD) (G : Nat → Nat) (a0 : Nat) (x1 : Int32) (ga0 : G a0 = 30) : CP l D G yX12_openOf cX12_openOf 2 (some .int) 4 [.ref a0, .int x1] (fun _ => True) (pI (fun H r => 0 ≤ r.toInt ∧ r.toInt ≤ 4095)) := by
  refine enter (by decide) (Nat.le_of_ble_eq_true rfl) ?_
  intro p e s m args below meth c ls Q hA hQ C hr hO hpre hl
  have hx := C.1
  have hb := C.2.1
  have hl : lv_has ls 2 [(0, .ref a0), (1, .int x1)] := hl
  refine lv_aload_n hx hb dX12_openOf_0 rfl (lv_at hl 0 rfl) ?_
  refine lv_iload_n hx hb dX12_openOf_1 rfl (lv_at hl 1 rfl) ?_
  refine callV_Pi C hO (fun _ _ _ => rfl) (c_X12_hearthsOf l D G a0 x1 ga0) kV_X12_138 ga0 (trivial) dX12_openOf_2 hl.1 rfl rfl (by decide) cd_X12_hearthsOf ⟨Nat.le_of_ble_eq_true rfl, Nat.le_of_ble_eq_true rfl, Nat.le_of_ble_eq_true rfl, Nat.le_of_ble_eq_true rfl, Nat.le_of_ble_eq_true rfl⟩ (fun v1 q1 => ?_)
  refine lv_aload_n hx hb dX12_openOf_5 rfl (lv_at hl 0 rfl) ?_
  refine lv_iconst (v := 0) hx hb dX12_openOf_6 (by decide) ?_
  have k_0 : (0 : Int32).toInt = 0 := by decide
  refine callV_Pi C hO (fun _ _ _ => rfl) (c_X12_ofState l D G a0 (0 : Int32) ga0) kV_X12_249 ga0 (trivial) dX12_openOf_7 hl.1 rfl rfl (by decide) cd_X12_ofState ⟨Nat.le_of_ble_eq_true rfl, Nat.le_of_ble_eq_true rfl, Nat.le_of_ble_eq_true rfl, Nat.le_of_ble_eq_true rfl, Nat.le_of_ble_eq_true rfl⟩ (fun v2 q2 => ?_)
  refine lv_iand hx hb dX12_openOf_10 ?_
  refine lv_topi (fun v3 ev3 => ?_)
  have f4 : 0 ≤ v3.toInt ∧ v3.toInt ≤ v1.toInt := by rw [ev3]; exact i_andl (by omega)
  exact retP_i hQ C hr dX12_openOf_11 (by omega)

set_option maxRecDepth 100000 in
set_option maxHeartbeats 4000000 in
theorem c_X12_pursesOfAll (l : Launch) (D : DD) (G : Nat → Nat) (a0 : Nat) (ga0 : G a0 = 30) : CP l D G yX12_pursesOfAll cX12_pursesOfAll 3 (some .int) 2 [.ref a0] (fun _ => True) (pI (fun H r => True)) := by
  refine enter (by decide) (Nat.le_of_ble_eq_true rfl) ?_
  intro p e s m args below meth c ls Q hA hQ C hr hO hpre hl
  have hx := C.1
  have hb := C.2.1
  have hl : lv_has ls 3 [(0, .ref a0)] := hl
  refine lv_iconst (v := 0) hx hb dX12_pursesOfAll_0 (by decide) ?_
  refine lv_istore_n (lv' := [(1, .int (0 : Int32)), (0, .ref a0)]) hx hb dX12_pursesOfAll_1 rfl hl (by decide) rfl (fun ls hl => ?_)
  refine lv_iconst (v := 0) hx hb dX12_pursesOfAll_2 (by decide) ?_
  refine lv_istore_n (lv' := [(2, .int (0 : Int32)), (1, .int (0 : Int32)), (0, .ref a0)]) hx hb dX12_pursesOfAll_3 rfl hl (by decide) rfl (fun ls hl => ?_)
  have Lp4 : ∀ (n : Nat) (x2_4 : Int32) (x1_4 : Int32) (ls : Array Slot), (0 ≤ x2_4.toInt ∧ x2_4.toInt ≤ 2147483647) → 2147483648 - x2_4.toInt ≤ (n : Int) → lv_has ls 3 [(2, .int x2_4), (1, .int x1_4), (0, .ref a0)] → W p l e (rmU 2 0 0) s m args below meth c s.heap [] 0 0 Q (F0 m 4 ls []) := by
    intro n
    induction n with
    | zero =>
      intro x2_4 x1_4 ls j4_0 hn hl
      exact absurd hn (by omega)
    | succ n ih4 =>
      intro x2_4 x1_4 ls j4_0 hn hl
      refine lv_iload_n hx hb dX12_pursesOfAll_4 rfl (lv_at hl 0 rfl) ?_
      refine lv_aload_n hx hb dX12_pursesOfAll_5 rfl (lv_at hl 2 rfl) ?_
      refine callV_Pi C hO (fun _ _ _ => rfl) (c_X12_houses l D G a0 ga0) kV_X12_59 ga0 (trivial) dX12_pursesOfAll_6 hl.1 rfl rfl (by decide) cd_X12_houses ⟨Nat.le_of_ble_eq_true rfl, Nat.le_of_ble_eq_true rfl, Nat.le_of_ble_eq_true rfl, Nat.le_of_ble_eq_true rfl, Nat.le_of_ble_eq_true rfl⟩ (fun v1 q1 => ?_)
      have r3 := i_rng x2_4
      refine lv_icmp_ge (tgt := 27) hx hb dX12_pursesOfAll_9 (by decide) (fun c2 => ?_) (fun c2 => ?_)
      · have b2 : v1.toInt ≤ x2_4.toInt := i_le.mp c2
        refine lv_iload_n hx hb dX12_pursesOfAll_27 rfl (lv_at hl 1 rfl) ?_
        exact retP_i hQ C hr dX12_pursesOfAll_28 (trivial)
      · have b2 : ¬ v1.toInt ≤ x2_4.toInt := fun z9 => c2 (i_le.mpr z9)
        refine lv_iload_n hx hb dX12_pursesOfAll_12 rfl (lv_at hl 1 rfl) ?_
        refine lv_aload_n hx hb dX12_pursesOfAll_13 rfl (lv_at hl 2 rfl) ?_
        refine lv_iload_n hx hb dX12_pursesOfAll_14 rfl (lv_at hl 0 rfl) ?_
        refine lv_iconst (v := 0) hx hb dX12_pursesOfAll_15 (by decide) ?_
        have k_0 : (0 : Int32).toInt = 0 := by decide
        refine callV_Pi C hO (fun _ _ _ => rfl) (c_X12_of l D G a0 x2_4 (0 : Int32) ga0 (by omega) (by omega)) kV_X12_255 ga0 (trivial) dX12_pursesOfAll_16 hl.1 rfl rfl (by decide) cd_X12_of ⟨Nat.le_of_ble_eq_true rfl, Nat.le_of_ble_eq_true rfl, Nat.le_of_ble_eq_true rfl, Nat.le_of_ble_eq_true rfl, Nat.le_of_ble_eq_true rfl⟩ (fun v4 q4 => ?_)
        refine lv_iadd hx hb dX12_pursesOfAll_19 ?_
        refine lv_topi (fun v5 ev5 => ?_)
        refine lv_istore_n (lv' := [(1, .int v5), (2, .int x2_4), (0, .ref a0)]) hx hb dX12_pursesOfAll_20 rfl hl (by decide) rfl (fun ls hl => ?_)
        obtain ⟨v6, ev6⟩ : ∃ y : Int32, y = x2_4 + (1) := ⟨_, rfl⟩
        have k_1 : (1 : Int32).toInt = 1 := by decide
        have f7 : v6.toInt = x2_4.toInt + (1) := by rw [ev6]; exact i_addc k_1 (by omega) (by omega)
        refine lv_iinc (v := v6) (lv' := [(2, .int v6), (1, .int v5), (0, .ref a0)]) hx hb dX12_pursesOfAll_21 hl (k := 1) rfl (by rw [ev6]; rfl) (by decide) rfl (fun ls hl => ?_)
        refine lv_goto (tgt := 4) hx hb dX12_pursesOfAll_24 (by decide) ?_
        exact ih4 v6 v5 ls (by omega) (by omega) (lv_sub hl [0, 1, 2] rfl)
  have k_0 : (0 : Int32).toInt = 0 := by decide
  exact Lp4 2147483648 (0 : Int32) (0 : Int32) ls (by omega)  (by omega) (lv_sub hl [0, 1, 2] rfl)

set_option maxRecDepth 100000 in
set_option maxHeartbeats 4000000 in
theorem c_X12_seesAll (l : Launch) (D : DD) (G : Nat → Nat) (a0 : Nat) (x1 : Int32) (ga0 : G a0 = 30) : CP l D G yX12_seesAll cX12_seesAll 4 (some .boolean) 6 [.ref a0, .int x1] (fun _ => True) (pI (fun H r => 0 ≤ r.toInt ∧ r.toInt ≤ 1)) := by
  refine enter (by decide) (Nat.le_of_ble_eq_true rfl) ?_
  intro p e s m args below meth c ls Q hA hQ C hr hO hpre hl
  have hx := C.1
  have hb := C.2.1
  have hl : lv_has ls 4 [(0, .ref a0), (1, .int x1)] := hl
  refine lv_iconst (v := 1) hx hb dX12_seesAll_0 (by decide) ?_
  refine lv_istore_n (lv' := [(2, .int (1 : Int32)), (0, .ref a0), (1, .int x1)]) hx hb dX12_seesAll_1 rfl hl (by decide) rfl (fun ls hl => ?_)
  refine lv_iconst (v := 0) hx hb dX12_seesAll_2 (by decide) ?_
  refine lv_istore_n (lv' := [(3, .int (0 : Int32)), (2, .int (1 : Int32)), (0, .ref a0), (1, .int x1)]) hx hb dX12_seesAll_3 rfl hl (by decide) rfl (fun ls hl => ?_)
  have Lp4 : ∀ (n : Nat) (x3_4 : Int32) (x2_4 : Int32) (ls : Array Slot), (0 ≤ x3_4.toInt ∧ x3_4.toInt ≤ 2147483647) → (0 ≤ x2_4.toInt ∧ x2_4.toInt ≤ 1) → 2147483648 - x3_4.toInt ≤ (n : Int) → lv_has ls 4 [(3, .int x3_4), (2, .int x2_4), (0, .ref a0), (1, .int x1)] → W p l e (rmU 6 0 0) s m args below meth c s.heap [] 0 0 Q (F0 m 4 ls []) := by
    intro n
    induction n with
    | zero =>
      intro x3_4 x2_4 ls j4_0 j4_1 hn hl
      exact absurd hn (by omega)
    | succ n ih4 =>
      intro x3_4 x2_4 ls j4_0 j4_1 hn hl
      refine lv_iload_n hx hb dX12_seesAll_4 rfl (lv_at hl 0 rfl) ?_
      refine lv_aload_n hx hb dX12_seesAll_5 rfl (lv_at hl 2 rfl) ?_
      refine callV_Pi C hO (fun _ _ _ => rfl) (c_X12_houses l D G a0 ga0) kV_X12_59 ga0 (trivial) dX12_seesAll_6 hl.1 rfl rfl (by decide) cd_X12_houses ⟨Nat.le_of_ble_eq_true rfl, Nat.le_of_ble_eq_true rfl, Nat.le_of_ble_eq_true rfl, Nat.le_of_ble_eq_true rfl, Nat.le_of_ble_eq_true rfl⟩ (fun v1 q1 => ?_)
      have r3 := i_rng x3_4
      refine lv_icmp_ge (tgt := 47) hx hb dX12_seesAll_9 (by decide) (fun c2 => ?_) (fun c2 => ?_)
      · have b2 : v1.toInt ≤ x3_4.toInt := i_le.mp c2
        refine lv_iload_n hx hb dX12_seesAll_47 rfl (lv_at hl 1 rfl) ?_
        exact retP_z hQ C hr dX12_seesAll_48 (z01 (by omega) (by omega)) (by omega)
      · have b2 : ¬ v1.toInt ≤ x3_4.toInt := fun z9 => c2 (i_le.mpr z9)
        refine lv_iload_n hx hb dX12_seesAll_12 rfl (lv_at hl 1 rfl) ?_
        have k_0 : (0 : Int32).toInt = 0 := by decide
        refine lv_if_eq (tgt := 39) hx hb dX12_seesAll_13 (by decide) (fun c4 => ?_) (fun c4 => ?_)
        · have b4 : x2_4.toInt = (0 : Int32).toInt := i_eq.mp c4
          refine lv_iconst (v := 0) hx hb dX12_seesAll_39 (by decide) ?_
          refine lv_istore_n (lv' := [(2, .int (0 : Int32)), (3, .int x3_4), (0, .ref a0), (1, .int x1)]) hx hb dX12_seesAll_40 rfl hl (by decide) rfl (fun ls hl => ?_)
          obtain ⟨v5, ev5⟩ : ∃ y : Int32, y = x3_4 + (1) := ⟨_, rfl⟩
          have k_1 : (1 : Int32).toInt = 1 := by decide
          have f6 : v5.toInt = x3_4.toInt + (1) := by rw [ev5]; exact i_addc k_1 (by omega) (by omega)
          refine lv_iinc (v := v5) (lv' := [(3, .int v5), (2, .int (0 : Int32)), (0, .ref a0), (1, .int x1)]) hx hb dX12_seesAll_41 hl (k := 1) rfl (by rw [ev5]; rfl) (by decide) rfl (fun ls hl => ?_)
          refine lv_goto (tgt := 4) hx hb dX12_seesAll_44 (by decide) ?_
          exact ih4 v5 (0 : Int32) ls (by omega) (by omega) (by omega) (lv_sub hl [0, 1, 2, 3] rfl)
        · have b4 : ¬ x2_4.toInt = (0 : Int32).toInt := fun z9 => c4 (i_eq.mpr z9)
          refine lv_aload_n hx hb dX12_seesAll_16 rfl (lv_at hl 2 rfl) ?_
          refine lv_iload_n hx hb dX12_seesAll_17 rfl (lv_at hl 0 rfl) ?_
          refine callV_Pi C hO (fun _ _ _ => rfl) (c_X12_smokeOf l D G a0 x3_4 ga0) kV_X12_308 ga0 (trivial) dX12_seesAll_18 hl.1 rfl rfl (by decide) cd_X12_smokeOf ⟨Nat.le_of_ble_eq_true rfl, Nat.le_of_ble_eq_true rfl, Nat.le_of_ble_eq_true rfl, Nat.le_of_ble_eq_true rfl, Nat.le_of_ble_eq_true rfl⟩ (fun v7 q7 => ?_)
          refine lv_if_eq (tgt := 35) hx hb dX12_seesAll_21 (by decide) (fun c8 => ?_) (fun c8 => ?_)
          · have b8 : v7.toInt = (0 : Int32).toInt := i_eq.mp c8
            refine lv_iconst (v := 1) hx hb dX12_seesAll_35 (by decide) ?_
            refine lv_goto (tgt := 40) hx hb dX12_seesAll_36 (by decide) ?_
            refine lv_istore_n (lv' := [(2, .int (1 : Int32)), (3, .int x3_4), (0, .ref a0), (1, .int x1)]) hx hb dX12_seesAll_40 rfl hl (by decide) rfl (fun ls hl => ?_)
            obtain ⟨v9, ev9⟩ : ∃ y : Int32, y = x3_4 + (1) := ⟨_, rfl⟩
            have k_1 : (1 : Int32).toInt = 1 := by decide
            have f10 : v9.toInt = x3_4.toInt + (1) := by rw [ev9]; exact i_addc k_1 (by omega) (by omega)
            refine lv_iinc (v := v9) (lv' := [(3, .int v9), (2, .int (1 : Int32)), (0, .ref a0), (1, .int x1)]) hx hb dX12_seesAll_41 hl (k := 1) rfl (by rw [ev9]; rfl) (by decide) rfl (fun ls hl => ?_)
            refine lv_goto (tgt := 4) hx hb dX12_seesAll_44 (by decide) ?_
            exact ih4 v9 (1 : Int32) ls (by omega) (by omega) (by omega) (lv_sub hl [0, 1, 2, 3] rfl)
          · have b8 : ¬ v7.toInt = (0 : Int32).toInt := fun z9 => c8 (i_eq.mpr z9)
            refine lv_aload_n hx hb dX12_seesAll_24 rfl (lv_at hl 2 rfl) ?_
            refine lv_iload_n hx hb dX12_seesAll_25 rfl (lv_at hl 0 rfl) ?_
            refine lv_iconst (v := 3) hx hb dX12_seesAll_26 (by decide) ?_
            have k_3 : (3 : Int32).toInt = 3 := by decide
            refine callV_Pi C hO (fun _ _ _ => rfl) (c_X12_of l D G a0 x3_4 (3 : Int32) ga0 (by omega) (by omega)) kV_X12_255 ga0 (trivial) dX12_seesAll_27 hl.1 rfl rfl (by decide) cd_X12_of ⟨Nat.le_of_ble_eq_true rfl, Nat.le_of_ble_eq_true rfl, Nat.le_of_ble_eq_true rfl, Nat.le_of_ble_eq_true rfl, Nat.le_of_ble_eq_true rfl⟩ (fun v11 q11 => ?_)
            refine lv_iload_n hx hb dX12_seesAll_30 rfl (lv_at hl 3 rfl) ?_
            refine lv_iand hx hb dX12_seesAll_31 ?_
            refine lv_topi (fun v12 ev12 => ?_)
            refine lv_if_eq (tgt := 39) hx hb dX12_seesAll_32 (by decide) (fun c13 => ?_) (fun c13 => ?_)
            · have b13 : v12.toInt = (0 : Int32).toInt := i_eq.mp c13
              refine lv_iconst (v := 0) hx hb dX12_seesAll_39 (by decide) ?_
              refine lv_istore_n (lv' := [(2, .int (0 : Int32)), (3, .int x3_4), (0, .ref a0), (1, .int x1)]) hx hb dX12_seesAll_40 rfl hl (by decide) rfl (fun ls hl => ?_)
              obtain ⟨v14, ev14⟩ : ∃ y : Int32, y = x3_4 + (1) := ⟨_, rfl⟩
              have k_1 : (1 : Int32).toInt = 1 := by decide
              have f15 : v14.toInt = x3_4.toInt + (1) := by rw [ev14]; exact i_addc k_1 (by omega) (by omega)
              refine lv_iinc (v := v14) (lv' := [(3, .int v14), (2, .int (0 : Int32)), (0, .ref a0), (1, .int x1)]) hx hb dX12_seesAll_41 hl (k := 1) rfl (by rw [ev14]; rfl) (by decide) rfl (fun ls hl => ?_)
              refine lv_goto (tgt := 4) hx hb dX12_seesAll_44 (by decide) ?_
              exact ih4 v14 (0 : Int32) ls (by omega) (by omega) (by omega) (lv_sub hl [0, 1, 2, 3] rfl)
            · have b13 : ¬ v12.toInt = (0 : Int32).toInt := fun z9 => c13 (i_eq.mpr z9)
              refine lv_iconst (v := 1) hx hb dX12_seesAll_35 (by decide) ?_
              refine lv_goto (tgt := 40) hx hb dX12_seesAll_36 (by decide) ?_
              refine lv_istore_n (lv' := [(2, .int (1 : Int32)), (3, .int x3_4), (0, .ref a0), (1, .int x1)]) hx hb dX12_seesAll_40 rfl hl (by decide) rfl (fun ls hl => ?_)
              obtain ⟨v16, ev16⟩ : ∃ y : Int32, y = x3_4 + (1) := ⟨_, rfl⟩
              have k_1 : (1 : Int32).toInt = 1 := by decide
              have f17 : v16.toInt = x3_4.toInt + (1) := by rw [ev16]; exact i_addc k_1 (by omega) (by omega)
              refine lv_iinc (v := v16) (lv' := [(3, .int v16), (2, .int (1 : Int32)), (0, .ref a0), (1, .int x1)]) hx hb dX12_seesAll_41 hl (k := 1) rfl (by rw [ev16]; rfl) (by decide) rfl (fun ls hl => ?_)
              refine lv_goto (tgt := 4) hx hb dX12_seesAll_44 (by decide) ?_
              exact ih4 v16 (1 : Int32) ls (by omega) (by omega) (by omega) (lv_sub hl [0, 1, 2, 3] rfl)
  have k_0 : (0 : Int32).toInt = 0 := by decide
  have k_1 : (1 : Int32).toInt = 1 := by decide
  exact Lp4 2147483648 (0 : Int32) (1 : Int32) ls (by omega) (by omega)  (by omega) (lv_sub hl [0, 1, 2, 3] rfl)

set_option maxRecDepth 100000 in
set_option maxHeartbeats 4000000 in
theorem c_X12_ofLog (l : Launch) (D : DD) (G : Nat → Nat) (a0 : Nat) (x1 : Int32) (x2 : Int32) (ga0 : G a0 = 30) (ix1 : 0 ≤ x1.toInt ∧ x1.toInt ≤ 59) (ix2 : 0 ≤ x2.toInt ∧ x2.toInt ≤ 3) : CP l D G yX12_ofLog cX12_ofLog 3 (some .int) 0 [.ref a0, .int x1, .int x2] (fun _ => True) (pI (fun H r => True)) := by
  refine enter (by decide) (Nat.le_of_ble_eq_true rfl) ?_
  intro p e s m args below meth c ls Q hA hQ C hr hO hpre hl
  have hx := C.1
  have hb := C.2.1
  have hl : lv_has ls 3 [(0, .ref a0), (1, .int x1), (2, .int x2)] := hl
  refine lv_aload_n hx hb dX12_ofLog_0 rfl (lv_at hl 0 rfl) ?_
  refine q_gr (T := TX12) C hO ga0 1 kF_X12_13 dX12_ofLog_1 rfl rfl (by decide) rfl (by decide) rfl (fun g1 => ?_)
  refine lv_bipush (v := 114) hx hb dX12_ofLog_4 (by decide) ?_
  refine lv_iconst (v := 4) hx hb dX12_ofLog_6 (by decide) ?_
  refine lv_iload_n hx hb dX12_ofLog_7 rfl (lv_at hl 1 rfl) ?_
  have k_4 : (4 : Int32).toInt = 4 := by decide
  refine lv_imul hx hb dX12_ofLog_8 ?_
  refine lv_topi (fun v2 ev2 => ?_)
  have f3 : v2.toInt = (4) * x1.toInt := by rw [ev2]; exact i_cmul k_4 (by omega) (by omega)
  have k_114 : (114 : Int32).toInt = 114 := by decide
  refine lv_iadd hx hb dX12_ofLog_9 ?_
  refine lv_topi (fun v4 ev4 => ?_)
  have f5 : v4.toInt = (114 : Int32).toInt + v2.toInt := by rw [ev4]; exact i_add (by omega) (by omega)
  refine lv_iload_n hx hb dX12_ofLog_10 rfl (lv_at hl 2 rfl) ?_
  refine lv_iadd hx hb dX12_ofLog_11 ?_
  refine lv_topi (fun v6 ev6 => ?_)
  have f7 : v6.toInt = v4.toInt + x2.toInt := by rw [ev6]; exact i_add (by omega) (by omega)
  have n8 : aN s.heap (fR D s.heap 11 a0 1) = 2052 := len_31 hO g1
  refine q_iald C hO g1 (by omega) (by omega) dX12_ofLog_12 rfl (by decide) ?_
  refine lv_topi (fun v9 ev9 => ?_)
  exact retP_i hQ C hr dX12_ofLog_13 (trivial)
