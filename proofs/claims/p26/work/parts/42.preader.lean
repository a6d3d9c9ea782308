set_option maxRecDepth 100000 in
set_option maxHeartbeats 4000000 in
theorem c_X5_bitsOf_d (l : Launch) (D : DD) (G : Nat → Nat) (a0 : Nat) (x1 : Int32) (ga0 : G a0 = 23) : CP l D G yX5_bitsOf cX5_bitsOf 4 (some .int) 0 [.ref a0, .int x1] (fun _ => True) (pI (fun H r => True)) := by
  refine enter (by decide) (Nat.le_of_ble_eq_true rfl) ?_
  intro p e s m args below meth c ls Q hA hQ C hr hO hpre hl
  have hx := C.1
  have hb := C.2.1
  have hl : lv_has ls 4 [(0, .ref a0), (1, .int x1)] := hl
  refine lv_iconst (v := 0) hx hb dX5_bitsOf_0 (by decide) ?_
  refine lv_istore_n (lv' := [(2, .int (0 : Int32)), (0, .ref a0), (1, .int x1)]) hx hb dX5_bitsOf_1 rfl hl (by decide) rfl (fun ls hl => ?_)
  refine lv_iconst (v := 0) hx hb dX5_bitsOf_2 (by decide) ?_
  refine lv_istore_n (lv' := [(3, .int (0 : Int32)), (2, .int (0 : Int32)), (0, .ref a0), (1, .int x1)]) hx hb dX5_bitsOf_3 rfl hl (by decide) rfl (fun ls hl => ?_)
  have Lp4 : ∀ (n : Nat) (x3_4 : Int32) (x2_4 : Int32) (ls : Array Slot), (0 ≤ x3_4.toInt ∧ x3_4.toInt ≤ 2147483647) → 2147483648 - x3_4.toInt ≤ (n : Int) → lv_has ls 4 [(3, .int x3_4), (2, .int x2_4), (0, .ref a0), (1, .int x1)] → W p l e (rmU 0 0 0) s m args below meth c s.heap [] 0 0 Q (F0 m 4 ls []) := by
    intro n
    induction n with
    | zero =>
      intro x3_4 x2_4 ls j4_0 hn hl
      exact absurd hn (by omega)
    | succ n ih4 =>
      intro x3_4 x2_4 ls j4_0 hn hl
      refine lv_iload_n hx hb dX5_bitsOf_4 rfl (lv_at hl 0 rfl) ?_
      refine lv_aload_n hx hb dX5_bitsOf_5 rfl (lv_at hl 2 rfl) ?_
      refine q_gi (T := TX5) C hO ga0 4 kF_X5_34 dX5_bitsOf_6 rfl rfl (by decide) rfl (by decide) rfl ?_
      have r1 : 0 ≤ (fI D s.heap 5 a0 4).toInt ∧ (fI D s.heap 5 a0 4).toInt ≤ 12 := hO.rng ga0 rfl (by decide) rfl
      have r3 := i_rng x3_4
      refine lv_icmp_ge (tgt := 37) hx hb dX5_bitsOf_9 (by decide) (fun c2 => ?_) (fun c2 => ?_)
      · have b2 : (fI D s.heap 5 a0 4).toInt ≤ x3_4.toInt := i_le.mp c2
        refine lv_iload_n hx hb dX5_bitsOf_37 rfl (lv_at hl 1 rfl) ?_
        exact retP_i hQ C hr dX5_bitsOf_38 (trivial)
      · have b2 : ¬ (fI D s.heap 5 a0 4).toInt ≤ x3_4.toInt := fun z9 => c2 (i_le.mpr z9)
        refine lv_aload_n hx hb dX5_bitsOf_12 rfl (lv_at hl 2 rfl) ?_
        refine q_gr (T := TX5) C hO ga0 1 kF_X5_19 dX5_bitsOf_13 rfl rfl (by decide) rfl (by decide) rfl (fun g4 => ?_)
        refine lv_iload_n hx hb dX5_bitsOf_16 rfl (lv_at hl 0 rfl) ?_
        refine q_aald C hO g4 (by omega) (by omega) dX5_bitsOf_17 rfl (by decide) rfl rfl (fun g5 => ?_)
        refine q_gi (T := TX1) C hO g5 0 kF_X5_77 dX5_bitsOf_18 rfl rfl (by decide) rfl (by decide) rfl ?_
        have r6 : -1 ≤ (fI D s.heap 1 (eR s.heap (fR D s.heap 5 a0 1) x3_4.toInt.toNat) 0).toInt ∧ (fI D s.heap 1 (eR s.heap (fR D s.heap 5 a0 1) x3_4.toInt.toNat) 0).toInt ≤ 5 := hO.rng g5 rfl (by decide) rfl
        refine lv_iload_n hx hb dX5_bitsOf_21 rfl (lv_at hl 3 rfl) ?_
        refine lv_icmp_ne (tgt := 31) hx hb dX5_bitsOf_22 (by decide) (fun c7 => ?_) (fun c7 => ?_)
        · have b7 : ¬ (fI D s.heap 1 (eR s.heap (fR D s.heap 5 a0 1) x3_4.toInt.toNat) 0).toInt = x1.toInt := fun z9 => c7 (i_eq.mpr z9)
          obtain ⟨v8, ev8⟩ : ∃ y : Int32, y = x3_4 + (1) := ⟨_, rfl⟩
          have k_1 : (1 : Int32).toInt = 1 := by decide
          have f9 : v8.toInt = x3_4.toInt + (1) := by rw [ev8]; exact i_addc k_1 (by omega) (by omega)
          refine lv_iinc (v := v8) (lv' := [(3, .int v8), (2, .int x2_4), (0, .ref a0), (1, .int x1)]) hx hb dX5_bitsOf_31 hl (k := 0) rfl (by rw [ev8]; rfl) (by decide) rfl (fun ls hl => ?_)
          refine lv_goto (tgt := 4) hx hb dX5_bitsOf_34 (by decide) ?_
          exact ih4 v8 x2_4 ls (by omega) (by omega) (lv_sub hl [0, 1, 2, 3] rfl)
        · have b7 : (fI D s.heap 1 (eR s.heap (fR D s.heap 5 a0 1) x3_4.toInt.toNat) 0).toInt = x1.toInt := i_eq.mp c7
          refine lv_iload_n hx hb dX5_bitsOf_25 rfl (lv_at hl 1 rfl) ?_
          refine lv_iconst (v := 1) hx hb dX5_bitsOf_26 (by decide) ?_
          refine lv_iload_n hx hb dX5_bitsOf_27 rfl (lv_at hl 0 rfl) ?_
          have k_1 : (1 : Int32).toInt = 1 := by decide
          refine lv_ishl hx hb dX5_bitsOf_28 ?_
          refine lv_topi (fun v10 ev10 => ?_)
          have f11 : 1 ≤ v10.toInt ∧ v10.toInt ≤ 2048 := by rw [ev10]; exact i_shl1 11 (by omega) (by omega) (by decide)
          refine lv_ior hx hb dX5_bitsOf_29 ?_
          refine lv_topi (fun v12 ev12 => ?_)
          refine lv_istore_n (lv' := [(2, .int v12), (3, .int x3_4), (0, .ref a0), (1, .int x1)]) hx hb dX5_bitsOf_30 rfl hl (by decide) rfl (fun ls hl => ?_)
          obtain ⟨v13, ev13⟩ : ∃ y : Int32, y = x3_4 + (1) := ⟨_, rfl⟩
          have f14 : v13.toInt = x3_4.toInt + (1) := by rw [ev13]; exact i_addc k_1 (by omega) (by omega)
          refine lv_iinc (v := v13) (lv' := [(3, .int v13), (2, .int v12), (0, .ref a0), (1, .int x1)]) hx hb dX5_bitsOf_31 hl (k := 1) rfl (by rw [ev13]; rfl) (by decide) rfl (fun ls hl => ?_)
          refine lv_goto (tgt := 4) hx hb dX5_bitsOf_34 (by decide) ?_
          exact ih4 v13 v12 ls (by omega) (by omega) (lv_sub hl [0, 1, 2, 3] rfl)
  have k_0 : (0 : Int32).toInt = 0 := by decide
  exact Lp4 2147483648 (0 : Int32) (0 : Int32) ls (by omega)  (by omega) (lv_sub hl [0, 1, 2, 3] rfl)

set_option maxRecDepth 100000 in
set_option maxHeartbeats 4000000 in
theorem c_X5_bitsIn_d (l : Launch) (D : DD) (G : Nat → Nat) (a0 : Nat) (x1 : Int32) (ga0 : G a0 = 23) : CP l D G yX5_bitsIn cX5_bitsIn 4 (some .int) 0 [.ref a0, .int x1] (fun _ => True) (pI (fun H r => True)) := by
  refine enter (by decide) (Nat.le_of_ble_eq_true rfl) ?_
  intro p e s m args below meth c ls Q hA hQ C hr hO hpre hl
  have hx := C.1
  have hb := C.2.1
  have hl : lv_has ls 4 [(0, .ref a0), (1, .int x1)] := hl
  refine lv_iconst (v := 0) hx hb dX5_bitsIn_0 (by decide) ?_
  refine lv_istore_n (lv' := [(2, .int (0 : Int32)), (0, .ref a0), (1, .int x1)]) hx hb dX5_bitsIn_1 rfl hl (by decide) rfl (fun ls hl => ?_)
  refine lv_iconst (v := 0) hx hb dX5_bitsIn_2 (by decide) ?_
  refine lv_istore_n (lv' := [(3, .int (0 : Int32)), (2, .int (0 : Int32)), (0, .ref a0), (1, .int x1)]) hx hb dX5_bitsIn_3 rfl hl (by decide) rfl (fun ls hl => ?_)
  have Lp4 : ∀ (n : Nat) (x3_4 : Int32) (x2_4 : Int32) (ls : Array Slot), (0 ≤ x3_4.toInt ∧ x3_4.toInt ≤ 2147483647) → 2147483648 - x3_4.toInt ≤ (n : Int) → lv_has ls 4 [(3, .int x3_4), (2, .int x2_4), (0, .ref a0), (1, .int x1)] → W p l e (rmU 0 0 0) s m args below meth c s.heap [] 0 0 Q (F0 m 4 ls []) := by
    intro n
    induction n with
    | zero =>
      intro x3_4 x2_4 ls j4_0 hn hl
      exact absurd hn (by omega)
    | succ n ih4 =>
      intro x3_4 x2_4 ls j4_0 hn hl
      refine lv_iload_n hx hb dX5_bitsIn_4 rfl (lv_at hl 0 rfl) ?_
      refine lv_aload_n hx hb dX5_bitsIn_5 rfl (lv_at hl 2 rfl) ?_
      refine q_gi (T := TX5) C hO ga0 4 kF_X5_34 dX5_bitsIn_6 rfl rfl (by decide) rfl (by decide) rfl ?_
      have r1 : 0 ≤ (fI D s.heap 5 a0 4).toInt ∧ (fI D s.heap 5 a0 4).toInt ≤ 12 := hO.rng ga0 rfl (by decide) rfl
      have r3 := i_rng x3_4
      refine lv_icmp_ge (tgt := 37) hx hb dX5_bitsIn_9 (by decide) (fun c2 => ?_) (fun c2 => ?_)
      · have b2 : (fI D s.heap 5 a0 4).toInt ≤ x3_4.toInt := i_le.mp c2
        refine lv_iload_n hx hb dX5_bitsIn_37 rfl (lv_at hl 1 rfl) ?_
        exact retP_i hQ C hr dX5_bitsIn_38 (trivial)
      · have b2 : ¬ (fI D s.heap 5 a0 4).toInt ≤ x3_4.toInt := fun z9 => c2 (i_le.mpr z9)
        refine lv_aload_n hx hb dX5_bitsIn_12 rfl (lv_at hl 2 rfl) ?_
        refine q_gr (T := TX5) C hO ga0 1 kF_X5_19 dX5_bitsIn_13 rfl rfl (by decide) rfl (by decide) rfl (fun g4 => ?_)
        refine lv_iload_n hx hb dX5_bitsIn_16 rfl (lv_at hl 0 rfl) ?_
        refine q_aald C hO g4 (by omega) (by omega) dX5_bitsIn_17 rfl (by decide) rfl rfl (fun g5 => ?_)
        refine q_gi (T := TX1) C hO g5 5 kF_X5_80 dX5_bitsIn_18 rfl rfl (by decide) rfl (by decide) rfl ?_
        refine lv_iload_n hx hb dX5_bitsIn_21 rfl (lv_at hl 3 rfl) ?_
        refine lv_icmp_ne (tgt := 31) hx hb dX5_bitsIn_22 (by decide) (fun c6 => ?_) (fun c6 => ?_)
        · have b6 : ¬ (fI D s.heap 1 (eR s.heap (fR D s.heap 5 a0 1) x3_4.toInt.toNat) 5).toInt = x1.toInt := fun z9 => c6 (i_eq.mpr z9)
          obtain ⟨v7, ev7⟩ : ∃ y : Int32, y = x3_4 + (1) := ⟨_, rfl⟩
          have k_1 : (1 : Int32).toInt = 1 := by decide
          have f8 : v7.toInt = x3_4.toInt + (1) := by rw [ev7]; exact i_addc k_1 (by omega) (by omega)
          refine lv_iinc (v := v7) (lv' := [(3, .int v7), (2, .int x2_4), (0, .ref a0), (1, .int x1)]) hx hb dX5_bitsIn_31 hl (k := 0) rfl (by rw [ev7]; rfl) (by decide) rfl (fun ls hl => ?_)
          refine lv_goto (tgt := 4) hx hb dX5_bitsIn_34 (by decide) ?_
          exact ih4 v7 x2_4 ls (by omega) (by omega) (lv_sub hl [0, 1, 2, 3] rfl)
        · have b6 : (fI D s.heap 1 (eR s.heap (fR D s.heap 5 a0 1) x3_4.toInt.toNat) 5).toInt = x1.toInt := i_eq.mp c6
          refine lv_iload_n hx hb dX5_bitsIn_25 rfl (lv_at hl 1 rfl) ?_
          refine lv_iconst (v := 1) hx hb dX5_bitsIn_26 (by decide) ?_
          refine lv_iload_n hx hb dX5_bitsIn_27 rfl (lv_at hl 0 rfl) ?_
          have k_1 : (1 : Int32).toInt = 1 := by decide
          refine lv_ishl hx hb dX5_bitsIn_28 ?_
          refine lv_topi (fun v9 ev9 => ?_)
          have f10 : 1 ≤ v9.toInt ∧ v9.toInt ≤ 2048 := by rw [ev9]; exact i_shl1 11 (by omega) (by omega) (by decide)
          refine lv_ior hx hb dX5_bitsIn_29 ?_
          refine lv_topi (fun v11 ev11 => ?_)
          refine lv_istore_n (lv' := [(2, .int v11), (3, .int x3_4), (0, .ref a0), (1, .int x1)]) hx hb dX5_bitsIn_30 rfl hl (by decide) rfl (fun ls hl => ?_)
          obtain ⟨v12, ev12⟩ : ∃ y : Int32, y = x3_4 + (1) := ⟨_, rfl⟩
          have f13 : v12.toInt = x3_4.toInt + (1) := by rw [ev12]; exact i_addc k_1 (by omega) (by omega)
          refine lv_iinc (v := v12) (lv' := [(3, .int v12), (2, .int v11), (0, .ref a0), (1, .int x1)]) hx hb dX5_bitsIn_31 hl (k := 1) rfl (by rw [ev12]; rfl) (by decide) rfl (fun ls hl => ?_)
          refine lv_goto (tgt := 4) hx hb dX5_bitsIn_34 (by decide) ?_
          exact ih4 v12 v11 ls (by omega) (by omega) (lv_sub hl [0, 1, 2, 3] rfl)
  have k_0 : (0 : Int32).toInt = 0 := by decide
  exact Lp4 2147483648 (0 : Int32) (0 : Int32) ls (by omega)  (by omega) (lv_sub hl [0, 1, 2, 3] rfl)

set_option maxRecDepth 100000 in
set_option maxHeartbeats 4000000 in
theorem c_X6_numberAfter (l : Launch) (D : DD) (G : Nat → Nat) (a0 : Nat) (a1 n1 : Nat) (x2 : Int32) (x3 : Int32) (ga0 : G a0 = 20) (sa1 : D.1.2 99 a1 = n1 + 1) : CE l D G yX6_numberAfter cX6_numberAfter 4 (some .int) 6 [.ref a0, .ref a1, .int x2, .int x3] (fun _ => True) [(2, 3), (2, 4), (2, 5), (2, 6), (2, 2)] (xI (fun H r H1 => r.toInt = -1 ∨ (x2.toInt ≤ r.toInt ∧ r.toInt ≤ x3.toInt))) := by
  refine enter (by decide) (Nat.le_of_ble_eq_true rfl) ?_
  intro p e s m args below meth c ls Q hA hQ C hr hO hpre hl
  have hx := C.1
  have hb := C.2.1
  have S : Sd D G [(2, 3), (2, 4), (2, 5), (2, 6), (2, 2)] s.heap s.heap [] := Sd.start hO
  have hl : lv_has ls 4 [(0, .ref a0), (1, .ref a1), (2, .int x2), (3, .int x3)] := hl
  refine lv_aload_n hx hb dX6_numberAfter_0 rfl (lv_at hl 0 rfl) ?_
  refine q_grS (T := TX6) C S.1 ga0 0 kF_X6_15 dX6_numberAfter_1 rfl rfl (by decide) rfl (by decide) kSF_X6_tape (fun g1 => ?_)
  refine lv_aload_n hx hb dX6_numberAfter_4 rfl (lv_at hl 1 rfl) ?_
  refine callV_Ei C S (c_X9_takeWord l D G (fR D s.heap 6 a0 0) a1 n1 g1 sa1) kV_X6_108 g1 (trivial) (by decide +kernel) dX6_numberAfter_5 hl.1 rfl rfl (by decide) cd_X9_takeWord ⟨Nat.le_of_ble_eq_true rfl, Nat.le_of_ble_eq_true rfl, Nat.le_of_ble_eq_true rfl, Nat.le_of_ble_eq_true rfl, Nat.le_of_ble_eq_true rfl⟩ (fun v2 H2 L2 S2 K2 q2 => ?_)
  have k_0 : (0 : Int32).toInt = 0 := by decide
  refine lv_if_ne (tgt := 13) hx hb dX6_numberAfter_8 (by decide) (fun c3 => ?_) (fun c3 => ?_)
  · have b3 : ¬ v2.toInt = (0 : Int32).toInt := fun z9 => c3 (i_eq.mpr z9)
    refine lv_aload_n hx hb dX6_numberAfter_13 rfl (lv_at hl 0 rfl) ?_
    refine q_grS (T := TX6) C S2.1 ga0 0 kF_X6_15 dX6_numberAfter_14 rfl rfl (by decide) rfl (by decide) kSF_X6_tape (fun g4 => ?_)
    refine lv_iload_n hx hb dX6_numberAfter_17 rfl (lv_at hl 2 rfl) ?_
    refine lv_iload_n hx hb dX6_numberAfter_18 rfl (lv_at hl 3 rfl) ?_
    refine callV_Ei C S2 (c_X9_takeNumber l D G (fR D H2 6 a0 0) x2 x3 g4) kV_X6_86 g4 (trivial) (by decide +kernel) dX6_numberAfter_19 hl.1 rfl rfl (by decide) cd_X9_takeNumber ⟨Nat.le_of_ble_eq_true rfl, Nat.le_of_ble_eq_true rfl, Nat.le_of_ble_eq_true rfl, Nat.le_of_ble_eq_true rfl, Nat.le_of_ble_eq_true rfl⟩ (fun v5 H5 L5 S5 K5 q5 => ?_)
    exact retE_i hQ C S5 hr dX6_numberAfter_22 (by omega)
  · have b3 : v2.toInt = (0 : Int32).toInt := i_eq.mp c3
    refine lv_iconst (v := -1) hx hb dX6_numberAfter_11 (by decide) ?_
    have k_m1 : (-1 : Int32).toInt = -1 := by decide
    exact retE_i hQ C S2 hr dX6_numberAfter_12 (by omega)

set_option maxRecDepth 100000 in
set_option maxHeartbeats 4000000 in
theorem c_X6_presentKind (l : Launch) (D : DD) (G : Nat → Nat) (a0 : Nat) (ga0 : G a0 = 20) : CP l D G yX6_presentKind cX6_presentKind 1 (some .int) 5 [.ref a0] (fun _ => True) (pI (fun H r => -1 ≤ r.toInt ∧ r.toInt ≤ 3)) := by
  refine enter (by decide) (Nat.le_of_ble_eq_true rfl) ?_
  intro p e s m args below meth c ls Q hA hQ C hr hO hpre hl
  have hx := C.1
  have hb := C.2.1
  have hl : lv_has ls 1 [(0, .ref a0)] := hl
  refine lv_aload_n hx hb dX6_presentKind_0 rfl (lv_at hl 0 rfl) ?_
  refine q_grS (T := TX6) C hO ga0 0 kF_X6_15 dX6_presentKind_1 rfl rfl (by decide) rfl (by decide) kSF_X6_tape (fun g1 => ?_)
  refine q_lds C ks_X6_131 dX6_presentKind_4 (fun a2 ha2 wa2 => ?_)
  refine callV_Pi C hO (fun _ _ _ => rfl) (c_X9_isWord l D G (fR D s.heap 6 a0 0) a2 4 g1 ha2) kV_X6_21 g1 (trivial) dX6_presentKind_6 hl.1 rfl rfl (by decide) cd_X9_isWord ⟨Nat.le_of_ble_eq_true rfl, Nat.le_of_ble_eq_true rfl, Nat.le_of_ble_eq_true rfl, Nat.le_of_ble_eq_true rfl, Nat.le_of_ble_eq_true rfl⟩ (fun v3 q3 => ?_)
  have k_0 : (0 : Int32).toInt = 0 := by decide
  refine lv_if_eq (tgt := 14) hx hb dX6_presentKind_9 (by decide) (fun c4 => ?_) (fun c4 => ?_)
  · have b4 : v3.toInt = (0 : Int32).toInt := i_eq.mp c4
    refine lv_aload_n hx hb dX6_presentKind_14 rfl (lv_at hl 0 rfl) ?_
    refine q_grS (T := TX6) C hO ga0 0 kF_X6_15 dX6_presentKind_15 rfl rfl (by decide) rfl (by decide) kSF_X6_tape (fun g5 => ?_)
    refine q_lds C ks_X6_133 dX6_presentKind_18 (fun a6 ha6 wa6 => ?_)
    refine callV_Pi C hO (fun _ _ _ => rfl) (c_X9_isWord l D G (fR D s.heap 6 a0 0) a6 4 g5 ha6) kV_X6_21 g5 (trivial) dX6_presentKind_20 hl.1 rfl rfl (by decide) cd_X9_isWord ⟨Nat.le_of_ble_eq_true rfl, Nat.le_of_ble_eq_true rfl, Nat.le_of_ble_eq_true rfl, Nat.le_of_ble_eq_true rfl, Nat.le_of_ble_eq_true rfl⟩ (fun v7 q7 => ?_)
    refine lv_if_eq (tgt := 28) hx hb dX6_presentKind_23 (by decide) (fun c8 => ?_) (fun c8 => ?_)
    · have b8 : v7.toInt = (0 : Int32).toInt := i_eq.mp c8
      refine lv_aload_n hx hb dX6_presentKind_28 rfl (lv_at hl 0 rfl) ?_
      refine q_grS (T := TX6) C hO ga0 0 kF_X6_15 dX6_presentKind_29 rfl rfl (by decide) rfl (by decide) kSF_X6_tape (fun g9 => ?_)
      refine q_lds C ks_X6_135 dX6_presentKind_32 (fun a10 ha10 wa10 => ?_)
      refine callV_Pi C hO (fun _ _ _ => rfl) (c_X9_isWord l D G (fR D s.heap 6 a0 0) a10 5 g9 ha10) kV_X6_21 g9 (trivial) dX6_presentKind_34 hl.1 rfl rfl (by decide) cd_X9_isWord ⟨Nat.le_of_ble_eq_true rfl, Nat.le_of_ble_eq_true rfl, Nat.le_of_ble_eq_true rfl, Nat.le_of_ble_eq_true rfl, Nat.le_of_ble_eq_true rfl⟩ (fun v11 q11 => ?_)
      refine lv_if_eq (tgt := 42) hx hb dX6_presentKind_37 (by decide) (fun c12 => ?_) (fun c12 => ?_)
      · have b12 : v11.toInt = (0 : Int32).toInt := i_eq.mp c12
        refine lv_aload_n hx hb dX6_presentKind_42 rfl (lv_at hl 0 rfl) ?_
        refine q_grS (T := TX6) C hO ga0 0 kF_X6_15 dX6_presentKind_43 rfl rfl (by decide) rfl (by decide) kSF_X6_tape (fun g13 => ?_)
        refine q_lds C ks_X6_137 dX6_presentKind_46 (fun a14 ha14 wa14 => ?_)
        refine callV_Pi C hO (fun _ _ _ => rfl) (c_X9_isWord l D G (fR D s.heap 6 a0 0) a14 3 g13 ha14) kV_X6_21 g13 (trivial) dX6_presentKind_48 hl.1 rfl rfl (by decide) cd_X9_isWord ⟨Nat.le_of_ble_eq_true rfl, Nat.le_of_ble_eq_true rfl, Nat.le_of_ble_eq_true rfl, Nat.le_of_ble_eq_true rfl, Nat.le_of_ble_eq_true rfl⟩ (fun v15 q15 => ?_)
        refine lv_if_eq (tgt := 58) hx hb dX6_presentKind_51 (by decide) (fun c16 => ?_) (fun c16 => ?_)
        · have b16 : v15.toInt = (0 : Int32).toInt := i_eq.mp c16
          refine lv_iconst (v := -1) hx hb dX6_presentKind_58 (by decide) ?_
          have k_m1 : (-1 : Int32).toInt = -1 := by decide
          exact retP_i hQ C hr dX6_presentKind_59 (by omega)
        · have b16 : ¬ v15.toInt = (0 : Int32).toInt := fun z9 => c16 (i_eq.mpr z9)
          refine lv_iconst (v := 3) hx hb dX6_presentKind_54 (by decide) ?_
          refine lv_goto (tgt := 59) hx hb dX6_presentKind_55 (by decide) ?_
          have k_3 : (3 : Int32).toInt = 3 := by decide
          exact retP_i hQ C hr dX6_presentKind_59 (by omega)
      · have b12 : ¬ v11.toInt = (0 : Int32).toInt := fun z9 => c12 (i_eq.mpr z9)
        refine lv_iconst (v := 2) hx hb dX6_presentKind_40 (by decide) ?_
        have k_2 : (2 : Int32).toInt = 2 := by decide
        exact retP_i hQ C hr dX6_presentKind_41 (by omega)
    · have b8 : ¬ v7.toInt = (0 : Int32).toInt := fun z9 => c8 (i_eq.mpr z9)
      refine lv_iconst (v := 1) hx hb dX6_presentKind_26 (by decide) ?_
      have k_1 : (1 : Int32).toInt = 1 := by decide
      exact retP_i hQ C hr dX6_presentKind_27 (by omega)
  · have b4 : ¬ v3.toInt = (0 : Int32).toInt := fun z9 => c4 (i_eq.mpr z9)
    refine lv_iconst (v := 0) hx hb dX6_presentKind_12 (by decide) ?_
    exact retP_i hQ C hr dX6_presentKind_13 (by omega)

set_option maxRecDepth 100000 in
set_option maxHeartbeats 4000000 in
theorem c_X6_roomyHouse (l : Launch) (D : DD) (G : Nat → Nat) (a0 : Nat) (ga0 : G a0 = 20) : CE l D G yX6_roomyHouse cX6_roomyHouse 2 (some .int) 2 [.ref a0] (fun H => G (fR D H 6 a0 2) = 23) [(2, 3), (2, 4), (2, 5), (2, 6), (2, 2)] (xI (fun H r H1 => -1 ≤ r.toInt ∧ r.toInt ≤ 5)) := by
  refine enter (by decide) (Nat.le_of_ble_eq_true rfl) ?_
  intro p e s m args below meth c ls Q hA hQ C hr hO hpre hl
  have hx := C.1
  have hb := C.2.1
  have S : Sd D G [(2, 3), (2, 4), (2, 5), (2, 6), (2, 2)] s.heap s.heap [] := Sd.start hO
  have hl : lv_has ls 2 [(0, .ref a0)] := hl
  refine lv_aload_n hx hb dX6_roomyHouse_0 rfl (lv_at hl 0 rfl) ?_
  refine q_grS (T := TX6) C S.1 ga0 0 kF_X6_15 dX6_roomyHouse_1 rfl rfl (by decide) rfl (by decide) kSF_X6_tape (fun g1 => ?_)
  refine q_gi (T := TX9) C S.1 g1 3 kF_X6_139 dX6_roomyHouse_4 rfl rfl (by decide) rfl (by decide) rfl ?_
  refine lv_iconst (v := 2) hx hb dX6_roomyHouse_7 (by decide) ?_
  have k_2 : (2 : Int32).toInt = 2 := by decide
  refine lv_icmp_ne (tgt := 37) hx hb dX6_roomyHouse_8 (by decide) (fun c2 => ?_) (fun c2 => ?_)
  · have b2 : ¬ (fI D s.heap 9 (fR D s.heap 6 a0 0) 3).toInt = (2 : Int32).toInt := fun z9 => c2 (i_eq.mpr z9)
    refine lv_iconst (v := 0) hx hb dX6_roomyHouse_37 (by decide) ?_
    refine lv_istore_n (lv' := [(1, .int (0 : Int32)), (0, .ref a0)]) hx hb dX6_roomyHouse_38 rfl hl (by decide) rfl (fun ls hl => ?_)
    refine lv_iload_n hx hb dX6_roomyHouse_39 rfl (lv_at hl 0 rfl) ?_
    have k_0 : (0 : Int32).toInt = 0 := by decide
    refine lv_if_eq (tgt := 53) hx hb dX6_roomyHouse_40 (by decide) (fun c3 => ?_) (fun c3 => ?_)
    · have b3 : (0 : Int32).toInt = (0 : Int32).toInt := i_eq.mp c3
      refine lv_aload_n hx hb dX6_roomyHouse_53 rfl (lv_at hl 1 rfl) ?_
      refine q_grS (T := TX6) C S.1 ga0 0 kF_X6_15 dX6_roomyHouse_54 rfl rfl (by decide) rfl (by decide) kSF_X6_tape (fun g4 => ?_)
      refine lv_iconst (v := 0) hx hb dX6_roomyHouse_57 (by decide) ?_
      refine lv_aload_n hx hb dX6_roomyHouse_58 rfl (lv_at hl 1 rfl) ?_
      refine q_grD (T := TX6) C S.1 ga0 2 kF_X6_11 dX6_roomyHouse_59 rfl rfl (by decide) rfl (by decide) rfl (fun g5 => ?_)
      replace g5 : G (fR D s.heap 6 a0 2) = 23 := by rw [S.2.1.fR ga0 rfl (by decide) (by decide +kernel)]; exact hpre
      refine q_gi (T := TX5) C S.1 g5 3 kF_X6_44 dX6_roomyHouse_62 rfl rfl (by decide) rfl (by decide) rfl ?_
      have r6 : 0 ≤ (fI D s.heap 5 (fR D s.heap 6 a0 2) 3).toInt ∧ (fI D s.heap 5 (fR D s.heap 6 a0 2) 3).toInt ≤ 6 := S.1.rng g5 rfl (by decide) rfl
      refine lv_iconst (v := 1) hx hb dX6_roomyHouse_65 (by decide) ?_
      have k_1 : (1 : Int32).toInt = 1 := by decide
      refine lv_isub hx hb dX6_roomyHouse_66 ?_
      refine lv_topi (fun v7 ev7 => ?_)
      have f8 : v7.toInt = (fI D s.heap 5 (fR D s.heap 6 a0 2) 3).toInt - (1 : Int32).toInt := by rw [ev7]; exact i_sub (by omega) (by omega)
      refine callV_Ei C S (c_X9_takeNumber l D G (fR D s.heap 6 a0 0) (0 : Int32) v7 g4) kV_X6_86 g4 (trivial) (by decide +kernel) dX6_roomyHouse_67 hl.1 rfl rfl (by decide) cd_X9_takeNumber ⟨Nat.le_of_ble_eq_true rfl, Nat.le_of_ble_eq_true rfl, Nat.le_of_ble_eq_true rfl, Nat.le_of_ble_eq_true rfl, Nat.le_of_ble_eq_true rfl⟩ (fun v9 H9 L9 S9 K9 q9 => ?_)
      exact retE_i hQ C S9 hr dX6_roomyHouse_70 (by omega)
    · have b3 : ¬ (0 : Int32).toInt = (0 : Int32).toInt := fun z9 => c3 (i_eq.mpr z9)
      exact absurd b3 (by omega)
  · have b2 : (fI D s.heap 9 (fR D s.heap 6 a0 0) 3).toInt = (2 : Int32).toInt := i_eq.mp c2
    refine lv_aload_n hx hb dX6_roomyHouse_11 rfl (lv_at hl 0 rfl) ?_
    refine q_grD (T := TX6) C S.1 ga0 2 kF_X6_11 dX6_roomyHouse_12 rfl rfl (by decide) rfl (by decide) rfl (fun g10 => ?_)
    replace g10 : G (fR D s.heap 6 a0 2) = 23 := by rw [S.2.1.fR ga0 rfl (by decide) (by decide +kernel)]; exact hpre
    refine lv_aload_n hx hb dX6_roomyHouse_15 rfl (lv_at hl 0 rfl) ?_
    refine q_grS (T := TX6) C S.1 ga0 0 kF_X6_15 dX6_roomyHouse_16 rfl rfl (by decide) rfl (by decide) kSF_X6_tape (fun g11 => ?_)
    refine q_gi (T := TX9) C S.1 g11 6 kF_X6_142 dX6_roomyHouse_19 rfl rfl (by decide) rfl (by decide) rfl ?_
    refine callV_Pi C S.1 S.2.1.2.1 (c_X5_bitsOf_d l D G (fR D s.heap 6 a0 2) (fI D s.heap 9 (fR D s.heap 6 a0 0) 6) g10) kV_X6_145 g10 (trivial) dX6_roomyHouse_22 hl.1 rfl rfl (by decide) cd_X5_bitsOf ⟨Nat.le_of_ble_eq_true rfl, Nat.le_of_ble_eq_true rfl, Nat.le_of_ble_eq_true rfl, Nat.le_of_ble_eq_true rfl, Nat.le_of_ble_eq_true rfl⟩ (fun v12 q12 => ?_)
    refine callS_Pi C S.1 S.2.1.2.1 (c_J6_bitCount_0f7a4 l D G v12) kS_X6_149 (trivial) dX6_roomyHouse_25 hl.1 cd_J6_bitCount_0f7a4 ⟨Nat.le_of_ble_eq_true rfl, Nat.le_of_ble_eq_true rfl, Nat.le_of_ble_eq_true rfl, Nat.le_of_ble_eq_true rfl, Nat.le_of_ble_eq_true rfl⟩ (fun v13 q13 => ?_)
    refine lv_bipush (v := 6) hx hb dX6_roomyHouse_28 (by decide) ?_
    have k_6 : (6 : Int32).toInt = 6 := by decide
    refine lv_icmp_lt (tgt := 37) hx hb dX6_roomyHouse_30 (by decide) (fun c14 => ?_) (fun c14 => ?_)
    · have b14 : v13.toInt < (6 : Int32).toInt := i_lt.mp c14
      refine lv_iconst (v := 0) hx hb dX6_roomyHouse_37 (by decide) ?_
      refine lv_istore_n (lv' := [(1, .int (0 : Int32)), (0, .ref a0)]) hx hb dX6_roomyHouse_38 rfl hl (by decide) rfl (fun ls hl => ?_)
      refine lv_iload_n hx hb dX6_roomyHouse_39 rfl (lv_at hl 0 rfl) ?_
      have k_0 : (0 : Int32).toInt = 0 := by decide
      refine lv_if_eq (tgt := 53) hx hb dX6_roomyHouse_40 (by decide) (fun c15 => ?_) (fun c15 => ?_)
      · have b15 : (0 : Int32).toInt = (0 : Int32).toInt := i_eq.mp c15
        refine lv_aload_n hx hb dX6_roomyHouse_53 rfl (lv_at hl 1 rfl) ?_
        refine q_grS (T := TX6) C S.1 ga0 0 kF_X6_15 dX6_roomyHouse_54 rfl rfl (by decide) rfl (by decide) kSF_X6_tape (fun g16 => ?_)
        refine lv_iconst (v := 0) hx hb dX6_roomyHouse_57 (by decide) ?_
        refine lv_aload_n hx hb dX6_roomyHouse_58 rfl (lv_at hl 1 rfl) ?_
        refine q_grD (T := TX6) C S.1 ga0 2 kF_X6_11 dX6_roomyHouse_59 rfl rfl (by decide) rfl (by decide) rfl (fun g17 => ?_)
        replace g17 : G (fR D s.heap 6 a0 2) = 23 := by rw [S.2.1.fR ga0 rfl (by decide) (by decide +kernel)]; exact hpre
        refine q_gi (T := TX5) C S.1 g17 3 kF_X6_44 dX6_roomyHouse_62 rfl rfl (by decide) rfl (by decide) rfl ?_
        have r18 : 0 ≤ (fI D s.heap 5 (fR D s.heap 6 a0 2) 3).toInt ∧ (fI D s.heap 5 (fR D s.heap 6 a0 2) 3).toInt ≤ 6 := S.1.rng g17 rfl (by decide) rfl
        refine lv_iconst (v := 1) hx hb dX6_roomyHouse_65 (by decide) ?_
        have k_1 : (1 : Int32).toInt = 1 := by decide
        refine lv_isub hx hb dX6_roomyHouse_66 ?_
        refine lv_topi (fun v19 ev19 => ?_)
        have f20 : v19.toInt = (fI D s.heap 5 (fR D s.heap 6 a0 2) 3).toInt - (1 : Int32).toInt := by rw [ev19]; exact i_sub (by omega) (by omega)
        refine callV_Ei C S (c_X9_takeNumber l D G (fR D s.heap 6 a0 0) (0 : Int32) v19 g16) kV_X6_86 g16 (trivial) (by decide +kernel) dX6_roomyHouse_67 hl.1 rfl rfl (by decide) cd_X9_takeNumber ⟨Nat.le_of_ble_eq_true rfl, Nat.le_of_ble_eq_true rfl, Nat.le_of_ble_eq_true rfl, Nat.le_of_ble_eq_true rfl, Nat.le_of_ble_eq_true rfl⟩ (fun v21 H21 L21 S21 K21 q21 => ?_)
        exact retE_i hQ C S21 hr dX6_roomyHouse_70 (by omega)
      · have b15 : ¬ (0 : Int32).toInt = (0 : Int32).toInt := fun z9 => c15 (i_eq.mpr z9)
        exact absurd b15 (by omega)
    · have b14 : ¬ v13.toInt < (6 : Int32).toInt := fun z9 => c14 (i_lt.mpr z9)
      refine lv_iconst (v := 1) hx hb dX6_roomyHouse_33 (by decide) ?_
      refine lv_goto (tgt := 38) hx hb dX6_roomyHouse_34 (by decide) ?_
      refine lv_istore_n (lv' := [(1, .int (1 : Int32)), (0, .ref a0)]) hx hb dX6_roomyHouse_38 rfl hl (by decide) rfl (fun ls hl => ?_)
      refine lv_iload_n hx hb dX6_roomyHouse_39 rfl (lv_at hl 0 rfl) ?_
      have k_1 : (1 : Int32).toInt = 1 := by decide
      have k_0 : (0 : Int32).toInt = 0 := by decide
      refine lv_if_eq (tgt := 53) hx hb dX6_roomyHouse_40 (by decide) (fun c22 => ?_) (fun c22 => ?_)
      · have b22 : (1 : Int32).toInt = (0 : Int32).toInt := i_eq.mp c22
        exact absurd b22 (by omega)
      · have b22 : ¬ (1 : Int32).toInt = (0 : Int32).toInt := fun z9 => c22 (i_eq.mpr z9)
        refine lv_aload_n hx hb dX6_roomyHouse_43 rfl (lv_at hl 1 rfl) ?_
        refine q_grS (T := TX6) C S.1 ga0 0 kF_X6_15 dX6_roomyHouse_44 rfl rfl (by decide) rfl (by decide) kSF_X6_tape (fun g23 => ?_)
        refine callV_Ei C S (c_X9_refuse l D G (fR D s.heap 6 a0 0) g23) kV_X6_50 g23 (trivial) (by decide +kernel) dX6_roomyHouse_47 hl.1 rfl rfl (by decide) cd_X9_refuse ⟨Nat.le_of_ble_eq_true rfl, Nat.le_of_ble_eq_true rfl, Nat.le_of_ble_eq_true rfl, Nat.le_of_ble_eq_true rfl, Nat.le_of_ble_eq_true rfl⟩ (fun v24 H24 L24 S24 K24 q24 => ?_)
        refine lv_pop hx hb dX6_roomyHouse_50 rfl ?_
        refine lv_iconst (v := -1) hx hb dX6_roomyHouse_51 (by decide) ?_
        have k_m1 : (-1 : Int32).toInt = -1 := by decide
        exact retE_i hQ C S24 hr dX6_roomyHouse_52 (by omega)

set_option maxRecDepth 100000 in
set_option maxHeartbeats 4000000 in
theorem c_X6_readHouse (l : Launch) (D : DD) (G : Nat → Nat) (a0 : Nat) (ga0 : G a0 = 20) : CE l D G yX6_readHouse cX6_readHouse 2 (some .boolean) 7 [.ref a0] (fun H => G (fR D H 6 a0 2) = 23) [(2, 3), (2, 4), (2, 5), (2, 6), (2, 2), (7, 0), (7, 1), (7, 2), (7, 3), (7, 4), (23, 3)] (xI (fun H r H1 => (0 ≤ r.toInt ∧ r.toInt ≤ 1) ∧ (r.toInt = 1 → Gd D G H → Gd D G H1))) := by
  refine enter (by decide) (Nat.le_of_ble_eq_true rfl) ?_
  intro p e s m args below meth c ls Q hA hQ C hr hO hpre hl
  have hx := C.1
  have hb := C.2.1
  have S : Sd D G [(2, 3), (2, 4), (2, 5), (2, 6), (2, 2), (7, 0), (7, 1), (7, 2), (7, 3), (7, 4), (23, 3)] s.heap s.heap [] := Sd.start hO
  have hl : lv_has ls 2 [(0, .ref a0)] := hl
  have tk0 : Gd D G s.heap → Gd D G s.heap := fun h => h
  refine lv_aload_n hx hb dX6_readHouse_0 rfl (lv_at hl 0 rfl) ?_
  refine q_grD (T := TX6) C S.1 ga0 2 kF_X6_11 dX6_readHouse_1 rfl rfl (by decide) rfl (by decide) rfl (fun g1 => ?_)
  replace g1 : G (fR D s.heap 6 a0 2) = 23 := by rw [S.2.1.fR ga0 rfl (by decide) (by decide +kernel)]; exact hpre
  refine q_gi (T := TX5) C S.1 g1 3 kF_X6_44 dX6_readHouse_4 rfl rfl (by decide) rfl (by decide) rfl ?_
  have r2 : 0 ≤ (fI D s.heap 5 (fR D s.heap 6 a0 2) 3).toInt ∧ (fI D s.heap 5 (fR D s.heap 6 a0 2) 3).toInt ≤ 6 := S.1.rng g1 rfl (by decide) rfl
  refine lv_bipush (v := 6) hx hb dX6_readHouse_7 (by decide) ?_
  have k_6 : (6 : Int32).toInt = 6 := by decide
  refine lv_icmp_lt (tgt := 20) hx hb dX6_readHouse_9 (by decide) (fun c3 => ?_) (fun c3 => ?_)
  · have b3 : (fI D s.heap 5 (fR D s.heap 6 a0 2) 3).toInt < (6 : Int32).toInt := i_lt.mp c3
    refine lv_aload_n hx hb dX6_readHouse_20 rfl (lv_at hl 0 rfl) ?_
    refine q_grD (T := TX6) C S.1 ga0 2 kF_X6_11 dX6_readHouse_21 rfl rfl (by decide) rfl (by decide) rfl (fun g4 => ?_)
    replace g4 : G (fR D s.heap 6 a0 2) = 23 := by rw [S.2.1.fR ga0 rfl (by decide) (by decide +kernel)]; exact hpre
    refine q_gr (T := TX5) C S.1 g4 0 kF_X6_53 dX6_readHouse_24 rfl rfl (by decide) rfl (by decide) rfl (fun g5 => ?_)
    refine lv_aload_n hx hb dX6_readHouse_27 rfl (lv_at hl 0 rfl) ?_
    refine q_grD (T := TX6) C S.1 ga0 2 kF_X6_11 dX6_readHouse_28 rfl rfl (by decide) rfl (by decide) rfl (fun g6 => ?_)
    replace g6 : G (fR D s.heap 6 a0 2) = 23 := by rw [S.2.1.fR ga0 rfl (by decide) (by decide +kernel)]; exact hpre
    refine q_gi (T := TX5) C S.1 g6 3 kF_X6_44 dX6_readHouse_31 rfl rfl (by decide) rfl (by decide) rfl ?_
    refine q_aald C S.1 g5 (by omega) (by omega) dX6_readHouse_34 rfl (by decide) rfl rfl (fun g7 => ?_)
    refine lv_astore_n (lv' := [(1, .ref (eR s.heap (fR D s.heap 5 (fR D s.heap 6 a0 2) 0) (fI D s.heap 5 (fR D s.heap 6 a0 2) 3).toInt.toNat)), (0, .ref a0)]) hx hb dX6_readHouse_35 rfl hl (by decide) rfl (fun ls hl => ?_)
    refine lv_aload_n hx hb dX6_readHouse_36 rfl (lv_at hl 0 rfl) ?_
    refine lv_aload_n hx hb dX6_readHouse_37 rfl (lv_at hl 1 rfl) ?_
    refine q_lds C ks_X6_19 dX6_readHouse_38 (fun a8 ha8 wa8 => ?_)
    refine lv_iconst (v := 0) hx hb dX6_readHouse_40 (by decide) ?_
    refine lv_sipush (v := 999) hx hb dX6_readHouse_41 (by decide) ?_
    have k_0 : (0 : Int32).toInt = 0 := by decide
    have k_999 : (999 : Int32).toInt = 999 := by decide
    refine callV_Ei C S (c_X6_numberAfter l D G a0 a8 5 (0 : Int32) (999 : Int32) ga0 ha8) kV_X6_57 ga0 (trivial) (by decide +kernel) dX6_readHouse_44 hl.1 rfl rfl (by decide) cd_X6_numberAfter ⟨Nat.le_of_ble_eq_true rfl, Nat.le_of_ble_eq_true rfl, Nat.le_of_ble_eq_true rfl, Nat.le_of_ble_eq_true rfl, Nat.le_of_ble_eq_true rfl⟩ (fun v9 H9 L9 S9 K9 q9 => ?_)
    have m9_3 : (fI D H9 5 (fR D H9 6 a0 2) 3).toInt = (fI D s.heap 5 (fR D s.heap 6 a0 2) 3).toInt := congrArg Int32.toInt (dK ga0 (by rw [S.2.1.fR ga0 rfl (by decide) (by decide +kernel)]; exact hpre) K9 (by decide +kernel) (by decide +kernel) (by decide))
    have tk9 : Gd D G s.heap → Gd D G H9 := fun h9  => (tk0 h9).keep K9 (by decide +kernel)
    refine q_put (T := TX2) C S9 g7 0 kF_X6_61 dX6_readHouse_47 rfl rfl (by decide) (by decide) rfl rfl rfl rfl rfl (vok_a rfl) (by decide +kernel) (fun H10 L10 S10 P10 => ?_)
    have m10_3 : (fI D H10 5 (fR D H10 6 a0 2) 3).toInt = (fI D H9 5 (fR D H9 6 a0 2) 3).toInt := congrArg Int32.toInt (dP ga0 (by rw [S9.2.1.fR ga0 rfl (by decide) (by decide +kernel)]; exact hpre) P10 g7 (by decide) (by decide))
    have tk10 : Gd D G s.heap → Gd D G H10 := fun h9  => (tk9 h9).put g7 P10 (Or.inl (by decide))
    refine lv_aload_n hx hb dX6_readHouse_50 rfl (lv_at hl 0 rfl) ?_
    refine q_gi (T := TX2) C S10.1 g7 0 kF_X6_61 dX6_readHouse_51 rfl rfl (by decide) rfl (by decide) rfl ?_
    have c11 : (fI D H10 2 (eR s.heap (fR D s.heap 5 (fR D s.heap 6 a0 2) 0) (fI D s.heap 5 (fR D s.heap 6 a0 2) 3).toInt.toNat) 0).toInt = v9.toInt := by rw [Pt.i P10]
    refine lv_iconst (v := -1) hx hb dX6_readHouse_54 (by decide) ?_
    have k_m1 : (-1 : Int32).toInt = -1 := by decide
    refine lv_icmp_ne (tgt := 60) hx hb dX6_readHouse_55 (by decide) (fun c12 => ?_) (fun c12 => ?_)
    · have b12 : ¬ (fI D H10 2 (eR s.heap (fR D s.heap 5 (fR D s.heap 6 a0 2) 0) (fI D s.heap 5 (fR D s.heap 6 a0 2) 3).toInt.toNat) 0).toInt = (-1 : Int32).toInt := fun z9 => c12 (i_eq.mpr z9)
      refine lv_aload_n hx hb dX6_readHouse_60 rfl (lv_at hl 0 rfl) ?_
      refine lv_aload_n hx hb dX6_readHouse_61 rfl (lv_at hl 1 rfl) ?_
      refine q_lds C ks_X6_66 dX6_readHouse_62 (fun a13 ha13 wa13 => ?_)
      refine lv_iconst (v := 0) hx hb dX6_readHouse_64 (by decide) ?_
      refine lv_bipush (v := 30) hx hb dX6_readHouse_65 (by decide) ?_
      have k_30 : (30 : Int32).toInt = 30 := by decide
      refine callV_Ei C S10 (c_X6_numberAfter l D G a0 a13 7 (0 : Int32) (30 : Int32) ga0 ha13) kV_X6_57 ga0 (trivial) (by decide +kernel) dX6_readHouse_67 hl.1 rfl rfl (by decide) cd_X6_numberAfter ⟨Nat.le_of_ble_eq_true rfl, Nat.le_of_ble_eq_true rfl, Nat.le_of_ble_eq_true rfl, Nat.le_of_ble_eq_true rfl, Nat.le_of_ble_eq_true rfl⟩ (fun v14 H14 L14 S14 K14 q14 => ?_)
      have m14_3 : (fI D H14 5 (fR D H14 6 a0 2) 3).toInt = (fI D H10 5 (fR D H10 6 a0 2) 3).toInt := congrArg Int32.toInt (dK ga0 (by rw [S10.2.1.fR ga0 rfl (by decide) (by decide +kernel)]; exact hpre) K14 (by decide +kernel) (by decide +kernel) (by decide))
      have tk14 : Gd D G s.heap → Gd D G H14 := fun h9  => (tk10 h9).keep K14 (by decide +kernel)
      refine q_put (T := TX2) C S14 g7 2 kF_X6_68 dX6_readHouse_70 rfl rfl (by decide) (by decide) rfl rfl rfl rfl rfl (vok_a rfl) (by decide +kernel) (fun H15 L15 S15 P15 => ?_)
      have m15_3 : (fI D H15 5 (fR D H15 6 a0 2) 3).toInt = (fI D H14 5 (fR D H14 6 a0 2) 3).toInt := congrArg Int32.toInt (dP ga0 (by rw [S14.2.1.fR ga0 rfl (by decide) (by decide +kernel)]; exact hpre) P15 g7 (by decide) (by decide))
      have tk15 : Gd D G s.heap → Gd D G H15 := fun h9  => (tk14 h9).put g7 P15 (Or.inl (by decide))
      refine lv_aload_n hx hb dX6_readHouse_73 rfl (lv_at hl 0 rfl) ?_
      refine q_gi (T := TX2) C S15.1 g7 2 kF_X6_68 dX6_readHouse_74 rfl rfl (by decide) rfl (by decide) rfl ?_
      have c16 : (fI D H15 2 (eR s.heap (fR D s.heap 5 (fR D s.heap 6 a0 2) 0) (fI D s.heap 5 (fR D s.heap 6 a0 2) 3).toInt.toNat) 2).toInt = v14.toInt := by rw [Pt.i P15]
      refine lv_iconst (v := -1) hx hb dX6_readHouse_77 (by decide) ?_
      refine lv_icmp_ne (tgt := 83) hx hb dX6_readHouse_78 (by decide) (fun c17 => ?_) (fun c17 => ?_)
      · have b17 : ¬ (fI D H15 2 (eR s.heap (fR D s.heap 5 (fR D s.heap 6 a0 2) 0) (fI D s.heap 5 (fR D s.heap 6 a0 2) 3).toInt.toNat) 2).toInt = (-1 : Int32).toInt := fun z9 => c17 (i_eq.mpr z9)
        refine lv_aload_n hx hb dX6_readHouse_83 rfl (lv_at hl 0 rfl) ?_
        refine lv_iconst (v := 0) hx hb dX6_readHouse_84 (by decide) ?_
        refine q_put (T := TX2) C S15 g7 3 kF_X6_70 dX6_readHouse_85 rfl rfl (by decide) (by decide) rfl rfl rfl rfl rfl (vok_a rfl) (by decide +kernel) (fun H18 L18 S18 P18 => ?_)
        have m18_3 : (fI D H18 5 (fR D H18 6 a0 2) 3).toInt = (fI D H15 5 (fR D H15 6 a0 2) 3).toInt := congrArg Int32.toInt (dP ga0 (by rw [S15.2.1.fR ga0 rfl (by decide) (by decide +kernel)]; exact hpre) P18 g7 (by decide) (by decide))
        have tk18 : Gd D G s.heap → Gd D G H18 := fun h9  => (tk15 h9).put g7 P18 (Or.inl (by decide))
        refine lv_aload_n hx hb dX6_readHouse_88 rfl (lv_at hl 0 rfl) ?_
        refine lv_iconst (v := 0) hx hb dX6_readHouse_89 (by decide) ?_
        refine q_put (T := TX2) C S18 g7 4 kF_X6_73 dX6_readHouse_90 rfl rfl (by decide) (by decide) rfl rfl rfl rfl rfl (vok_a rfl) (by decide +kernel) (fun H19 L19 S19 P19 => ?_)
        have m19_3 : (fI D H19 5 (fR D H19 6 a0 2) 3).toInt = (fI D H18 5 (fR D H18 6 a0 2) 3).toInt := congrArg Int32.toInt (dP ga0 (by rw [S18.2.1.fR ga0 rfl (by decide) (by decide +kernel)]; exact hpre) P19 g7 (by decide) (by decide))
        have tk19 : Gd D G s.heap → Gd D G H19 := fun h9  => (tk18 h9).put g7 P19 (Or.inl (by decide))
        refine lv_aload_n hx hb dX6_readHouse_93 rfl (lv_at hl 0 rfl) ?_
        refine lv_aload_n hx hb dX6_readHouse_94 rfl (lv_at hl 1 rfl) ?_
        refine q_grS (T := TX6) C S19.1 ga0 0 kF_X6_15 dX6_readHouse_95 rfl rfl (by decide) rfl (by decide) kSF_X6_tape (fun g20 => ?_)
        refine q_lds C ks_X6_76 dX6_readHouse_98 (fun a21 ha21 wa21 => ?_)
        refine callV_Pi C S19.1 S19.2.1.2.1 (c_X9_isWord l D G (fR D H19 6 a0 0) a21 5 g20 ha21) kV_X6_21 g20 (trivial) dX6_readHouse_100 hl.1 rfl rfl (by decide) cd_X9_isWord ⟨Nat.le_of_ble_eq_true rfl, Nat.le_of_ble_eq_true rfl, Nat.le_of_ble_eq_true rfl, Nat.le_of_ble_eq_true rfl, Nat.le_of_ble_eq_true rfl⟩ (fun v22 q22 => ?_)
        refine q_put (T := TX2) C S19 g7 1 kF_X6_78 dX6_readHouse_103 rfl rfl (by decide) (by decide) rfl rfl rfl (nar_z (by omega) (by omega)) (fit_z (by omega) (by omega)) (vok_i rfl (by omega) (by omega)) (by decide +kernel) (fun H23 L23 S23 P23 => ?_)
        have m23_3 : (fI D H23 5 (fR D H23 6 a0 2) 3).toInt = (fI D H19 5 (fR D H19 6 a0 2) 3).toInt := congrArg Int32.toInt (dP ga0 (by rw [S19.2.1.fR ga0 rfl (by decide) (by decide +kernel)]; exact hpre) P23 g7 (by decide) (by decide))
        have tk23 : Gd D G s.heap → Gd D G H23 := fun h9  => (tk19 h9).put g7 P23 (Or.inl (by decide))
        refine lv_aload_n hx hb dX6_readHouse_106 rfl (lv_at hl 0 rfl) ?_
        refine q_gi (T := TX2) C S23.1 g7 1 kF_X6_78 dX6_readHouse_107 rfl rfl (by decide) rfl (by decide) rfl ?_
        have c24 : (fI D H23 2 (eR s.heap (fR D s.heap 5 (fR D s.heap 6 a0 2) 0) (fI D s.heap 5 (fR D s.heap 6 a0 2) 3).toInt.toNat) 1).toInt = v22.toInt := by rw [Pt.i P23]
        have r25 : 0 ≤ (fI D H23 2 (eR s.heap (fR D s.heap 5 (fR D s.heap 6 a0 2) 0) (fI D s.heap 5 (fR D s.heap 6 a0 2) 3).toInt.toNat) 1).toInt ∧ (fI D H23 2 (eR s.heap (fR D s.heap 5 (fR D s.heap 6 a0 2) 0) (fI D s.heap 5 (fR D s.heap 6 a0 2) 3).toInt.toNat) 1).toInt ≤ 1 := S23.1.rng g7 rfl (by decide) rfl
        refine lv_if_eq (tgt := 120) hx hb dX6_readHouse_110 (by decide) (fun c26 => ?_) (fun c26 => ?_)
        · have b26 : (fI D H23 2 (eR s.heap (fR D s.heap 5 (fR D s.heap 6 a0 2) 0) (fI D s.heap 5 (fR D s.heap 6 a0 2) 3).toInt.toNat) 1).toInt = (0 : Int32).toInt := i_eq.mp c26
          refine lv_aload_n hx hb dX6_readHouse_120 rfl (lv_at hl 1 rfl) ?_
          refine q_grS (T := TX6) C S23.1 ga0 0 kF_X6_15 dX6_readHouse_121 rfl rfl (by decide) rfl (by decide) kSF_X6_tape (fun g27 => ?_)
          refine q_lds C ks_X6_85 dX6_readHouse_124 (fun a28 ha28 wa28 => ?_)
          refine callV_Pi C S23.1 S23.2.1.2.1 (c_X9_isWord l D G (fR D H23 6 a0 0) a28 5 g27 ha28) kV_X6_21 g27 (trivial) dX6_readHouse_126 hl.1 rfl rfl (by decide) cd_X9_isWord ⟨Nat.le_of_ble_eq_true rfl, Nat.le_of_ble_eq_true rfl, Nat.le_of_ble_eq_true rfl, Nat.le_of_ble_eq_true rfl, Nat.le_of_ble_eq_true rfl⟩ (fun v29 q29 => ?_)
          refine lv_if_eq (tgt := 155) hx hb dX6_readHouse_129 (by decide) (fun c30 => ?_) (fun c30 => ?_)
          · have b30 : v29.toInt = (0 : Int32).toInt := i_eq.mp c30
            refine lv_aload_n hx hb dX6_readHouse_155 rfl (lv_at hl 1 rfl) ?_
            refine q_grD (T := TX6) C S23.1 ga0 2 kF_X6_11 dX6_readHouse_156 rfl rfl (by decide) rfl (by decide) rfl (fun g31 => ?_)
            replace g31 : G (fR D H23 6 a0 2) = 23 := by rw [S23.2.1.fR ga0 rfl (by decide) (by decide +kernel)]; exact hpre
            refine lv_dup hx hb dX6_readHouse_159 rfl ?_
            refine q_gi (T := TX5) C S23.1 g31 3 kF_X6_44 dX6_readHouse_160 rfl rfl (by decide) rfl (by decide) rfl ?_
            have c32 : (fI D H23 5 (fR D H23 6 a0 2) 3).toInt = (fI D s.heap 5 (fR D H23 6 a0 2) 3).toInt := by rw [Pt.f P23 (ne_role g31 g7 (by decide)), Pt.f P19 (ne_role g31 g7 (by decide)), Pt.f P18 (ne_role g31 g7 (by decide)), Pt.f P15 (ne_role g31 g7 (by decide)), K14.fI g31 rfl (by decide) (by decide +kernel), Pt.f P10 (ne_role g31 g7 (by decide)), K9.fI g31 rfl (by decide) (by decide +kernel)]
            have r33 : 0 ≤ (fI D H23 5 (fR D H23 6 a0 2) 3).toInt ∧ (fI D H23 5 (fR D H23 6 a0 2) 3).toInt ≤ 6 := S23.1.rng g31 rfl (by decide) rfl
            refine lv_iconst (v := 1) hx hb dX6_readHouse_163 (by decide) ?_
            have k_1 : (1 : Int32).toInt = 1 := by decide
            refine lv_iadd hx hb dX6_readHouse_164 ?_
            refine lv_topi (fun v34 ev34 => ?_)
            have f35 : v34.toInt = (fI D H23 5 (fR D H23 6 a0 2) 3).toInt + (1 : Int32).toInt := by rw [ev34]; exact i_add (by omega) (by omega)
            refine q_put (T := TX5) C S23 g31 3 kF_X6_44 dX6_readHouse_165 rfl rfl (by decide) (by decide) rfl rfl rfl rfl rfl (vok_i rfl (by omega) (by omega)) (by decide +kernel) (fun H36 L36 S36 P36 => ?_)
            have tk36 : Gd D G s.heap → Gd D G H36 := fun h9  => (tk23 h9).put g31 P36 (Or.inl (by decide))
            refine lv_iconst (v := 1) hx hb dX6_readHouse_168 (by decide) ?_
            exact retE_z hQ C S36 hr dX6_readHouse_169 (z01 (by omega) (by omega)) (⟨by omega, fun _ h9 => tk36 h9⟩)
          · have b30 : ¬ v29.toInt = (0 : Int32).toInt := fun z9 => c30 (i_eq.mpr z9)
            refine lv_aload_n hx hb dX6_readHouse_132 rfl (lv_at hl 0 rfl) ?_
            refine lv_aload_n hx hb dX6_readHouse_133 rfl (lv_at hl 1 rfl) ?_
            refine q_lds C ks_X6_85 dX6_readHouse_134 (fun a37 ha37 wa37 => ?_)
            refine lv_iconst (v := 0) hx hb dX6_readHouse_136 (by decide) ?_
            refine lv_bipush (v := 100) hx hb dX6_readHouse_137 (by decide) ?_
            have k_100 : (100 : Int32).toInt = 100 := by decide
            refine callV_Ei C S23 (c_X6_numberAfter l D G a0 a37 5 (0 : Int32) (100 : Int32) ga0 ha37) kV_X6_57 ga0 (trivial) (by decide +kernel) dX6_readHouse_139 hl.1 rfl rfl (by decide) cd_X6_numberAfter ⟨Nat.le_of_ble_eq_true rfl, Nat.le_of_ble_eq_true rfl, Nat.le_of_ble_eq_true rfl, Nat.le_of_ble_eq_true rfl, Nat.le_of_ble_eq_true rfl⟩ (fun v38 H38 L38 S38 K38 q38 => ?_)
            have m38_3 : (fI D H38 5 (fR D H38 6 a0 2) 3).toInt = (fI D H23 5 (fR D H23 6 a0 2) 3).toInt := congrArg Int32.toInt (dK ga0 (by rw [S23.2.1.fR ga0 rfl (by decide) (by decide +kernel)]; exact hpre) K38 (by decide +kernel) (by decide +kernel) (by decide))
            have tk38 : Gd D G s.heap → Gd D G H38 := fun h9  => (tk23 h9).keep K38 (by decide +kernel)
            refine q_put (T := TX2) C S38 g7 4 kF_X6_73 dX6_readHouse_142 rfl rfl (by decide) (by decide) rfl rfl rfl rfl rfl (vok_a rfl) (by decide +kernel) (fun H39 L39 S39 P39 => ?_)
            have m39_3 : (fI D H39 5 (fR D H39 6 a0 2) 3).toInt = (fI D H38 5 (fR D H38 6 a0 2) 3).toInt := congrArg Int32.toInt (dP ga0 (by rw [S38.2.1.fR ga0 rfl (by decide) (by decide +kernel)]; exact hpre) P39 g7 (by decide) (by decide))
            have tk39 : Gd D G s.heap → Gd D G H39 := fun h9  => (tk38 h9).put g7 P39 (Or.inl (by decide))
            refine lv_aload_n hx hb dX6_readHouse_145 rfl (lv_at hl 0 rfl) ?_
            refine q_gi (T := TX2) C S39.1 g7 4 kF_X6_73 dX6_readHouse_146 rfl rfl (by decide) rfl (by decide) rfl ?_
            have c40 : (fI D H39 2 (eR s.heap (fR D s.heap 5 (fR D s.heap 6 a0 2) 0) (fI D s.heap 5 (fR D s.heap 6 a0 2) 3).toInt.toNat) 4).toInt = v38.toInt := by rw [Pt.i P39]
            refine lv_iconst (v := -1) hx hb dX6_readHouse_149 (by decide) ?_
            refine lv_icmp_ne (tgt := 155) hx hb dX6_readHouse_150 (by decide) (fun c41 => ?_) (fun c41 => ?_)
            · have b41 : ¬ (fI D H39 2 (eR s.heap (fR D s.heap 5 (fR D s.heap 6 a0 2) 0) (fI D s.heap 5 (fR D s.heap 6 a0 2) 3).toInt.toNat) 4).toInt = (-1 : Int32).toInt := fun z9 => c41 (i_eq.mpr z9)
              refine lv_aload_n hx hb dX6_readHouse_155 rfl (lv_at hl 1 rfl) ?_
              refine q_grD (T := TX6) C S39.1 ga0 2 kF_X6_11 dX6_readHouse_156 rfl rfl (by decide) rfl (by decide) rfl (fun g42 => ?_)
              replace g42 : G (fR D H39 6 a0 2) = 23 := by rw [S39.2.1.fR ga0 rfl (by decide) (by decide +kernel)]; exact hpre
              refine lv_dup hx hb dX6_readHouse_159 rfl ?_
              refine q_gi (T := TX5) C S39.1 g42 3 kF_X6_44 dX6_readHouse_160 rfl rfl (by decide) rfl (by decide) rfl ?_
              have c43 : (fI D H39 5 (fR D H39 6 a0 2) 3).toInt = (fI D s.heap 5 (fR D H39 6 a0 2) 3).toInt := by rw [Pt.f P39 (ne_role g42 g7 (by decide)), K38.fI g42 rfl (by decide) (by decide +kernel), Pt.f P23 (ne_role g42 g7 (by decide)), Pt.f P19 (ne_role g42 g7 (by decide)), Pt.f P18 (ne_role g42 g7 (by decide)), Pt.f P15 (ne_role g42 g7 (by decide)), K14.fI g42 rfl (by decide) (by decide +kernel), Pt.f P10 (ne_role g42 g7 (by decide)), K9.fI g42 rfl (by decide) (by decide +kernel)]
              have r44 : 0 ≤ (fI D H39 5 (fR D H39 6 a0 2) 3).toInt ∧ (fI D H39 5 (fR D H39 6 a0 2) 3).toInt ≤ 6 := S39.1.rng g42 rfl (by decide) rfl
              refine lv_iconst (v := 1) hx hb dX6_readHouse_163 (by decide) ?_
              have k_1 : (1 : Int32).toInt = 1 := by decide
              refine lv_iadd hx hb dX6_readHouse_164 ?_
              refine lv_topi (fun v45 ev45 => ?_)
              have f46 : v45.toInt = (fI D H39 5 (fR D H39 6 a0 2) 3).toInt + (1 : Int32).toInt := by rw [ev45]; exact i_add (by omega) (by omega)
              refine q_put (T := TX5) C S39 g42 3 kF_X6_44 dX6_readHouse_165 rfl rfl (by decide) (by decide) rfl rfl rfl rfl rfl (vok_i rfl (by omega) (by omega)) (by decide +kernel) (fun H47 L47 S47 P47 => ?_)
              have tk47 : Gd D G s.heap → Gd D G H47 := fun h9  => (tk39 h9).put g42 P47 (Or.inl (by decide))
              refine lv_iconst (v := 1) hx hb dX6_readHouse_168 (by decide) ?_
              exact retE_z hQ C S47 hr dX6_readHouse_169 (z01 (by omega) (by omega)) (⟨by omega, fun _ h9 => tk47 h9⟩)
            · have b41 : (fI D H39 2 (eR s.heap (fR D s.heap 5 (fR D s.heap 6 a0 2) 0) (fI D s.heap 5 (fR D s.heap 6 a0 2) 3).toInt.toNat) 4).toInt = (-1 : Int32).toInt := i_eq.mp c41
              refine lv_iconst (v := 0) hx hb dX6_readHouse_153 (by decide) ?_
              exact retE_z hQ C S39 hr dX6_readHouse_154 (z01 (by omega) (by omega)) (⟨by omega, fun _ h9 => tk39 h9⟩)
        · have b26 : ¬ (fI D H23 2 (eR s.heap (fR D s.heap 5 (fR D s.heap 6 a0 2) 0) (fI D s.heap 5 (fR D s.heap 6 a0 2) 3).toInt.toNat) 1).toInt = (0 : Int32).toInt := fun z9 => c26 (i_eq.mpr z9)
          refine lv_aload_n hx hb dX6_readHouse_113 rfl (lv_at hl 1 rfl) ?_
          refine q_grS (T := TX6) C S23.1 ga0 0 kF_X6_15 dX6_readHouse_114 rfl rfl (by decide) rfl (by decide) kSF_X6_tape (fun g48 => ?_)
          refine callV_Ev C S23 (c_X9_next l D G (fR D H23 6 a0 0) g48) kV_X6_81 g48 (trivial) (by decide +kernel) dX6_readHouse_117 hl.1 rfl rfl (by decide) cd_X9_next ⟨Nat.le_of_ble_eq_true rfl, Nat.le_of_ble_eq_true rfl, Nat.le_of_ble_eq_true rfl, Nat.le_of_ble_eq_true rfl, Nat.le_of_ble_eq_true rfl⟩ (fun H49 L49 S49 K49 q49 => ?_)
          have m49_3 : (fI D H49 5 (fR D H49 6 a0 2) 3).toInt = (fI D H23 5 (fR D H23 6 a0 2) 3).toInt := congrArg Int32.toInt (dK ga0 (by rw [S23.2.1.fR ga0 rfl (by decide) (by decide +kernel)]; exact hpre) K49 (by decide +kernel) (by decide +kernel) (by decide))
          have tk49 : Gd D G s.heap → Gd D G H49 := fun h9  => (tk23 h9).keep K49 (by decide +kernel)
          refine lv_aload_n hx hb dX6_readHouse_120 rfl (lv_at hl 1 rfl) ?_
          refine q_grS (T := TX6) C S49.1 ga0 0 kF_X6_15 dX6_readHouse_121 rfl rfl (by decide) rfl (by decide) kSF_X6_tape (fun g50 => ?_)
          refine q_lds C ks_X6_85 dX6_readHouse_124 (fun a51 ha51 wa51 => ?_)
          refine callV_Pi C S49.1 S49.2.1.2.1 (c_X9_isWord l D G (fR D H49 6 a0 0) a51 5 g50 ha51) kV_X6_21 g50 (trivial) dX6_readHouse_126 hl.1 rfl rfl (by decide) cd_X9_isWord ⟨Nat.le_of_ble_eq_true rfl, Nat.le_of_ble_eq_true rfl, Nat.le_of_ble_eq_true rfl, Nat.le_of_ble_eq_true rfl, Nat.le_of_ble_eq_true rfl⟩ (fun v52 q52 => ?_)
          refine lv_if_eq (tgt := 155) hx hb dX6_readHouse_129 (by decide) (fun c53 => ?_) (fun c53 => ?_)
          · have b53 : v52.toInt = (0 : Int32).toInt := i_eq.mp c53
            refine lv_aload_n hx hb dX6_readHouse_155 rfl (lv_at hl 1 rfl) ?_
            refine q_grD (T := TX6) C S49.1 ga0 2 kF_X6_11 dX6_readHouse_156 rfl rfl (by decide) rfl (by decide) rfl (fun g54 => ?_)
            replace g54 : G (fR D H49 6 a0 2) = 23 := by rw [S49.2.1.fR ga0 rfl (by decide) (by decide +kernel)]; exact hpre
            refine lv_dup hx hb dX6_readHouse_159 rfl ?_
            refine q_gi (T := TX5) C S49.1 g54 3 kF_X6_44 dX6_readHouse_160 rfl rfl (by decide) rfl (by decide) rfl ?_
            have c55 : (fI D H49 5 (fR D H49 6 a0 2) 3).toInt = (fI D s.heap 5 (fR D H49 6 a0 2) 3).toInt := by rw [K49.fI g54 rfl (by decide) (by decide +kernel), Pt.f P23 (ne_role g54 g7 (by decide)), Pt.f P19 (ne_role g54 g7 (by decide)), Pt.f P18 (ne_role g54 g7 (by decide)), Pt.f P15 (ne_role g54 g7 (by decide)), K14.fI g54 rfl (by decide) (by decide +kernel), Pt.f P10 (ne_role g54 g7 (by decide)), K9.fI g54 rfl (by decide) (by decide +kernel)]
            have r56 : 0 ≤ (fI D H49 5 (fR D H49 6 a0 2) 3).toInt ∧ (fI D H49 5 (fR D H49 6 a0 2) 3).toInt ≤ 6 := S49.1.rng g54 rfl (by decide) rfl
            refine lv_iconst (v := 1) hx hb dX6_readHouse_163 (by decide) ?_
            have k_1 : (1 : Int32).toInt = 1 := by decide
            refine lv_iadd hx hb dX6_readHouse_164 ?_
            refine lv_topi (fun v57 ev57 => ?_)
            have f58 : v57.toInt = (fI D H49 5 (fR D H49 6 a0 2) 3).toInt + (1 : Int32).toInt := by rw [ev57]; exact i_add (by omega) (by omega)
            refine q_put (T := TX5) C S49 g54 3 kF_X6_44 dX6_readHouse_165 rfl rfl (by decide) (by decide) rfl rfl rfl rfl rfl (vok_i rfl (by omega) (by omega)) (by decide +kernel) (fun H59 L59 S59 P59 => ?_)
            have tk59 : Gd D G s.heap → Gd D G H59 := fun h9  => (tk49 h9).put g54 P59 (Or.inl (by decide))
            refine lv_iconst (v := 1) hx hb dX6_readHouse_168 (by decide) ?_
            exact retE_z hQ C S59 hr dX6_readHouse_169 (z01 (by omega) (by omega)) (⟨by omega, fun _ h9 => tk59 h9⟩)
          · have b53 : ¬ v52.toInt = (0 : Int32).toInt := fun z9 => c53 (i_eq.mpr z9)
            refine lv_aload_n hx hb dX6_readHouse_132 rfl (lv_at hl 0 rfl) ?_
            refine lv_aload_n hx hb dX6_readHouse_133 rfl (lv_at hl 1 rfl) ?_
            refine q_lds C ks_X6_85 dX6_readHouse_134 (fun a60 ha60 wa60 => ?_)
            refine lv_iconst (v := 0) hx hb dX6_readHouse_136 (by decide) ?_
            refine lv_bipush (v := 100) hx hb dX6_readHouse_137 (by decide) ?_
            have k_100 : (100 : Int32).toInt = 100 := by decide
            refine callV_Ei C S49 (c_X6_numberAfter l D G a0 a60 5 (0 : Int32) (100 : Int32) ga0 ha60) kV_X6_57 ga0 (trivial) (by decide +kernel) dX6_readHouse_139 hl.1 rfl rfl (by decide) cd_X6_numberAfter ⟨Nat.le_of_ble_eq_true rfl, Nat.le_of_ble_eq_true rfl, Nat.le_of_ble_eq_true rfl, Nat.le_of_ble_eq_true rfl, Nat.le_of_ble_eq_true rfl⟩ (fun v61 H61 L61 S61 K61 q61 => ?_)
            have m61_3 : (fI D H61 5 (fR D H61 6 a0 2) 3).toInt = (fI D H49 5 (fR D H49 6 a0 2) 3).toInt := congrArg Int32.toInt (dK ga0 (by rw [S49.2.1.fR ga0 rfl (by decide) (by decide +kernel)]; exact hpre) K61 (by decide +kernel) (by decide +kernel) (by decide))
            have tk61 : Gd D G s.heap → Gd D G H61 := fun h9  => (tk49 h9).keep K61 (by decide +kernel)
            refine q_put (T := TX2) C S61 g7 4 kF_X6_73 dX6_readHouse_142 rfl rfl (by decide) (by decide) rfl rfl rfl rfl rfl (vok_a rfl) (by decide +kernel) (fun H62 L62 S62 P62 => ?_)
            have m62_3 : (fI D H62 5 (fR D H62 6 a0 2) 3).toInt = (fI D H61 5 (fR D H61 6 a0 2) 3).toInt := congrArg Int32.toInt (dP ga0 (by rw [S61.2.1.fR ga0 rfl (by decide) (by decide +kernel)]; exact hpre) P62 g7 (by decide) (by decide))
            have tk62 : Gd D G s.heap → Gd D G H62 := fun h9  => (tk61 h9).put g7 P62 (Or.inl (by decide))
            refine lv_aload_n hx hb dX6_readHouse_145 rfl (lv_at hl 0 rfl) ?_
            refine q_gi (T := TX2) C S62.1 g7 4 kF_X6_73 dX6_readHouse_146 rfl rfl (by decide) rfl (by decide) rfl ?_
            have c63 : (fI D H62 2 (eR s.heap (fR D s.heap 5 (fR D s.heap 6 a0 2) 0) (fI D s.heap 5 (fR D s.heap 6 a0 2) 3).toInt.toNat) 4).toInt = v61.toInt := by rw [Pt.i P62]
            refine lv_iconst (v := -1) hx hb dX6_readHouse_149 (by decide) ?_
            refine lv_icmp_ne (tgt := 155) hx hb dX6_readHouse_150 (by decide) (fun c64 => ?_) (fun c64 => ?_)
            · have b64 : ¬ (fI D H62 2 (eR s.heap (fR D s.heap 5 (fR D s.heap 6 a0 2) 0) (fI D s.heap 5 (fR D s.heap 6 a0 2) 3).toInt.toNat) 4).toInt = (-1 : Int32).toInt := fun z9 => c64 (i_eq.mpr z9)
              refine lv_aload_n hx hb dX6_readHouse_155 rfl (lv_at hl 1 rfl) ?_
              refine q_grD (T := TX6) C S62.1 ga0 2 kF_X6_11 dX6_readHouse_156 rfl rfl (by decide) rfl (by decide) rfl (fun g65 => ?_)
              replace g65 : G (fR D H62 6 a0 2) = 23 := by rw [S62.2.1.fR ga0 rfl (by decide) (by decide +kernel)]; exact hpre
              refine lv_dup hx hb dX6_readHouse_159 rfl ?_
              refine q_gi (T := TX5) C S62.1 g65 3 kF_X6_44 dX6_readHouse_160 rfl rfl (by decide) rfl (by decide) rfl ?_
              have c66 : (fI D H62 5 (fR D H62 6 a0 2) 3).toInt = (fI D s.heap 5 (fR D H62 6 a0 2) 3).toInt := by rw [Pt.f P62 (ne_role g65 g7 (by decide)), K61.fI g65 rfl (by decide) (by decide +kernel), K49.fI g65 rfl (by decide) (by decide +kernel), Pt.f P23 (ne_role g65 g7 (by decide)), Pt.f P19 (ne_role g65 g7 (by decide)), Pt.f P18 (ne_role g65 g7 (by decide)), Pt.f P15 (ne_role g65 g7 (by decide)), K14.fI g65 rfl (by decide) (by decide +kernel), Pt.f P10 (ne_role g65 g7 (by decide)), K9.fI g65 rfl (by decide) (by decide +kernel)]
              have r67 : 0 ≤ (fI D H62 5 (fR D H62 6 a0 2) 3).toInt ∧ (fI D H62 5 (fR D H62 6 a0 2) 3).toInt ≤ 6 := S62.1.rng g65 rfl (by decide) rfl
              refine lv_iconst (v := 1) hx hb dX6_readHouse_163 (by decide) ?_
              have k_1 : (1 : Int32).toInt = 1 := by decide
              refine lv_iadd hx hb dX6_readHouse_164 ?_
              refine lv_topi (fun v68 ev68 => ?_)
              have f69 : v68.toInt = (fI D H62 5 (fR D H62 6 a0 2) 3).toInt + (1 : Int32).toInt := by rw [ev68]; exact i_add (by omega) (by omega)
              refine q_put (T := TX5) C S62 g65 3 kF_X6_44 dX6_readHouse_165 rfl rfl (by decide) (by decide) rfl rfl rfl rfl rfl (vok_i rfl (by omega) (by omega)) (by decide +kernel) (fun H70 L70 S70 P70 => ?_)
              have tk70 : Gd D G s.heap → Gd D G H70 := fun h9  => (tk62 h9).put g65 P70 (Or.inl (by decide))
              refine lv_iconst (v := 1) hx hb dX6_readHouse_168 (by decide) ?_
              exact retE_z hQ C S70 hr dX6_readHouse_169 (z01 (by omega) (by omega)) (⟨by omega, fun _ h9 => tk70 h9⟩)
            · have b64 : (fI D H62 2 (eR s.heap (fR D s.heap 5 (fR D s.heap 6 a0 2) 0) (fI D s.heap 5 (fR D s.heap 6 a0 2) 3).toInt.toNat) 4).toInt = (-1 : Int32).toInt := i_eq.mp c64
              refine lv_iconst (v := 0) hx hb dX6_readHouse_153 (by decide) ?_
              exact retE_z hQ C S62 hr dX6_readHouse_154 (z01 (by omega) (by omega)) (⟨by omega, fun _ h9 => tk62 h9⟩)
      · have b17 : (fI D H15 2 (eR s.heap (fR D s.heap 5 (fR D s.heap 6 a0 2) 0) (fI D s.heap 5 (fR D s.heap 6 a0 2) 3).toInt.toNat) 2).toInt = (-1 : Int32).toInt := i_eq.mp c17
        refine lv_iconst (v := 0) hx hb dX6_readHouse_81 (by decide) ?_
        exact retE_z hQ C S15 hr dX6_readHouse_82 (z01 (by omega) (by omega)) (⟨by omega, fun _ h9 => tk15 h9⟩)
    · have b12 : (fI D H10 2 (eR s.heap (fR D s.heap 5 (fR D s.heap 6 a0 2) 0) (fI D s.heap 5 (fR D s.heap 6 a0 2) 3).toInt.toNat) 0).toInt = (-1 : Int32).toInt := i_eq.mp c12
      refine lv_iconst (v := 0) hx hb dX6_readHouse_58 (by decide) ?_
      exact retE_z hQ C S10 hr dX6_readHouse_59 (z01 (by omega) (by omega)) (⟨by omega, fun _ h9 => tk10 h9⟩)
  · have b3 : ¬ (fI D s.heap 5 (fR D s.heap 6 a0 2) 3).toInt < (6 : Int32).toInt := fun z9 => c3 (i_lt.mpr z9)
    refine lv_aload_n hx hb dX6_readHouse_12 rfl (lv_at hl 0 rfl) ?_
    refine q_grS (T := TX6) C S.1 ga0 0 kF_X6_15 dX6_readHouse_13 rfl rfl (by decide) rfl (by decide) kSF_X6_tape (fun g71 => ?_)
    refine callV_Ei C S (c_X9_refuse l D G (fR D s.heap 6 a0 0) g71) kV_X6_50 g71 (trivial) (by decide +kernel) dX6_readHouse_16 hl.1 rfl rfl (by decide) cd_X9_refuse ⟨Nat.le_of_ble_eq_true rfl, Nat.le_of_ble_eq_true rfl, Nat.le_of_ble_eq_true rfl, Nat.le_of_ble_eq_true rfl, Nat.le_of_ble_eq_true rfl⟩ (fun v72 H72 L72 S72 K72 q72 => ?_)
    have m72_3 : (fI D H72 5 (fR D H72 6 a0 2) 3).toInt = (fI D s.heap 5 (fR D s.heap 6 a0 2) 3).toInt := congrArg Int32.toInt (dK ga0 (by rw [S.2.1.fR ga0 rfl (by decide) (by decide +kernel)]; exact hpre) K72 (by decide +kernel) (by decide +kernel) (by decide))
    have tk72 : Gd D G s.heap → Gd D G H72 := fun h9  => (tk0 h9).keep K72 (by decide +kernel)
    exact retE_z hQ C S72 hr dX6_readHouse_19 (z01 (by omega) (by omega)) (⟨by omega, fun _ h9 => tk72 h9⟩)

set_option maxRecDepth 100000 in
set_option maxHeartbeats 4000000 in
theorem c_X6_readSees (l : Launch) (D : DD) (G : Nat → Nat) (a0 : Nat) (ga0 : G a0 = 20) : CE l D G yX6_readSees cX6_readSees 3 (some .boolean) 7 [.ref a0] (fun H => G (fR D H 6 a0 2) = 23) [(2, 3), (2, 4), (2, 5), (2, 6), (2, 2), (7, 3)] (xI (fun H r H1 => (0 ≤ r.toInt ∧ r.toInt ≤ 1) ∧ (r.toInt = 1 → Gd D G H → Gd D G H1))) := by
  refine enter (by decide) (Nat.le_of_ble_eq_true rfl) ?_
  intro p e s m args below meth c ls Q hA hQ C hr hO hpre hl
  have hx := C.1
  have hb := C.2.1
  have S : Sd D G [(2, 3), (2, 4), (2, 5), (2, 6), (2, 2), (7, 3)] s.heap s.heap [] := Sd.start hO
  have hl : lv_has ls 3 [(0, .ref a0)] := hl
  have tk0 : Gd D G s.heap → Gd D G s.heap := fun h => h
  refine lv_aload_n hx hb dX6_readSees_0 rfl (lv_at hl 0 rfl) ?_
  refine q_lds C ks_X6_31 dX6_readSees_1 (fun a1 ha1 wa1 => ?_)
  refine lv_iconst (v := 0) hx hb dX6_readSees_3 (by decide) ?_
  refine lv_iconst (v := 4) hx hb dX6_readSees_4 (by decide) ?_
  have k_0 : (0 : Int32).toInt = 0 := by decide
  have k_4 : (4 : Int32).toInt = 4 := by decide
  refine callV_Ei C S (c_X6_numberAfter l D G a0 a1 4 (0 : Int32) (4 : Int32) ga0 ha1) kV_X6_57 ga0 (trivial) (by decide +kernel) dX6_readSees_5 hl.1 rfl rfl (by decide) cd_X6_numberAfter ⟨Nat.le_of_ble_eq_true rfl, Nat.le_of_ble_eq_true rfl, Nat.le_of_ble_eq_true rfl, Nat.le_of_ble_eq_true rfl, Nat.le_of_ble_eq_true rfl⟩ (fun v2 H2 L2 S2 K2 q2 => ?_)
  have tk2 : Gd D G s.heap → Gd D G H2 := fun h9  => (tk0 h9).keep K2 (by decide +kernel)
  refine lv_istore_n (lv' := [(1, .int v2), (0, .ref a0)]) hx hb dX6_readSees_8 rfl hl (by decide) rfl (fun ls hl => ?_)
  refine lv_iload_n hx hb dX6_readSees_9 rfl (lv_at hl 0 rfl) ?_
  refine lv_iconst (v := -1) hx hb dX6_readSees_10 (by decide) ?_
  have k_m1 : (-1 : Int32).toInt = -1 := by decide
  refine lv_icmp_ne (tgt := 16) hx hb dX6_readSees_11 (by decide) (fun c3 => ?_) (fun c3 => ?_)
  · have b3 : ¬ v2.toInt = (-1 : Int32).toInt := fun z9 => c3 (i_eq.mpr z9)
    refine lv_aload_n hx hb dX6_readSees_16 rfl (lv_at hl 1 rfl) ?_
    refine q_grS (T := TX6) C S2.1 ga0 0 kF_X6_15 dX6_readSees_17 rfl rfl (by decide) rfl (by decide) kSF_X6_tape (fun g4 => ?_)
    refine lv_iconst (v := 0) hx hb dX6_readSees_20 (by decide) ?_
    refine lv_aload_n hx hb dX6_readSees_21 rfl (lv_at hl 1 rfl) ?_
    refine q_grD (T := TX6) C S2.1 ga0 2 kF_X6_11 dX6_readSees_22 rfl rfl (by decide) rfl (by decide) rfl (fun g5 => ?_)
    replace g5 : G (fR D H2 6 a0 2) = 23 := by rw [S2.2.1.fR ga0 rfl (by decide) (by decide +kernel)]; exact hpre
    refine q_gi (T := TX5) C S2.1 g5 3 kF_X6_44 dX6_readSees_25 rfl rfl (by decide) rfl (by decide) rfl ?_
    have c6 : (fI D H2 5 (fR D H2 6 a0 2) 3).toInt = (fI D s.heap 5 (fR D H2 6 a0 2) 3).toInt := by rw [K2.fI g5 rfl (by decide) (by decide +kernel)]
    have r7 : 0 ≤ (fI D H2 5 (fR D H2 6 a0 2) 3).toInt ∧ (fI D H2 5 (fR D H2 6 a0 2) 3).toInt ≤ 6 := S2.1.rng g5 rfl (by decide) rfl
    refine lv_iconst (v := 1) hx hb dX6_readSees_28 (by decide) ?_
    have k_1 : (1 : Int32).toInt = 1 := by decide
    refine lv_isub hx hb dX6_readSees_29 ?_
    refine lv_topi (fun v8 ev8 => ?_)
    have f9 : v8.toInt = (fI D H2 5 (fR D H2 6 a0 2) 3).toInt - (1 : Int32).toInt := by rw [ev8]; exact i_sub (by omega) (by omega)
    refine callV_Ei C S2 (c_X9_takeNumber l D G (fR D H2 6 a0 0) (0 : Int32) v8 g4) kV_X6_86 g4 (trivial) (by decide +kernel) dX6_readSees_30 hl.1 rfl rfl (by decide) cd_X9_takeNumber ⟨Nat.le_of_ble_eq_true rfl, Nat.le_of_ble_eq_true rfl, Nat.le_of_ble_eq_true rfl, Nat.le_of_ble_eq_true rfl, Nat.le_of_ble_eq_true rfl⟩ (fun v10 H10 L10 S10 K10 q10 => ?_)
    have tk10 : Gd D G s.heap → Gd D G H10 := fun h9  => (tk2 h9).keep K10 (by decide +kernel)
    refine lv_istore_n (lv' := [(2, .int v10), (1, .int v2), (0, .ref a0)]) hx hb dX6_readSees_33 rfl hl (by decide) rfl (fun ls hl => ?_)
    refine lv_iload_n hx hb dX6_readSees_34 rfl (lv_at hl 0 rfl) ?_
    refine lv_iconst (v := -1) hx hb dX6_readSees_35 (by decide) ?_
    refine lv_icmp_ne (tgt := 41) hx hb dX6_readSees_36 (by decide) (fun c11 => ?_) (fun c11 => ?_)
    · have b11 : ¬ v10.toInt = (-1 : Int32).toInt := fun z9 => c11 (i_eq.mpr z9)
      refine lv_aload_n hx hb dX6_readSees_41 rfl (lv_at hl 2 rfl) ?_
      refine q_grD (T := TX6) C S10.1 ga0 2 kF_X6_11 dX6_readSees_42 rfl rfl (by decide) rfl (by decide) rfl (fun g12 => ?_)
      replace g12 : G (fR D H10 6 a0 2) = 23 := by rw [S10.2.1.fR ga0 rfl (by decide) (by decide +kernel)]; exact hpre
      refine q_gr (T := TX5) C S10.1 g12 0 kF_X6_53 dX6_readSees_45 rfl rfl (by decide) rfl (by decide) rfl (fun g13 => ?_)
      refine lv_iload_n hx hb dX6_readSees_48 rfl (lv_at hl 0 rfl) ?_
      refine q_aald C S10.1 g13 (by omega) (by omega) dX6_readSees_49 rfl (by decide) rfl rfl (fun g14 => ?_)
      refine lv_dup hx hb dX6_readSees_50 rfl ?_
      refine q_gi (T := TX2) C S10.1 g14 3 kF_X6_70 dX6_readSees_51 rfl rfl (by decide) rfl (by decide) rfl ?_
      have c15 : (fI D H10 2 (eR H10 (fR D H10 5 (fR D H10 6 a0 2) 0) v10.toInt.toNat) 3).toInt = (fI D s.heap 2 (eR H10 (fR D H10 5 (fR D H10 6 a0 2) 0) v10.toInt.toNat) 3).toInt := by rw [K10.fI g14 rfl (by decide) (by decide +kernel), K2.fI g14 rfl (by decide) (by decide +kernel)]
      refine lv_iconst (v := 1) hx hb dX6_readSees_54 (by decide) ?_
      refine lv_iload_n hx hb dX6_readSees_55 rfl (lv_at hl 1 rfl) ?_
      refine lv_ishl hx hb dX6_readSees_56 ?_
      refine lv_topi (fun v16 ev16 => ?_)
      refine lv_ior hx hb dX6_readSees_57 ?_
      refine lv_topi (fun v17 ev17 => ?_)
      refine q_put (T := TX2) C S10 g14 3 kF_X6_70 dX6_readSees_58 rfl rfl (by decide) (by decide) rfl rfl rfl rfl rfl (vok_a rfl) (by decide +kernel) (fun H18 L18 S18 P18 => ?_)
      have tk18 : Gd D G s.heap → Gd D G H18 := fun h9  => (tk10 h9).put g14 P18 (Or.inl (by decide))
      refine lv_iconst (v := 1) hx hb dX6_readSees_61 (by decide) ?_
      exact retE_z hQ C S18 hr dX6_readSees_62 (z01 (by omega) (by omega)) (⟨by omega, fun _ h9 => tk18 h9⟩)
    · have b11 : v10.toInt = (-1 : Int32).toInt := i_eq.mp c11
      refine lv_iconst (v := 0) hx hb dX6_readSees_39 (by decide) ?_
      exact retE_z hQ C S10 hr dX6_readSees_40 (z01 (by omega) (by omega)) (⟨by omega, fun _ h9 => tk10 h9⟩)
  · have b3 : v2.toInt = (-1 : Int32).toInt := i_eq.mp c3
    refine lv_iconst (v := 0) hx hb dX6_readSees_14 (by decide) ?_
    exact retE_z hQ C S2 hr dX6_readSees_15 (z01 (by omega) (by omega)) (⟨by omega, fun _ h9 => tk2 h9⟩)

set_option maxRecDepth 100000 in
set_option maxHeartbeats 4000000 in
theorem c_X6_readHearth (l : Launch) (D : DD) (G : Nat → Nat) (a0 : Nat) (ga0 : G a0 = 20) : CE l D G yX6_readHearth cX6_readHearth 2 (some .boolean) 7 [.ref a0] (fun H => G (fR D H 6 a0 2) = 23) [(2, 3), (2, 4), (2, 5), (2, 6), (2, 2), (25, 0), (25, 1), (25, 2), (25, 3), (25, 4), (25, 5), (23, 4)] (xI (fun H r H1 => (0 ≤ r.toInt ∧ r.toInt ≤ 1) ∧ (r.toInt = 1 → Gd D G H → Gd D G H1))) := by
  refine enter (by decide) (Nat.le_of_ble_eq_true rfl) ?_
  intro p e s m args below meth c ls Q hA hQ C hr hO hpre hl
  have hx := C.1
  have hb := C.2.1
  have S : Sd D G [(2, 3), (2, 4), (2, 5), (2, 6), (2, 2), (25, 0), (25, 1), (25, 2), (25, 3), (25, 4), (25, 5), (23, 4)] s.heap s.heap [] := Sd.start hO
  have hl : lv_has ls 2 [(0, .ref a0)] := hl
  have tk0 : Gd D G s.heap → Gd D G s.heap := fun h => h
  refine lv_aload_n hx hb dX6_readHearth_0 rfl (lv_at hl 0 rfl) ?_
  refine q_grD (T := TX6) C S.1 ga0 2 kF_X6_11 dX6_readHearth_1 rfl rfl (by decide) rfl (by decide) rfl (fun g1 => ?_)
  replace g1 : G (fR D s.heap 6 a0 2) = 23 := by rw [S.2.1.fR ga0 rfl (by decide) (by decide +kernel)]; exact hpre
  refine q_gi (T := TX5) C S.1 g1 4 kF_X6_90 dX6_readHearth_4 rfl rfl (by decide) rfl (by decide) rfl ?_
  have r2 : 0 ≤ (fI D s.heap 5 (fR D s.heap 6 a0 2) 4).toInt ∧ (fI D s.heap 5 (fR D s.heap 6 a0 2) 4).toInt ≤ 12 := S.1.rng g1 rfl (by decide) rfl
  refine lv_bipush (v := 12) hx hb dX6_readHearth_7 (by decide) ?_
  have k_12 : (12 : Int32).toInt = 12 := by decide
  refine lv_icmp_lt (tgt := 20) hx hb dX6_readHearth_9 (by decide) (fun c3 => ?_) (fun c3 => ?_)
  · have b3 : (fI D s.heap 5 (fR D s.heap 6 a0 2) 4).toInt < (12 : Int32).toInt := i_lt.mp c3
    refine lv_aload_n hx hb dX6_readHearth_20 rfl (lv_at hl 0 rfl) ?_
    refine q_grD (T := TX6) C S.1 ga0 2 kF_X6_11 dX6_readHearth_21 rfl rfl (by decide) rfl (by decide) rfl (fun g4 => ?_)
    replace g4 : G (fR D s.heap 6 a0 2) = 23 := by rw [S.2.1.fR ga0 rfl (by decide) (by decide +kernel)]; exact hpre
    refine q_gr (T := TX5) C S.1 g4 1 kF_X6_93 dX6_readHearth_24 rfl rfl (by decide) rfl (by decide) rfl (fun g5 => ?_)
    refine lv_aload_n hx hb dX6_readHearth_27 rfl (lv_at hl 0 rfl) ?_
    refine q_grD (T := TX6) C S.1 ga0 2 kF_X6_11 dX6_readHearth_28 rfl rfl (by decide) rfl (by decide) rfl (fun g6 => ?_)
    replace g6 : G (fR D s.heap 6 a0 2) = 23 := by rw [S.2.1.fR ga0 rfl (by decide) (by decide +kernel)]; exact hpre
    refine q_gi (T := TX5) C S.1 g6 4 kF_X6_90 dX6_readHearth_31 rfl rfl (by decide) rfl (by decide) rfl ?_
    refine q_aald C S.1 g5 (by omega) (by omega) dX6_readHearth_34 rfl (by decide) rfl rfl (fun g7 => ?_)
    refine lv_astore_n (lv' := [(1, .ref (eR s.heap (fR D s.heap 5 (fR D s.heap 6 a0 2) 1) (fI D s.heap 5 (fR D s.heap 6 a0 2) 4).toInt.toNat)), (0, .ref a0)]) hx hb dX6_readHearth_35 rfl hl (by decide) rfl (fun ls hl => ?_)
    refine lv_aload_n hx hb dX6_readHearth_36 rfl (lv_at hl 1 rfl) ?_
    refine q_grS (T := TX6) C S.1 ga0 0 kF_X6_15 dX6_readHearth_37 rfl rfl (by decide) rfl (by decide) kSF_X6_tape (fun g8 => ?_)
    refine callV_Ev C S (c_X9_next l D G (fR D s.heap 6 a0 0) g8) kV_X6_81 g8 (trivial) (by decide +kernel) dX6_readHearth_40 hl.1 rfl rfl (by decide) cd_X9_next ⟨Nat.le_of_ble_eq_true rfl, Nat.le_of_ble_eq_true rfl, Nat.le_of_ble_eq_true rfl, Nat.le_of_ble_eq_true rfl, Nat.le_of_ble_eq_true rfl⟩ (fun H9 L9 S9 K9 q9 => ?_)
    have m9_4 : (fI D H9 5 (fR D H9 6 a0 2) 4).toInt = (fI D s.heap 5 (fR D s.heap 6 a0 2) 4).toInt := congrArg Int32.toInt (dK ga0 (by rw [S.2.1.fR ga0 rfl (by decide) (by decide +kernel)]; exact hpre) K9 (by decide +kernel) (by decide +kernel) (by decide))
    have tk9 : Gd D G s.heap → Gd D G H9 := fun h9  => (tk0 h9).keep K9 (by decide +kernel)
    refine lv_aload_n hx hb dX6_readHearth_43 rfl (lv_at hl 0 rfl) ?_
    refine lv_aload_n hx hb dX6_readHearth_44 rfl (lv_at hl 1 rfl) ?_
    refine callV_Pi C S9.1 S9.2.1.2.1 (c_X6_presentKind l D G a0 ga0) kV_X6_97 ga0 (trivial) dX6_readHearth_45 hl.1 rfl rfl (by decide) cd_X6_presentKind ⟨Nat.le_of_ble_eq_true rfl, Nat.le_of_ble_eq_true rfl, Nat.le_of_ble_eq_true rfl, Nat.le_of_ble_eq_true rfl, Nat.le_of_ble_eq_true rfl⟩ (fun v10 q10 => ?_)
    refine q_put (T := TX1) C S9 g7 1 kF_X6_101 dX6_readHearth_48 rfl rfl (by decide) (by decide) rfl rfl rfl rfl rfl (vok_a rfl) (by decide +kernel) (fun H11 L11 S11 P11 => ?_)
    have m11_4 : (fI D H11 5 (fR D H11 6 a0 2) 4).toInt = (fI D H9 5 (fR D H9 6 a0 2) 4).toInt := congrArg Int32.toInt (dP ga0 (by rw [S9.2.1.fR ga0 rfl (by decide) (by decide +kernel)]; exact hpre) P11 g7 (by decide) (by decide))
    have tk11 : Gd D G s.heap → Gd D G H11 := fun h9  => (tk9 h9).put g7 P11 (Or.inr ⟨rfl, by decide, by decide⟩)
    refine lv_aload_n hx hb dX6_readHearth_51 rfl (lv_at hl 0 rfl) ?_
    refine q_gi (T := TX1) C S11.1 g7 1 kF_X6_101 dX6_readHearth_52 rfl rfl (by decide) rfl (by decide) rfl ?_
    have c12 : (fI D H11 1 (eR s.heap (fR D s.heap 5 (fR D s.heap 6 a0 2) 1) (fI D s.heap 5 (fR D s.heap 6 a0 2) 4).toInt.toNat) 1).toInt = v10.toInt := by rw [Pt.i P11]
    refine lv_iconst (v := -1) hx hb dX6_readHearth_55 (by decide) ?_
    have k_m1 : (-1 : Int32).toInt = -1 := by decide
    refine lv_icmp_ne (tgt := 67) hx hb dX6_readHearth_56 (by decide) (fun c13 => ?_) (fun c13 => ?_)
    · have b13 : ¬ (fI D H11 1 (eR s.heap (fR D s.heap 5 (fR D s.heap 6 a0 2) 1) (fI D s.heap 5 (fR D s.heap 6 a0 2) 4).toInt.toNat) 1).toInt = (-1 : Int32).toInt := fun z9 => c13 (i_eq.mpr z9)
      refine lv_aload_n hx hb dX6_readHearth_67 rfl (lv_at hl 1 rfl) ?_
      refine q_grS (T := TX6) C S11.1 ga0 0 kF_X6_15 dX6_readHearth_68 rfl rfl (by decide) rfl (by decide) kSF_X6_tape (fun g14 => ?_)
      refine callV_Ev C S11 (c_X9_next l D G (fR D H11 6 a0 0) g14) kV_X6_81 g14 (trivial) (by decide +kernel) dX6_readHearth_71 hl.1 rfl rfl (by decide) cd_X9_next ⟨Nat.le_of_ble_eq_true rfl, Nat.le_of_ble_eq_true rfl, Nat.le_of_ble_eq_true rfl, Nat.le_of_ble_eq_true rfl, Nat.le_of_ble_eq_true rfl⟩ (fun H15 L15 S15 K15 q15 => ?_)
      have m15_4 : (fI D H15 5 (fR D H15 6 a0 2) 4).toInt = (fI D H11 5 (fR D H11 6 a0 2) 4).toInt := congrArg Int32.toInt (dK ga0 (by rw [S11.2.1.fR ga0 rfl (by decide) (by decide +kernel)]; exact hpre) K15 (by decide +kernel) (by decide +kernel) (by decide))
      have tk15 : Gd D G s.heap → Gd D G H15 := fun h9  => (tk11 h9).keep K15 (by decide +kernel)
      refine lv_aload_n hx hb dX6_readHearth_74 rfl (lv_at hl 1 rfl) ?_
      refine q_grS (T := TX6) C S15.1 ga0 0 kF_X6_15 dX6_readHearth_75 rfl rfl (by decide) rfl (by decide) kSF_X6_tape (fun g16 => ?_)
      refine q_lds C ks_X6_106 dX6_readHearth_78 (fun a17 ha17 wa17 => ?_)
      refine callV_Ei C S15 (c_X9_takeWord l D G (fR D H15 6 a0 0) a17 2 g16 ha17) kV_X6_108 g16 (trivial) (by decide +kernel) dX6_readHearth_80 hl.1 rfl rfl (by decide) cd_X9_takeWord ⟨Nat.le_of_ble_eq_true rfl, Nat.le_of_ble_eq_true rfl, Nat.le_of_ble_eq_true rfl, Nat.le_of_ble_eq_true rfl, Nat.le_of_ble_eq_true rfl⟩ (fun v18 H18 L18 S18 K18 q18 => ?_)
      have m18_4 : (fI D H18 5 (fR D H18 6 a0 2) 4).toInt = (fI D H15 5 (fR D H15 6 a0 2) 4).toInt := congrArg Int32.toInt (dK ga0 (by rw [S15.2.1.fR ga0 rfl (by decide) (by decide +kernel)]; exact hpre) K18 (by decide +kernel) (by decide +kernel) (by decide))
      have tk18 : Gd D G s.heap → Gd D G H18 := fun h9  => (tk15 h9).keep K18 (by decide +kernel)
      have k_0 : (0 : Int32).toInt = 0 := by decide
      refine lv_if_ne (tgt := 88) hx hb dX6_readHearth_83 (by decide) (fun c19 => ?_) (fun c19 => ?_)
      · have b19 : ¬ v18.toInt = (0 : Int32).toInt := fun z9 => c19 (i_eq.mpr z9)
        refine lv_aload_n hx hb dX6_readHearth_88 rfl (lv_at hl 0 rfl) ?_
        refine lv_aload_n hx hb dX6_readHearth_89 rfl (lv_at hl 1 rfl) ?_
        refine callV_Ei C S18 (c_X6_roomyHouse l D G a0 ga0) kV_X6_111 ga0 (by rw [S18.2.1.fR ga0 rfl (by decide) (by decide +kernel)]; exact hpre) (by decide +kernel) dX6_readHearth_90 hl.1 rfl rfl (by decide) cd_X6_roomyHouse ⟨Nat.le_of_ble_eq_true rfl, Nat.le_of_ble_eq_true rfl, Nat.le_of_ble_eq_true rfl, Nat.le_of_ble_eq_true rfl, Nat.le_of_ble_eq_true rfl⟩ (fun v20 H20 L20 S20 K20 q20 => ?_)
        have m20_4 : (fI D H20 5 (fR D H20 6 a0 2) 4).toInt = (fI D H18 5 (fR D H18 6 a0 2) 4).toInt := congrArg Int32.toInt (dK ga0 (by rw [S18.2.1.fR ga0 rfl (by decide) (by decide +kernel)]; exact hpre) K20 (by decide +kernel) (by decide +kernel) (by decide))
        have tk20 : Gd D G s.heap → Gd D G H20 := fun h9  => (tk18 h9).keep K20 (by decide +kernel)
        refine q_put (T := TX1) C S20 g7 0 kF_X6_114 dX6_readHearth_93 rfl rfl (by decide) (by decide) rfl rfl rfl rfl rfl (vok_i rfl (by omega) (by omega)) (by decide +kernel) (fun H21 L21 S21 P21 => ?_)
        have m21_4 : (fI D H21 5 (fR D H21 6 a0 2) 4).toInt = (fI D H20 5 (fR D H20 6 a0 2) 4).toInt := congrArg Int32.toInt (dP ga0 (by rw [S20.2.1.fR ga0 rfl (by decide) (by decide +kernel)]; exact hpre) P21 g7 (by decide) (by decide))
        have tk21 : Gd D G s.heap → (0 ≤ v20.toInt ∧ v20.toInt ≤ 5) → Gd D G H21 := fun h9 k90 => Gd.put0 (fun b9 hb9 _ => (tk20 h9) b9 hb9) P21 k90
        refine lv_aload_n hx hb dX6_readHearth_96 rfl (lv_at hl 0 rfl) ?_
        refine q_gi (T := TX1) C S21.1 g7 0 kF_X6_114 dX6_readHearth_97 rfl rfl (by decide) rfl (by decide) rfl ?_
        have c22 : (fI D H21 1 (eR s.heap (fR D s.heap 5 (fR D s.heap 6 a0 2) 1) (fI D s.heap 5 (fR D s.heap 6 a0 2) 4).toInt.toNat) 0).toInt = v20.toInt := by rw [Pt.i P21]
        have r23 : -1 ≤ (fI D H21 1 (eR s.heap (fR D s.heap 5 (fR D s.heap 6 a0 2) 1) (fI D s.heap 5 (fR D s.heap 6 a0 2) 4).toInt.toNat) 0).toInt ∧ (fI D H21 1 (eR s.heap (fR D s.heap 5 (fR D s.heap 6 a0 2) 1) (fI D s.heap 5 (fR D s.heap 6 a0 2) 4).toInt.toNat) 0).toInt ≤ 5 := S21.1.rng g7 rfl (by decide) rfl
        refine lv_iconst (v := -1) hx hb dX6_readHearth_100 (by decide) ?_
        refine lv_icmp_ne (tgt := 106) hx hb dX6_readHearth_101 (by decide) (fun c24 => ?_) (fun c24 => ?_)
        · have b24 : ¬ (fI D H21 1 (eR s.heap (fR D s.heap 5 (fR D s.heap 6 a0 2) 1) (fI D s.heap 5 (fR D s.heap 6 a0 2) 4).toInt.toNat) 0).toInt = (-1 : Int32).toInt := fun z9 => c24 (i_eq.mpr z9)
          refine lv_aload_n hx hb dX6_readHearth_106 rfl (lv_at hl 0 rfl) ?_
          refine lv_aload_n hx hb dX6_readHearth_107 rfl (lv_at hl 1 rfl) ?_
          refine q_lds C ks_X6_116 dX6_readHearth_108 (fun a25 ha25 wa25 => ?_)
          refine lv_iconst (v := 0) hx hb dX6_readHearth_110 (by decide) ?_
          refine lv_bipush (v := 9) hx hb dX6_readHearth_111 (by decide) ?_
          have k_9 : (9 : Int32).toInt = 9 := by decide
          refine callV_Ei C S21 (c_X6_numberAfter l D G a0 a25 4 (0 : Int32) (9 : Int32) ga0 ha25) kV_X6_57 ga0 (trivial) (by decide +kernel) dX6_readHearth_113 hl.1 rfl rfl (by decide) cd_X6_numberAfter ⟨Nat.le_of_ble_eq_true rfl, Nat.le_of_ble_eq_true rfl, Nat.le_of_ble_eq_true rfl, Nat.le_of_ble_eq_true rfl, Nat.le_of_ble_eq_true rfl⟩ (fun v26 H26 L26 S26 K26 q26 => ?_)
          have m26_4 : (fI D H26 5 (fR D H26 6 a0 2) 4).toInt = (fI D H21 5 (fR D H21 6 a0 2) 4).toInt := congrArg Int32.toInt (dK ga0 (by rw [S21.2.1.fR ga0 rfl (by decide) (by decide +kernel)]; exact hpre) K26 (by decide +kernel) (by decide +kernel) (by decide))
          have tk26 : Gd D G s.heap → (0 ≤ v20.toInt ∧ v20.toInt ≤ 5) → Gd D G H26 := fun h9 k90 => (tk21 h9 k90).keep K26 (by decide +kernel)
          refine q_put (T := TX1) C S26 g7 2 kF_X6_118 dX6_readHearth_116 rfl rfl (by decide) (by decide) rfl rfl rfl rfl rfl (vok_a rfl) (by decide +kernel) (fun H27 L27 S27 P27 => ?_)
          have m27_4 : (fI D H27 5 (fR D H27 6 a0 2) 4).toInt = (fI D H26 5 (fR D H26 6 a0 2) 4).toInt := congrArg Int32.toInt (dP ga0 (by rw [S26.2.1.fR ga0 rfl (by decide) (by decide +kernel)]; exact hpre) P27 g7 (by decide) (by decide))
          have tk27 : Gd D G s.heap → (0 ≤ v20.toInt ∧ v20.toInt ≤ 5) → Gd D G H27 := fun h9 k90 => (tk26 h9 k90).put g7 P27 (Or.inr ⟨rfl, by decide, by decide⟩)
          refine lv_aload_n hx hb dX6_readHearth_119 rfl (lv_at hl 0 rfl) ?_
          refine q_gi (T := TX1) C S27.1 g7 2 kF_X6_118 dX6_readHearth_120 rfl rfl (by decide) rfl (by decide) rfl ?_
          have c28 : (fI D H27 1 (eR s.heap (fR D s.heap 5 (fR D s.heap 6 a0 2) 1) (fI D s.heap 5 (fR D s.heap 6 a0 2) 4).toInt.toNat) 2).toInt = v26.toInt := by rw [Pt.i P27]
          refine lv_iconst (v := -1) hx hb dX6_readHearth_123 (by decide) ?_
          refine lv_icmp_ne (tgt := 129) hx hb dX6_readHearth_124 (by decide) (fun c29 => ?_) (fun c29 => ?_)
          · have b29 : ¬ (fI D H27 1 (eR s.heap (fR D s.heap 5 (fR D s.heap 6 a0 2) 1) (fI D s.heap 5 (fR D s.heap 6 a0 2) 4).toInt.toNat) 2).toInt = (-1 : Int32).toInt := fun z9 => c29 (i_eq.mpr z9)
            refine lv_aload_n hx hb dX6_readHearth_129 rfl (lv_at hl 0 rfl) ?_
            refine lv_aload_n hx hb dX6_readHearth_130 rfl (lv_at hl 1 rfl) ?_
            refine q_lds C ks_X6_120 dX6_readHearth_131 (fun a30 ha30 wa30 => ?_)
            refine lv_iconst (v := 1) hx hb dX6_readHearth_133 (by decide) ?_
            refine lv_bipush (v := 9) hx hb dX6_readHearth_134 (by decide) ?_
            have k_1 : (1 : Int32).toInt = 1 := by decide
            refine callV_Ei C S27 (c_X6_numberAfter l D G a0 a30 4 (1 : Int32) (9 : Int32) ga0 ha30) kV_X6_57 ga0 (trivial) (by decide +kernel) dX6_readHearth_136 hl.1 rfl rfl (by decide) cd_X6_numberAfter ⟨Nat.le_of_ble_eq_true rfl, Nat.le_of_ble_eq_true rfl, Nat.le_of_ble_eq_true rfl, Nat.le_of_ble_eq_true rfl, Nat.le_of_ble_eq_true rfl⟩ (fun v31 H31 L31 S31 K31 q31 => ?_)
            have m31_4 : (fI D H31 5 (fR D H31 6 a0 2) 4).toInt = (fI D H27 5 (fR D H27 6 a0 2) 4).toInt := congrArg Int32.toInt (dK ga0 (by rw [S27.2.1.fR ga0 rfl (by decide) (by decide +kernel)]; exact hpre) K31 (by decide +kernel) (by decide +kernel) (by decide))
            have tk31 : Gd D G s.heap → (0 ≤ v20.toInt ∧ v20.toInt ≤ 5) → Gd D G H31 := fun h9 k90 => (tk27 h9 k90).keep K31 (by decide +kernel)
            refine q_put (T := TX1) C S31 g7 3 kF_X6_122 dX6_readHearth_139 rfl rfl (by decide) (by decide) rfl rfl rfl rfl rfl (vok_a rfl) (by decide +kernel) (fun H32 L32 S32 P32 => ?_)
            have m32_4 : (fI D H32 5 (fR D H32 6 a0 2) 4).toInt = (fI D H31 5 (fR D H31 6 a0 2) 4).toInt := congrArg Int32.toInt (dP ga0 (by rw [S31.2.1.fR ga0 rfl (by decide) (by decide +kernel)]; exact hpre) P32 g7 (by decide) (by decide))
            have tk32 : Gd D G s.heap → (0 ≤ v20.toInt ∧ v20.toInt ≤ 5) → Gd D G H32 := fun h9 k90 => (tk31 h9 k90).put g7 P32 (Or.inr ⟨rfl, by decide, by decide⟩)
            refine lv_aload_n hx hb dX6_readHearth_142 rfl (lv_at hl 0 rfl) ?_
            refine q_gi (T := TX1) C S32.1 g7 3 kF_X6_122 dX6_readHearth_143 rfl rfl (by decide) rfl (by decide) rfl ?_
            have c33 : (fI D H32 1 (eR s.heap (fR D s.heap 5 (fR D s.heap 6 a0 2) 1) (fI D s.heap 5 (fR D s.heap 6 a0 2) 4).toInt.toNat) 3).toInt = v31.toInt := by rw [Pt.i P32]
            refine lv_iconst (v := -1) hx hb dX6_readHearth_146 (by decide) ?_
            refine lv_icmp_ne (tgt := 152) hx hb dX6_readHearth_147 (by decide) (fun c34 => ?_) (fun c34 => ?_)
            · have b34 : ¬ (fI D H32 1 (eR s.heap (fR D s.heap 5 (fR D s.heap 6 a0 2) 1) (fI D s.heap 5 (fR D s.heap 6 a0 2) 4).toInt.toNat) 3).toInt = (-1 : Int32).toInt := fun z9 => c34 (i_eq.mpr z9)
              refine lv_aload_n hx hb dX6_readHearth_152 rfl (lv_at hl 0 rfl) ?_
              refine lv_aload_n hx hb dX6_readHearth_153 rfl (lv_at hl 1 rfl) ?_
              refine q_lds C ks_X6_124 dX6_readHearth_154 (fun a35 ha35 wa35 => ?_)
              refine lv_iconst (v := 1) hx hb dX6_readHearth_156 (by decide) ?_
              refine lv_bipush (v := 30) hx hb dX6_readHearth_157 (by decide) ?_
              have k_30 : (30 : Int32).toInt = 30 := by decide
              refine callV_Ei C S32 (c_X6_numberAfter l D G a0 a35 4 (1 : Int32) (30 : Int32) ga0 ha35) kV_X6_57 ga0 (trivial) (by decide +kernel) dX6_readHearth_159 hl.1 rfl rfl (by decide) cd_X6_numberAfter ⟨Nat.le_of_ble_eq_true rfl, Nat.le_of_ble_eq_true rfl, Nat.le_of_ble_eq_true rfl, Nat.le_of_ble_eq_true rfl, Nat.le_of_ble_eq_true rfl⟩ (fun v36 H36 L36 S36 K36 q36 => ?_)
              have m36_4 : (fI D H36 5 (fR D H36 6 a0 2) 4).toInt = (fI D H32 5 (fR D H32 6 a0 2) 4).toInt := congrArg Int32.toInt (dK ga0 (by rw [S32.2.1.fR ga0 rfl (by decide) (by decide +kernel)]; exact hpre) K36 (by decide +kernel) (by decide +kernel) (by decide))
              have tk36 : Gd D G s.heap → (0 ≤ v20.toInt ∧ v20.toInt ≤ 5) → Gd D G H36 := fun h9 k90 => (tk32 h9 k90).keep K36 (by decide +kernel)
              refine q_put (T := TX1) C S36 g7 4 kF_X6_126 dX6_readHearth_162 rfl rfl (by decide) (by decide) rfl rfl rfl rfl rfl (vok_a rfl) (by decide +kernel) (fun H37 L37 S37 P37 => ?_)
              have m37_4 : (fI D H37 5 (fR D H37 6 a0 2) 4).toInt = (fI D H36 5 (fR D H36 6 a0 2) 4).toInt := congrArg Int32.toInt (dP ga0 (by rw [S36.2.1.fR ga0 rfl (by decide) (by decide +kernel)]; exact hpre) P37 g7 (by decide) (by decide))
              have tk37 : Gd D G s.heap → (0 ≤ v20.toInt ∧ v20.toInt ≤ 5) → Gd D G H37 := fun h9 k90 => (tk36 h9 k90).put g7 P37 (Or.inr ⟨rfl, by decide, by decide⟩)
              refine lv_aload_n hx hb dX6_readHearth_165 rfl (lv_at hl 0 rfl) ?_
              refine q_gi (T := TX1) C S37.1 g7 4 kF_X6_126 dX6_readHearth_166 rfl rfl (by decide) rfl (by decide) rfl ?_
              have c38 : (fI D H37 1 (eR s.heap (fR D s.heap 5 (fR D s.heap 6 a0 2) 1) (fI D s.heap 5 (fR D s.heap 6 a0 2) 4).toInt.toNat) 4).toInt = v36.toInt := by rw [Pt.i P37]
              refine lv_iconst (v := -1) hx hb dX6_readHearth_169 (by decide) ?_
              refine lv_icmp_ne (tgt := 175) hx hb dX6_readHearth_170 (by decide) (fun c39 => ?_) (fun c39 => ?_)
              · have b39 : ¬ (fI D H37 1 (eR s.heap (fR D s.heap 5 (fR D s.heap 6 a0 2) 1) (fI D s.heap 5 (fR D s.heap 6 a0 2) 4).toInt.toNat) 4).toInt = (-1 : Int32).toInt := fun z9 => c39 (i_eq.mpr z9)
                refine lv_aload_n hx hb dX6_readHearth_175 rfl (lv_at hl 0 rfl) ?_
                refine lv_iconst (v := 0) hx hb dX6_readHearth_176 (by decide) ?_
                refine q_put (T := TX1) C S37 g7 5 kF_X6_128 dX6_readHearth_177 rfl rfl (by decide) (by decide) rfl rfl rfl rfl rfl (vok_a rfl) (by decide +kernel) (fun H40 L40 S40 P40 => ?_)
                have m40_4 : (fI D H40 5 (fR D H40 6 a0 2) 4).toInt = (fI D H37 5 (fR D H37 6 a0 2) 4).toInt := congrArg Int32.toInt (dP ga0 (by rw [S37.2.1.fR ga0 rfl (by decide) (by decide +kernel)]; exact hpre) P40 g7 (by decide) (by decide))
                have tk40 : Gd D G s.heap → (0 ≤ v20.toInt ∧ v20.toInt ≤ 5) → Gd D G H40 := fun h9 k90 => (tk37 h9 k90).put g7 P40 (Or.inr ⟨rfl, by decide, by decide⟩)
                refine lv_aload_n hx hb dX6_readHearth_180 rfl (lv_at hl 1 rfl) ?_
                refine q_grD (T := TX6) C S40.1 ga0 2 kF_X6_11 dX6_readHearth_181 rfl rfl (by decide) rfl (by decide) rfl (fun g41 => ?_)
                replace g41 : G (fR D H40 6 a0 2) = 23 := by rw [S40.2.1.fR ga0 rfl (by decide) (by decide +kernel)]; exact hpre
                refine lv_dup hx hb dX6_readHearth_184 rfl ?_
                refine q_gi (T := TX5) C S40.1 g41 4 kF_X6_90 dX6_readHearth_185 rfl rfl (by decide) rfl (by decide) rfl ?_
                have c42 : (fI D H40 5 (fR D H40 6 a0 2) 4).toInt = (fI D s.heap 5 (fR D H40 6 a0 2) 4).toInt := by rw [Pt.f P40 (ne_role g41 g7 (by decide)), Pt.f P37 (ne_role g41 g7 (by decide)), K36.fI g41 rfl (by decide) (by decide +kernel), Pt.f P32 (ne_role g41 g7 (by decide)), K31.fI g41 rfl (by decide) (by decide +kernel), Pt.f P27 (ne_role g41 g7 (by decide)), K26.fI g41 rfl (by decide) (by decide +kernel), Pt.f P21 (ne_role g41 g7 (by decide)), K20.fI g41 rfl (by decide) (by decide +kernel), K18.fI g41 rfl (by decide) (by decide +kernel), K15.fI g41 rfl (by decide) (by decide +kernel), Pt.f P11 (ne_role g41 g7 (by decide)), K9.fI g41 rfl (by decide) (by decide +kernel)]
                have r43 : 0 ≤ (fI D H40 5 (fR D H40 6 a0 2) 4).toInt ∧ (fI D H40 5 (fR D H40 6 a0 2) 4).toInt ≤ 12 := S40.1.rng g41 rfl (by decide) rfl
                refine lv_iconst (v := 1) hx hb dX6_readHearth_188 (by decide) ?_
                refine lv_iadd hx hb dX6_readHearth_189 ?_
                refine lv_topi (fun v44 ev44 => ?_)
                have f45 : v44.toInt = (fI D H40 5 (fR D H40 6 a0 2) 4).toInt + (1 : Int32).toInt := by rw [ev44]; exact i_add (by omega) (by omega)
                refine q_put (T := TX5) C S40 g41 4 kF_X6_90 dX6_readHearth_190 rfl rfl (by decide) (by decide) rfl rfl rfl rfl rfl (vok_i rfl (by omega) (by omega)) (by decide +kernel) (fun H46 L46 S46 P46 => ?_)
                have tk46 : Gd D G s.heap → (0 ≤ v20.toInt ∧ v20.toInt ≤ 5) → Gd D G H46 := fun h9 k90 => (tk40 h9 k90).put g41 P46 (Or.inl (by decide))
                refine lv_iconst (v := 1) hx hb dX6_readHearth_193 (by decide) ?_
                exact retE_z hQ C S46 hr dX6_readHearth_194 (z01 (by omega) (by omega)) (⟨by omega, fun _ h9 => tk46 h9 (by omega)⟩)
              · have b39 : (fI D H37 1 (eR s.heap (fR D s.heap 5 (fR D s.heap 6 a0 2) 1) (fI D s.heap 5 (fR D s.heap 6 a0 2) 4).toInt.toNat) 4).toInt = (-1 : Int32).toInt := i_eq.mp c39
                refine lv_iconst (v := 0) hx hb dX6_readHearth_173 (by decide) ?_
                exact retE_z hQ C S37 hr dX6_readHearth_174 (z01 (by omega) (by omega)) (⟨by omega, fun h9 => absurd h9 (by decide)⟩)
            · have b34 : (fI D H32 1 (eR s.heap (fR D s.heap 5 (fR D s.heap 6 a0 2) 1) (fI D s.heap 5 (fR D s.heap 6 a0 2) 4).toInt.toNat) 3).toInt = (-1 : Int32).toInt := i_eq.mp c34
              refine lv_iconst (v := 0) hx hb dX6_readHearth_150 (by decide) ?_
              exact retE_z hQ C S32 hr dX6_readHearth_151 (z01 (by omega) (by omega)) (⟨by omega, fun h9 => absurd h9 (by decide)⟩)
          · have b29 : (fI D H27 1 (eR s.heap (fR D s.heap 5 (fR D s.heap 6 a0 2) 1) (fI D s.heap 5 (fR D s.heap 6 a0 2) 4).toInt.toNat) 2).toInt = (-1 : Int32).toInt := i_eq.mp c29
            refine lv_iconst (v := 0) hx hb dX6_readHearth_127 (by decide) ?_
            exact retE_z hQ C S27 hr dX6_readHearth_128 (z01 (by omega) (by omega)) (⟨by omega, fun h9 => absurd h9 (by decide)⟩)
        · have b24 : (fI D H21 1 (eR s.heap (fR D s.heap 5 (fR D s.heap 6 a0 2) 1) (fI D s.heap 5 (fR D s.heap 6 a0 2) 4).toInt.toNat) 0).toInt = (-1 : Int32).toInt := i_eq.mp c24
          refine lv_iconst (v := 0) hx hb dX6_readHearth_104 (by decide) ?_
          exact retE_z hQ C S21 hr dX6_readHearth_105 (z01 (by omega) (by omega)) (⟨by omega, fun h9 => absurd h9 (by decide)⟩)
      · have b19 : v18.toInt = (0 : Int32).toInt := i_eq.mp c19
        refine lv_iconst (v := 0) hx hb dX6_readHearth_86 (by decide) ?_
        exact retE_z hQ C S18 hr dX6_readHearth_87 (z01 (by omega) (by omega)) (⟨by omega, fun _ h9 => tk18 h9⟩)
    · have b13 : (fI D H11 1 (eR s.heap (fR D s.heap 5 (fR D s.heap 6 a0 2) 1) (fI D s.heap 5 (fR D s.heap 6 a0 2) 4).toInt.toNat) 1).toInt = (-1 : Int32).toInt := i_eq.mp c13
      refine lv_aload_n hx hb dX6_readHearth_59 rfl (lv_at hl 1 rfl) ?_
      refine q_grS (T := TX6) C S11.1 ga0 0 kF_X6_15 dX6_readHearth_60 rfl rfl (by decide) rfl (by decide) kSF_X6_tape (fun g47 => ?_)
      refine callV_Ei C S11 (c_X9_refuse l D G (fR D H11 6 a0 0) g47) kV_X6_50 g47 (trivial) (by decide +kernel) dX6_readHearth_63 hl.1 rfl rfl (by decide) cd_X9_refuse ⟨Nat.le_of_ble_eq_true rfl, Nat.le_of_ble_eq_true rfl, Nat.le_of_ble_eq_true rfl, Nat.le_of_ble_eq_true rfl, Nat.le_of_ble_eq_true rfl⟩ (fun v48 H48 L48 S48 K48 q48 => ?_)
      have m48_4 : (fI D H48 5 (fR D H48 6 a0 2) 4).toInt = (fI D H11 5 (fR D H11 6 a0 2) 4).toInt := congrArg Int32.toInt (dK ga0 (by rw [S11.2.1.fR ga0 rfl (by decide) (by decide +kernel)]; exact hpre) K48 (by decide +kernel) (by decide +kernel) (by decide))
      have tk48 : Gd D G s.heap → Gd D G H48 := fun h9  => (tk11 h9).keep K48 (by decide +kernel)
      exact retE_z hQ C S48 hr dX6_readHearth_66 (z01 (by omega) (by omega)) (⟨by omega, fun _ h9 => tk48 h9⟩)
  · have b3 : ¬ (fI D s.heap 5 (fR D s.heap 6 a0 2) 4).toInt < (12 : Int32).toInt := fun z9 => c3 (i_lt.mpr z9)
    refine lv_aload_n hx hb dX6_readHearth_12 rfl (lv_at hl 0 rfl) ?_
    refine q_grS (T := TX6) C S.1 ga0 0 kF_X6_15 dX6_readHearth_13 rfl rfl (by decide) rfl (by decide) kSF_X6_tape (fun g49 => ?_)
    refine callV_Ei C S (c_X9_refuse l D G (fR D s.heap 6 a0 0) g49) kV_X6_50 g49 (trivial) (by decide +kernel) dX6_readHearth_16 hl.1 rfl rfl (by decide) cd_X9_refuse ⟨Nat.le_of_ble_eq_true rfl, Nat.le_of_ble_eq_true rfl, Nat.le_of_ble_eq_true rfl, Nat.le_of_ble_eq_true rfl, Nat.le_of_ble_eq_true rfl⟩ (fun v50 H50 L50 S50 K50 q50 => ?_)
    have m50_4 : (fI D H50 5 (fR D H50 6 a0 2) 4).toInt = (fI D s.heap 5 (fR D s.heap 6 a0 2) 4).toInt := congrArg Int32.toInt (dK ga0 (by rw [S.2.1.fR ga0 rfl (by decide) (by decide +kernel)]; exact hpre) K50 (by decide +kernel) (by decide +kernel) (by decide))
    have tk50 : Gd D G s.heap → Gd D G H50 := fun h9  => (tk0 h9).keep K50 (by decide +kernel)
    exact retE_z hQ C S50 hr dX6_readHearth_19 (z01 (by omega) (by omega)) (⟨by omega, fun _ h9 => tk50 h9⟩)

set_option maxRecDepth 100000 in
set_option maxHeartbeats 4000000 in
theorem c_X6_readSetting (l : Launch) (D : DD) (G : Nat → Nat) (a0 : Nat) (ga0 : G a0 = 20) : CE l D G yX6_readSetting cX6_readSetting 1 (some .boolean) 7 [.ref a0] (fun H => G (fR D H 6 a0 2) = 23) [(2, 3), (2, 4), (2, 5), (2, 6), (2, 2), (23, 6), (23, 7), (23, 8), (23, 9), (23, 10)] (xI (fun H r H1 => (0 ≤ r.toInt ∧ r.toInt ≤ 1) ∧ (r.toInt = 1 → Gd D G H → Gd D G H1))) := by
  refine enter (by decide) (Nat.le_of_ble_eq_true rfl) ?_
  intro p e s m args below meth c ls Q hA hQ C hr hO hpre hl
  have hx := C.1
  have hb := C.2.1
  have S : Sd D G [(2, 3), (2, 4), (2, 5), (2, 6), (2, 2), (23, 6), (23, 7), (23, 8), (23, 9), (23, 10)] s.heap s.heap [] := Sd.start hO
  have hl : lv_has ls 1 [(0, .ref a0)] := hl
  have tk0 : Gd D G s.heap → Gd D G s.heap := fun h => h
  refine lv_aload_n hx hb dX6_readSetting_0 rfl (lv_at hl 0 rfl) ?_
  refine q_grS (T := TX6) C S.1 ga0 0 kF_X6_15 dX6_readSetting_1 rfl rfl (by decide) rfl (by decide) kSF_X6_tape (fun g1 => ?_)
  refine q_lds C ks_X6_154 dX6_readSetting_4 (fun a2 ha2 wa2 => ?_)
  refine callV_Pi C S.1 S.2.1.2.1 (c_X9_isWord l D G (fR D s.heap 6 a0 0) a2 4 g1 ha2) kV_X6_21 g1 (trivial) dX6_readSetting_6 hl.1 rfl rfl (by decide) cd_X9_isWord ⟨Nat.le_of_ble_eq_true rfl, Nat.le_of_ble_eq_true rfl, Nat.le_of_ble_eq_true rfl, Nat.le_of_ble_eq_true rfl, Nat.le_of_ble_eq_true rfl⟩ (fun v3 q3 => ?_)
  have k_0 : (0 : Int32).toInt = 0 := by decide
  refine lv_if_eq (tgt := 45) hx hb dX6_readSetting_9 (by decide) (fun c4 => ?_) (fun c4 => ?_)
  · have b4 : v3.toInt = (0 : Int32).toInt := i_eq.mp c4
    refine lv_aload_n hx hb dX6_readSetting_45 rfl (lv_at hl 0 rfl) ?_
    refine q_grS (T := TX6) C S.1 ga0 0 kF_X6_15 dX6_readSetting_46 rfl rfl (by decide) rfl (by decide) kSF_X6_tape (fun g5 => ?_)
    refine q_lds C ks_X6_158 dX6_readSetting_49 (fun a6 ha6 wa6 => ?_)
    refine callV_Pi C S.1 S.2.1.2.1 (c_X9_isWord l D G (fR D s.heap 6 a0 0) a6 4 g5 ha6) kV_X6_21 g5 (trivial) dX6_readSetting_51 hl.1 rfl rfl (by decide) cd_X9_isWord ⟨Nat.le_of_ble_eq_true rfl, Nat.le_of_ble_eq_true rfl, Nat.le_of_ble_eq_true rfl, Nat.le_of_ble_eq_true rfl, Nat.le_of_ble_eq_true rfl⟩ (fun v7 q7 => ?_)
    refine lv_if_eq (tgt := 90) hx hb dX6_readSetting_54 (by decide) (fun c8 => ?_) (fun c8 => ?_)
    · have b8 : v7.toInt = (0 : Int32).toInt := i_eq.mp c8
      refine lv_aload_n hx hb dX6_readSetting_90 rfl (lv_at hl 0 rfl) ?_
      refine q_grS (T := TX6) C S.1 ga0 0 kF_X6_15 dX6_readSetting_91 rfl rfl (by decide) rfl (by decide) kSF_X6_tape (fun g9 => ?_)
      refine q_lds C ks_X6_162 dX6_readSetting_94 (fun a10 ha10 wa10 => ?_)
      refine callV_Pi C S.1 S.2.1.2.1 (c_X9_isWord l D G (fR D s.heap 6 a0 0) a10 5 g9 ha10) kV_X6_21 g9 (trivial) dX6_readSetting_96 hl.1 rfl rfl (by decide) cd_X9_isWord ⟨Nat.le_of_ble_eq_true rfl, Nat.le_of_ble_eq_true rfl, Nat.le_of_ble_eq_true rfl, Nat.le_of_ble_eq_true rfl, Nat.le_of_ble_eq_true rfl⟩ (fun v11 q11 => ?_)
      refine lv_if_eq (tgt := 135) hx hb dX6_readSetting_99 (by decide) (fun c12 => ?_) (fun c12 => ?_)
      · have b12 : v11.toInt = (0 : Int32).toInt := i_eq.mp c12
        refine lv_aload_n hx hb dX6_readSetting_135 rfl (lv_at hl 0 rfl) ?_
        refine q_grS (T := TX6) C S.1 ga0 0 kF_X6_15 dX6_readSetting_136 rfl rfl (by decide) rfl (by decide) kSF_X6_tape (fun g13 => ?_)
        refine q_lds C ks_X6_166 dX6_readSetting_139 (fun a14 ha14 wa14 => ?_)
        refine callV_Pi C S.1 S.2.1.2.1 (c_X9_isWord l D G (fR D s.heap 6 a0 0) a14 3 g13 ha14) kV_X6_21 g13 (trivial) dX6_readSetting_141 hl.1 rfl rfl (by decide) cd_X9_isWord ⟨Nat.le_of_ble_eq_true rfl, Nat.le_of_ble_eq_true rfl, Nat.le_of_ble_eq_true rfl, Nat.le_of_ble_eq_true rfl, Nat.le_of_ble_eq_true rfl⟩ (fun v15 q15 => ?_)
        refine lv_if_eq (tgt := 180) hx hb dX6_readSetting_144 (by decide) (fun c16 => ?_) (fun c16 => ?_)
        · have b16 : v15.toInt = (0 : Int32).toInt := i_eq.mp c16
          refine lv_aload_n hx hb dX6_readSetting_180 rfl (lv_at hl 0 rfl) ?_
          refine q_grS (T := TX6) C S.1 ga0 0 kF_X6_15 dX6_readSetting_181 rfl rfl (by decide) rfl (by decide) kSF_X6_tape (fun g17 => ?_)
          refine q_lds C ks_X6_170 dX6_readSetting_184 (fun a18 ha18 wa18 => ?_)
          refine callV_Pi C S.1 S.2.1.2.1 (c_X9_isWord l D G (fR D s.heap 6 a0 0) a18 7 g17 ha18) kV_X6_21 g17 (trivial) dX6_readSetting_186 hl.1 rfl rfl (by decide) cd_X9_isWord ⟨Nat.le_of_ble_eq_true rfl, Nat.le_of_ble_eq_true rfl, Nat.le_of_ble_eq_true rfl, Nat.le_of_ble_eq_true rfl, Nat.le_of_ble_eq_true rfl⟩ (fun v19 q19 => ?_)
          refine lv_if_eq (tgt := 226) hx hb dX6_readSetting_189 (by decide) (fun c20 => ?_) (fun c20 => ?_)
          · have b20 : v19.toInt = (0 : Int32).toInt := i_eq.mp c20
            refine lv_aload_n hx hb dX6_readSetting_226 rfl (lv_at hl 0 rfl) ?_
            refine q_grS (T := TX6) C S.1 ga0 0 kF_X6_15 dX6_readSetting_227 rfl rfl (by decide) rfl (by decide) kSF_X6_tape (fun g21 => ?_)
            refine callV_Ei C S (c_X9_refuse l D G (fR D s.heap 6 a0 0) g21) kV_X6_50 g21 (trivial) (by decide +kernel) dX6_readSetting_230 hl.1 rfl rfl (by decide) cd_X9_refuse ⟨Nat.le_of_ble_eq_true rfl, Nat.le_of_ble_eq_true rfl, Nat.le_of_ble_eq_true rfl, Nat.le_of_ble_eq_true rfl, Nat.le_of_ble_eq_true rfl⟩ (fun v22 H22 L22 S22 K22 q22 => ?_)
            have tk22 : Gd D G s.heap → Gd D G H22 := fun h9  => (tk0 h9).keep K22 (by decide +kernel)
            exact retE_z hQ C S22 hr dX6_readSetting_233 (z01 (by omega) (by omega)) (⟨by omega, fun _ h9 => tk22 h9⟩)
          · have b20 : ¬ v19.toInt = (0 : Int32).toInt := fun z9 => c20 (i_eq.mpr z9)
            refine lv_aload_n hx hb dX6_readSetting_192 rfl (lv_at hl 0 rfl) ?_
            refine q_grD (T := TX6) C S.1 ga0 2 kF_X6_11 dX6_readSetting_193 rfl rfl (by decide) rfl (by decide) rfl (fun g23 => ?_)
            replace g23 : G (fR D s.heap 6 a0 2) = 23 := by rw [S.2.1.fR ga0 rfl (by decide) (by decide +kernel)]; exact hpre
            refine lv_aload_n hx hb dX6_readSetting_196 rfl (lv_at hl 0 rfl) ?_
            refine q_lds C ks_X6_170 dX6_readSetting_197 (fun a24 ha24 wa24 => ?_)
            refine lv_iconst (v := 0) hx hb dX6_readSetting_199 (by decide) ?_
            refine lv_sipush (v := 999) hx hb dX6_readSetting_200 (by decide) ?_
            have k_999 : (999 : Int32).toInt = 999 := by decide
            refine callV_Ei C S (c_X6_numberAfter l D G a0 a24 7 (0 : Int32) (999 : Int32) ga0 ha24) kV_X6_57 ga0 (trivial) (by decide +kernel) dX6_readSetting_203 hl.1 rfl rfl (by decide) cd_X6_numberAfter ⟨Nat.le_of_ble_eq_true rfl, Nat.le_of_ble_eq_true rfl, Nat.le_of_ble_eq_true rfl, Nat.le_of_ble_eq_true rfl, Nat.le_of_ble_eq_true rfl⟩ (fun v25 H25 L25 S25 K25 q25 => ?_)
            have tk25 : Gd D G s.heap → Gd D G H25 := fun h9  => (tk0 h9).keep K25 (by decide +kernel)
            refine q_put (T := TX5) C S25 g23 10 kF_X6_172 dX6_readSetting_206 rfl rfl (by decide) (by decide) rfl rfl rfl rfl rfl (vok_a rfl) (by decide +kernel) (fun H26 L26 S26 P26 => ?_)
            have tk26 : Gd D G s.heap → Gd D G H26 := fun h9  => (tk25 h9).put g23 P26 (Or.inl (by decide))
            refine lv_aload_n hx hb dX6_readSetting_209 rfl (lv_at hl 0 rfl) ?_
            refine q_grD (T := TX6) C S26.1 ga0 2 kF_X6_11 dX6_readSetting_210 rfl rfl (by decide) rfl (by decide) rfl (fun g27 => ?_)
            replace g27 : G (fR D H26 6 a0 2) = 23 := by rw [S26.2.1.fR ga0 rfl (by decide) (by decide +kernel)]; exact hpre
            refine q_gi (T := TX5) C S26.1 g27 10 kF_X6_172 dX6_readSetting_213 rfl rfl (by decide) rfl (by decide) rfl ?_
            refine lv_iconst (v := -1) hx hb dX6_readSetting_216 (by decide) ?_
            have k_m1 : (-1 : Int32).toInt = -1 := by decide
            refine lv_icmp_eq (tgt := 224) hx hb dX6_readSetting_217 (by decide) (fun c28 => ?_) (fun c28 => ?_)
            · have b28 : (fI D H26 5 (fR D H26 6 a0 2) 10).toInt = (-1 : Int32).toInt := i_eq.mp c28
              refine lv_iconst (v := 0) hx hb dX6_readSetting_224 (by decide) ?_
              exact retE_z hQ C S26 hr dX6_readSetting_225 (z01 (by omega) (by omega)) (⟨by omega, fun _ h9 => tk26 h9⟩)
            · have b28 : ¬ (fI D H26 5 (fR D H26 6 a0 2) 10).toInt = (-1 : Int32).toInt := fun z9 => c28 (i_eq.mpr z9)
              refine lv_iconst (v := 1) hx hb dX6_readSetting_220 (by decide) ?_
              refine lv_goto (tgt := 225) hx hb dX6_readSetting_221 (by decide) ?_
              have k_1 : (1 : Int32).toInt = 1 := by decide
              exact retE_z hQ C S26 hr dX6_readSetting_225 (z01 (by omega) (by omega)) (⟨by omega, fun _ h9 => tk26 h9⟩)
        · have b16 : ¬ v15.toInt = (0 : Int32).toInt := fun z9 => c16 (i_eq.mpr z9)
          refine lv_aload_n hx hb dX6_readSetting_147 rfl (lv_at hl 0 rfl) ?_
          refine q_grD (T := TX6) C S.1 ga0 2 kF_X6_11 dX6_readSetting_148 rfl rfl (by decide) rfl (by decide) rfl (fun g29 => ?_)
          replace g29 : G (fR D s.heap 6 a0 2) = 23 := by rw [S.2.1.fR ga0 rfl (by decide) (by decide +kernel)]; exact hpre
          refine lv_aload_n hx hb dX6_readSetting_151 rfl (lv_at hl 0 rfl) ?_
          refine q_lds C ks_X6_166 dX6_readSetting_152 (fun a30 ha30 wa30 => ?_)
          refine lv_iconst (v := 0) hx hb dX6_readSetting_154 (by decide) ?_
          refine lv_bipush (v := 20) hx hb dX6_readSetting_155 (by decide) ?_
          have k_20 : (20 : Int32).toInt = 20 := by decide
          refine callV_Ei C S (c_X6_numberAfter l D G a0 a30 3 (0 : Int32) (20 : Int32) ga0 ha30) kV_X6_57 ga0 (trivial) (by decide +kernel) dX6_readSetting_157 hl.1 rfl rfl (by decide) cd_X6_numberAfter ⟨Nat.le_of_ble_eq_true rfl, Nat.le_of_ble_eq_true rfl, Nat.le_of_ble_eq_true rfl, Nat.le_of_ble_eq_true rfl, Nat.le_of_ble_eq_true rfl⟩ (fun v31 H31 L31 S31 K31 q31 => ?_)
          have tk31 : Gd D G s.heap → Gd D G H31 := fun h9  => (tk0 h9).keep K31 (by decide +kernel)
          refine q_put (T := TX5) C S31 g29 9 kF_X6_168 dX6_readSetting_160 rfl rfl (by decide) (by decide) rfl rfl rfl rfl rfl (vok_a rfl) (by decide +kernel) (fun H32 L32 S32 P32 => ?_)
          have tk32 : Gd D G s.heap → Gd D G H32 := fun h9  => (tk31 h9).put g29 P32 (Or.inl (by decide))
          refine lv_aload_n hx hb dX6_readSetting_163 rfl (lv_at hl 0 rfl) ?_
          refine q_grD (T := TX6) C S32.1 ga0 2 kF_X6_11 dX6_readSetting_164 rfl rfl (by decide) rfl (by decide) rfl (fun g33 => ?_)
          replace g33 : G (fR D H32 6 a0 2) = 23 := by rw [S32.2.1.fR ga0 rfl (by decide) (by decide +kernel)]; exact hpre
          refine q_gi (T := TX5) C S32.1 g33 9 kF_X6_168 dX6_readSetting_167 rfl rfl (by decide) rfl (by decide) rfl ?_
          refine lv_iconst (v := -1) hx hb dX6_readSetting_170 (by decide) ?_
          have k_m1 : (-1 : Int32).toInt = -1 := by decide
          refine lv_icmp_eq (tgt := 178) hx hb dX6_readSetting_171 (by decide) (fun c34 => ?_) (fun c34 => ?_)
          · have b34 : (fI D H32 5 (fR D H32 6 a0 2) 9).toInt = (-1 : Int32).toInt := i_eq.mp c34
            refine lv_iconst (v := 0) hx hb dX6_readSetting_178 (by decide) ?_
            exact retE_z hQ C S32 hr dX6_readSetting_179 (z01 (by omega) (by omega)) (⟨by omega, fun _ h9 => tk32 h9⟩)
          · have b34 : ¬ (fI D H32 5 (fR D H32 6 a0 2) 9).toInt = (-1 : Int32).toInt := fun z9 => c34 (i_eq.mpr z9)
            refine lv_iconst (v := 1) hx hb dX6_readSetting_174 (by decide) ?_
            refine lv_goto (tgt := 179) hx hb dX6_readSetting_175 (by decide) ?_
            have k_1 : (1 : Int32).toInt = 1 := by decide
            exact retE_z hQ C S32 hr dX6_readSetting_179 (z01 (by omega) (by omega)) (⟨by omega, fun _ h9 => tk32 h9⟩)
      · have b12 : ¬ v11.toInt = (0 : Int32).toInt := fun z9 => c12 (i_eq.mpr z9)
        refine lv_aload_n hx hb dX6_readSetting_102 rfl (lv_at hl 0 rfl) ?_
        refine q_grD (T := TX6) C S.1 ga0 2 kF_X6_11 dX6_readSetting_103 rfl rfl (by decide) rfl (by decide) rfl (fun g35 => ?_)
        replace g35 : G (fR D s.heap 6 a0 2) = 23 := by rw [S.2.1.fR ga0 rfl (by decide) (by decide +kernel)]; exact hpre
        refine lv_aload_n hx hb dX6_readSetting_106 rfl (lv_at hl 0 rfl) ?_
        refine q_lds C ks_X6_162 dX6_readSetting_107 (fun a36 ha36 wa36 => ?_)
        refine lv_iconst (v := 0) hx hb dX6_readSetting_109 (by decide) ?_
        refine lv_bipush (v := 100) hx hb dX6_readSetting_110 (by decide) ?_
        have k_100 : (100 : Int32).toInt = 100 := by decide
        refine callV_Ei C S (c_X6_numberAfter l D G a0 a36 5 (0 : Int32) (100 : Int32) ga0 ha36) kV_X6_57 ga0 (trivial) (by decide +kernel) dX6_readSetting_112 hl.1 rfl rfl (by decide) cd_X6_numberAfter ⟨Nat.le_of_ble_eq_true rfl, Nat.le_of_ble_eq_true rfl, Nat.le_of_ble_eq_true rfl, Nat.le_of_ble_eq_true rfl, Nat.le_of_ble_eq_true rfl⟩ (fun v37 H37 L37 S37 K37 q37 => ?_)
        have tk37 : Gd D G s.heap → Gd D G H37 := fun h9  => (tk0 h9).keep K37 (by decide +kernel)
        refine q_put (T := TX5) C S37 g35 8 kF_X6_164 dX6_readSetting_115 rfl rfl (by decide) (by decide) rfl rfl rfl rfl rfl (vok_a rfl) (by decide +kernel) (fun H38 L38 S38 P38 => ?_)
        have tk38 : Gd D G s.heap → Gd D G H38 := fun h9  => (tk37 h9).put g35 P38 (Or.inl (by decide))
        refine lv_aload_n hx hb dX6_readSetting_118 rfl (lv_at hl 0 rfl) ?_
        refine q_grD (T := TX6) C S38.1 ga0 2 kF_X6_11 dX6_readSetting_119 rfl rfl (by decide) rfl (by decide) rfl (fun g39 => ?_)
        replace g39 : G (fR D H38 6 a0 2) = 23 := by rw [S38.2.1.fR ga0 rfl (by decide) (by decide +kernel)]; exact hpre
        refine q_gi (T := TX5) C S38.1 g39 8 kF_X6_164 dX6_readSetting_122 rfl rfl (by decide) rfl (by decide) rfl ?_
        refine lv_iconst (v := -1) hx hb dX6_readSetting_125 (by decide) ?_
        have k_m1 : (-1 : Int32).toInt = -1 := by decide
        refine lv_icmp_eq (tgt := 133) hx hb dX6_readSetting_126 (by decide) (fun c40 => ?_) (fun c40 => ?_)
        · have b40 : (fI D H38 5 (fR D H38 6 a0 2) 8).toInt = (-1 : Int32).toInt := i_eq.mp c40
          refine lv_iconst (v := 0) hx hb dX6_readSetting_133 (by decide) ?_
          exact retE_z hQ C S38 hr dX6_readSetting_134 (z01 (by omega) (by omega)) (⟨by omega, fun _ h9 => tk38 h9⟩)
        · have b40 : ¬ (fI D H38 5 (fR D H38 6 a0 2) 8).toInt = (-1 : Int32).toInt := fun z9 => c40 (i_eq.mpr z9)
          refine lv_iconst (v := 1) hx hb dX6_readSetting_129 (by decide) ?_
          refine lv_goto (tgt := 134) hx hb dX6_readSetting_130 (by decide) ?_
          have k_1 : (1 : Int32).toInt = 1 := by decide
          exact retE_z hQ C S38 hr dX6_readSetting_134 (z01 (by omega) (by omega)) (⟨by omega, fun _ h9 => tk38 h9⟩)
    · have b8 : ¬ v7.toInt = (0 : Int32).toInt := fun z9 => c8 (i_eq.mpr z9)
      refine lv_aload_n hx hb dX6_readSetting_57 rfl (lv_at hl 0 rfl) ?_
      refine q_grD (T := TX6) C S.1 ga0 2 kF_X6_11 dX6_readSetting_58 rfl rfl (by decide) rfl (by decide) rfl (fun g41 => ?_)
      replace g41 : G (fR D s.heap 6 a0 2) = 23 := by rw [S.2.1.fR ga0 rfl (by decide) (by decide +kernel)]; exact hpre
      refine lv_aload_n hx hb dX6_readSetting_61 rfl (lv_at hl 0 rfl) ?_
      refine q_lds C ks_X6_158 dX6_readSetting_62 (fun a42 ha42 wa42 => ?_)
      refine lv_iconst (v := 0) hx hb dX6_readSetting_64 (by decide) ?_
      refine lv_bipush (v := 50) hx hb dX6_readSetting_65 (by decide) ?_
      have k_50 : (50 : Int32).toInt = 50 := by decide
      refine callV_Ei C S (c_X6_numberAfter l D G a0 a42 4 (0 : Int32) (50 : Int32) ga0 ha42) kV_X6_57 ga0 (trivial) (by decide +kernel) dX6_readSetting_67 hl.1 rfl rfl (by decide) cd_X6_numberAfter ⟨Nat.le_of_ble_eq_true rfl, Nat.le_of_ble_eq_true rfl, Nat.le_of_ble_eq_true rfl, Nat.le_of_ble_eq_true rfl, Nat.le_of_ble_eq_true rfl⟩ (fun v43 H43 L43 S43 K43 q43 => ?_)
      have tk43 : Gd D G s.heap → Gd D G H43 := fun h9  => (tk0 h9).keep K43 (by decide +kernel)
      refine q_put (T := TX5) C S43 g41 7 kF_X6_160 dX6_readSetting_70 rfl rfl (by decide) (by decide) rfl rfl rfl rfl rfl (vok_a rfl) (by decide +kernel) (fun H44 L44 S44 P44 => ?_)
      have tk44 : Gd D G s.heap → Gd D G H44 := fun h9  => (tk43 h9).put g41 P44 (Or.inl (by decide))
      refine lv_aload_n hx hb dX6_readSetting_73 rfl (lv_at hl 0 rfl) ?_
      refine q_grD (T := TX6) C S44.1 ga0 2 kF_X6_11 dX6_readSetting_74 rfl rfl (by decide) rfl (by decide) rfl (fun g45 => ?_)
      replace g45 : G (fR D H44 6 a0 2) = 23 := by rw [S44.2.1.fR ga0 rfl (by decide) (by decide +kernel)]; exact hpre
      refine q_gi (T := TX5) C S44.1 g45 7 kF_X6_160 dX6_readSetting_77 rfl rfl (by decide) rfl (by decide) rfl ?_
      refine lv_iconst (v := -1) hx hb dX6_readSetting_80 (by decide) ?_
      have k_m1 : (-1 : Int32).toInt = -1 := by decide
      refine lv_icmp_eq (tgt := 88) hx hb dX6_readSetting_81 (by decide) (fun c46 => ?_) (fun c46 => ?_)
      · have b46 : (fI D H44 5 (fR D H44 6 a0 2) 7).toInt = (-1 : Int32).toInt := i_eq.mp c46
        refine lv_iconst (v := 0) hx hb dX6_readSetting_88 (by decide) ?_
        exact retE_z hQ C S44 hr dX6_readSetting_89 (z01 (by omega) (by omega)) (⟨by omega, fun _ h9 => tk44 h9⟩)
      · have b46 : ¬ (fI D H44 5 (fR D H44 6 a0 2) 7).toInt = (-1 : Int32).toInt := fun z9 => c46 (i_eq.mpr z9)
        refine lv_iconst (v := 1) hx hb dX6_readSetting_84 (by decide) ?_
        refine lv_goto (tgt := 89) hx hb dX6_readSetting_85 (by decide) ?_
        have k_1 : (1 : Int32).toInt = 1 := by decide
        exact retE_z hQ C S44 hr dX6_readSetting_89 (z01 (by omega) (by omega)) (⟨by omega, fun _ h9 => tk44 h9⟩)
  · have b4 : ¬ v3.toInt = (0 : Int32).toInt := fun z9 => c4 (i_eq.mpr z9)
    refine lv_aload_n hx hb dX6_readSetting_12 rfl (lv_at hl 0 rfl) ?_
    refine q_grD (T := TX6) C S.1 ga0 2 kF_X6_11 dX6_readSetting_13 rfl rfl (by decide) rfl (by decide) rfl (fun g47 => ?_)
    replace g47 : G (fR D s.heap 6 a0 2) = 23 := by rw [S.2.1.fR ga0 rfl (by decide) (by decide +kernel)]; exact hpre
    refine lv_aload_n hx hb dX6_readSetting_16 rfl (lv_at hl 0 rfl) ?_
    refine q_lds C ks_X6_154 dX6_readSetting_17 (fun a48 ha48 wa48 => ?_)
    refine lv_iconst (v := 0) hx hb dX6_readSetting_19 (by decide) ?_
    refine lv_bipush (v := 20) hx hb dX6_readSetting_20 (by decide) ?_
    have k_20 : (20 : Int32).toInt = 20 := by decide
    refine callV_Ei C S (c_X6_numberAfter l D G a0 a48 4 (0 : Int32) (20 : Int32) ga0 ha48) kV_X6_57 ga0 (trivial) (by decide +kernel) dX6_readSetting_22 hl.1 rfl rfl (by decide) cd_X6_numberAfter ⟨Nat.le_of_ble_eq_true rfl, Nat.le_of_ble_eq_true rfl, Nat.le_of_ble_eq_true rfl, Nat.le_of_ble_eq_true rfl, Nat.le_of_ble_eq_true rfl⟩ (fun v49 H49 L49 S49 K49 q49 => ?_)
    have tk49 : Gd D G s.heap → Gd D G H49 := fun h9  => (tk0 h9).keep K49 (by decide +kernel)
    refine q_put (T := TX5) C S49 g47 6 kF_X6_156 dX6_readSetting_25 rfl rfl (by decide) (by decide) rfl rfl rfl rfl rfl (vok_a rfl) (by decide +kernel) (fun H50 L50 S50 P50 => ?_)
    have tk50 : Gd D G s.heap → Gd D G H50 := fun h9  => (tk49 h9).put g47 P50 (Or.inl (by decide))
    refine lv_aload_n hx hb dX6_readSetting_28 rfl (lv_at hl 0 rfl) ?_
    refine q_grD (T := TX6) C S50.1 ga0 2 kF_X6_11 dX6_readSetting_29 rfl rfl (by decide) rfl (by decide) rfl (fun g51 => ?_)
    replace g51 : G (fR D H50 6 a0 2) = 23 := by rw [S50.2.1.fR ga0 rfl (by decide) (by decide +kernel)]; exact hpre
    refine q_gi (T := TX5) C S50.1 g51 6 kF_X6_156 dX6_readSetting_32 rfl rfl (by decide) rfl (by decide) rfl ?_
    refine lv_iconst (v := -1) hx hb dX6_readSetting_35 (by decide) ?_
    have k_m1 : (-1 : Int32).toInt = -1 := by decide
    refine lv_icmp_eq (tgt := 43) hx hb dX6_readSetting_36 (by decide) (fun c52 => ?_) (fun c52 => ?_)
    · have b52 : (fI D H50 5 (fR D H50 6 a0 2) 6).toInt = (-1 : Int32).toInt := i_eq.mp c52
      refine lv_iconst (v := 0) hx hb dX6_readSetting_43 (by decide) ?_
      exact retE_z hQ C S50 hr dX6_readSetting_44 (z01 (by omega) (by omega)) (⟨by omega, fun _ h9 => tk50 h9⟩)
    · have b52 : ¬ (fI D H50 5 (fR D H50 6 a0 2) 6).toInt = (-1 : Int32).toInt := fun z9 => c52 (i_eq.mpr z9)
      refine lv_iconst (v := 1) hx hb dX6_readSetting_39 (by decide) ?_
      refine lv_goto (tgt := 44) hx hb dX6_readSetting_40 (by decide) ?_
      have k_1 : (1 : Int32).toInt = 1 := by decide
      exact retE_z hQ C S50 hr dX6_readSetting_44 (z01 (by omega) (by omega)) (⟨by omega, fun _ h9 => tk50 h9⟩)

set_option maxRecDepth 100000 in
set_option maxHeartbeats 4000000 in
theorem c_X6_readLine (l : Launch) (D : DD) (G : Nat → Nat) (a0 : Nat) (ga0 : G a0 = 20) : CE l D G yX6_readLine cX6_readLine 1 (some .boolean) 8 [.ref a0] (fun H => G (fR D H 6 a0 2) = 23) [(2, 3), (2, 4), (2, 5), (2, 6), (2, 2), (7, 0), (7, 1), (7, 2), (7, 3), (7, 4), (23, 3), (25, 0), (25, 1), (25, 2), (25, 3), (25, 4), (25, 5), (23, 4), (23, 6), (23, 7), (23, 8), (23, 9), (23, 10)] (xI (fun H r H1 => (0 ≤ r.toInt ∧ r.toInt ≤ 1) ∧ (r.toInt = 1 → Gd D G H → Gd D G H1))) := by
  refine enter (by decide) (Nat.le_of_ble_eq_true rfl) ?_
  intro p e s m args below meth c ls Q hA hQ C hr hO hpre hl
  have hx := C.1
  have hb := C.2.1
  have S : Sd D G [(2, 3), (2, 4), (2, 5), (2, 6), (2, 2), (7, 0), (7, 1), (7, 2), (7, 3), (7, 4), (23, 3), (25, 0), (25, 1), (25, 2), (25, 3), (25, 4), (25, 5), (23, 4), (23, 6), (23, 7), (23, 8), (23, 9), (23, 10)] s.heap s.heap [] := Sd.start hO
  have hl : lv_has ls 1 [(0, .ref a0)] := hl
  have tk0 : Gd D G s.heap → Gd D G s.heap := fun h => h
  refine lv_aload_n hx hb dX6_readLine_0 rfl (lv_at hl 0 rfl) ?_
  refine q_grS (T := TX6) C S.1 ga0 0 kF_X6_15 dX6_readLine_1 rfl rfl (by decide) rfl (by decide) kSF_X6_tape (fun g1 => ?_)
  refine q_lds C ks_X6_19 dX6_readLine_4 (fun a2 ha2 wa2 => ?_)
  refine callV_Pi C S.1 S.2.1.2.1 (c_X9_isWord l D G (fR D s.heap 6 a0 0) a2 5 g1 ha2) kV_X6_21 g1 (trivial) dX6_readLine_6 hl.1 rfl rfl (by decide) cd_X9_isWord ⟨Nat.le_of_ble_eq_true rfl, Nat.le_of_ble_eq_true rfl, Nat.le_of_ble_eq_true rfl, Nat.le_of_ble_eq_true rfl, Nat.le_of_ble_eq_true rfl⟩ (fun v3 q3 => ?_)
  have k_0 : (0 : Int32).toInt = 0 := by decide
  refine lv_if_eq (tgt := 17) hx hb dX6_readLine_9 (by decide) (fun c4 => ?_) (fun c4 => ?_)
  · have b4 : v3.toInt = (0 : Int32).toInt := i_eq.mp c4
    refine lv_aload_n hx hb dX6_readLine_17 rfl (lv_at hl 0 rfl) ?_
    refine q_grS (T := TX6) C S.1 ga0 0 kF_X6_15 dX6_readLine_18 rfl rfl (by decide) rfl (by decide) kSF_X6_tape (fun g5 => ?_)
    refine q_lds C ks_X6_31 dX6_readLine_21 (fun a6 ha6 wa6 => ?_)
    refine callV_Pi C S.1 S.2.1.2.1 (c_X9_isWord l D G (fR D s.heap 6 a0 0) a6 4 g5 ha6) kV_X6_21 g5 (trivial) dX6_readLine_23 hl.1 rfl rfl (by decide) cd_X9_isWord ⟨Nat.le_of_ble_eq_true rfl, Nat.le_of_ble_eq_true rfl, Nat.le_of_ble_eq_true rfl, Nat.le_of_ble_eq_true rfl, Nat.le_of_ble_eq_true rfl⟩ (fun v7 q7 => ?_)
    refine lv_if_eq (tgt := 34) hx hb dX6_readLine_26 (by decide) (fun c8 => ?_) (fun c8 => ?_)
    · have b8 : v7.toInt = (0 : Int32).toInt := i_eq.mp c8
      refine lv_aload_n hx hb dX6_readLine_34 rfl (lv_at hl 0 rfl) ?_
      refine q_grS (T := TX6) C S.1 ga0 0 kF_X6_15 dX6_readLine_35 rfl rfl (by decide) rfl (by decide) kSF_X6_tape (fun g9 => ?_)
      refine q_lds C ks_X6_36 dX6_readLine_38 (fun a10 ha10 wa10 => ?_)
      refine callV_Pi C S.1 S.2.1.2.1 (c_X9_isWord l D G (fR D s.heap 6 a0 0) a10 6 g9 ha10) kV_X6_21 g9 (trivial) dX6_readLine_40 hl.1 rfl rfl (by decide) cd_X9_isWord ⟨Nat.le_of_ble_eq_true rfl, Nat.le_of_ble_eq_true rfl, Nat.le_of_ble_eq_true rfl, Nat.le_of_ble_eq_true rfl, Nat.le_of_ble_eq_true rfl⟩ (fun v11 q11 => ?_)
      refine lv_if_eq (tgt := 51) hx hb dX6_readLine_43 (by decide) (fun c12 => ?_) (fun c12 => ?_)
      · have b12 : v11.toInt = (0 : Int32).toInt := i_eq.mp c12
        refine lv_aload_n hx hb dX6_readLine_51 rfl (lv_at hl 0 rfl) ?_
        refine callV_Ei C S (c_X6_readSetting l D G a0 ga0) kV_X6_41 ga0 (by rw [S.2.1.fR ga0 rfl (by decide) (by decide +kernel)]; exact hpre) (by decide +kernel) dX6_readLine_52 hl.1 rfl rfl (by decide) cd_X6_readSetting ⟨Nat.le_of_ble_eq_true rfl, Nat.le_of_ble_eq_true rfl, Nat.le_of_ble_eq_true rfl, Nat.le_of_ble_eq_true rfl, Nat.le_of_ble_eq_true rfl⟩ (fun v13 H13 L13 S13 K13 q13 => ?_)
        obtain ⟨q13, tq13⟩ := q13
        have tk13 : Gd D G s.heap → (v13.toInt = 1) → Gd D G H13 := fun h9 k90 => tq13 k90 (tk0 h9)
        exact retE_z hQ C S13 hr dX6_readLine_55 (z01 (by omega) (by omega)) (⟨by omega, fun _ h9 => tk13 h9 (by omega)⟩)
      · have b12 : ¬ v11.toInt = (0 : Int32).toInt := fun z9 => c12 (i_eq.mpr z9)
        refine lv_aload_n hx hb dX6_readLine_46 rfl (lv_at hl 0 rfl) ?_
        refine callV_Ei C S (c_X6_readHearth l D G a0 ga0) kV_X6_38 ga0 (by rw [S.2.1.fR ga0 rfl (by decide) (by decide +kernel)]; exact hpre) (by decide +kernel) dX6_readLine_47 hl.1 rfl rfl (by decide) cd_X6_readHearth ⟨Nat.le_of_ble_eq_true rfl, Nat.le_of_ble_eq_true rfl, Nat.le_of_ble_eq_true rfl, Nat.le_of_ble_eq_true rfl, Nat.le_of_ble_eq_true rfl⟩ (fun v14 H14 L14 S14 K14 q14 => ?_)
        obtain ⟨q14, tq14⟩ := q14
        have tk14 : Gd D G s.heap → (v14.toInt = 1) → Gd D G H14 := fun h9 k90 => tq14 k90 (tk0 h9)
        exact retE_z hQ C S14 hr dX6_readLine_50 (z01 (by omega) (by omega)) (⟨by omega, fun _ h9 => tk14 h9 (by omega)⟩)
    · have b8 : ¬ v7.toInt = (0 : Int32).toInt := fun z9 => c8 (i_eq.mpr z9)
      refine lv_aload_n hx hb dX6_readLine_29 rfl (lv_at hl 0 rfl) ?_
      refine callV_Ei C S (c_X6_readSees l D G a0 ga0) kV_X6_33 ga0 (by rw [S.2.1.fR ga0 rfl (by decide) (by decide +kernel)]; exact hpre) (by decide +kernel) dX6_readLine_30 hl.1 rfl rfl (by decide) cd_X6_readSees ⟨Nat.le_of_ble_eq_true rfl, Nat.le_of_ble_eq_true rfl, Nat.le_of_ble_eq_true rfl, Nat.le_of_ble_eq_true rfl, Nat.le_of_ble_eq_true rfl⟩ (fun v15 H15 L15 S15 K15 q15 => ?_)
      obtain ⟨q15, tq15⟩ := q15
      have tk15 : Gd D G s.heap → (v15.toInt = 1) → Gd D G H15 := fun h9 k90 => tq15 k90 (tk0 h9)
      exact retE_z hQ C S15 hr dX6_readLine_33 (z01 (by omega) (by omega)) (⟨by omega, fun _ h9 => tk15 h9 (by omega)⟩)
  · have b4 : ¬ v3.toInt = (0 : Int32).toInt := fun z9 => c4 (i_eq.mpr z9)
    refine lv_aload_n hx hb dX6_readLine_12 rfl (lv_at hl 0 rfl) ?_
    refine callV_Ei C S (c_X6_readHouse l D G a0 ga0) kV_X6_27 ga0 (by rw [S.2.1.fR ga0 rfl (by decide) (by decide +kernel)]; exact hpre) (by decide +kernel) dX6_readLine_13 hl.1 rfl rfl (by decide) cd_X6_readHouse ⟨Nat.le_of_ble_eq_true rfl, Nat.le_of_ble_eq_true rfl, Nat.le_of_ble_eq_true rfl, Nat.le_of_ble_eq_true rfl, Nat.le_of_ble_eq_true rfl⟩ (fun v16 H16 L16 S16 K16 q16 => ?_)
    obtain ⟨q16, tq16⟩ := q16
    have tk16 : Gd D G s.heap → (v16.toInt = 1) → Gd D G H16 := fun h9 k90 => tq16 k90 (tk0 h9)
    exact retE_z hQ C S16 hr dX6_readLine_16 (z01 (by omega) (by omega)) (⟨by omega, fun _ h9 => tk16 h9 (by omega)⟩)

set_option maxRecDepth 100000 in
set_option maxHeartbeats 4000000 in
theorem c_X10_readLines_p (l : Launch) (D : DD) (G : Nat → Nat) (a0 : Nat) (ga0 : G a0 = 20) : CE l D G yX10_readLines cX10_readLines 2 (some .boolean) 9 [.ref a0] (fun H => G (fR D H 6 a0 2) = 23) [(2, 3), (2, 4), (2, 5), (2, 6), (2, 2), (7, 0), (7, 1), (7, 2), (7, 3), (7, 4), (23, 3), (25, 0), (25, 1), (25, 2), (25, 3), (25, 4), (25, 5), (23, 4), (23, 6), (23, 7), (23, 8), (23, 9), (23, 10)] (xI (fun H r H1 => (0 ≤ r.toInt ∧ r.toInt ≤ 1) ∧ (r.toInt = 1 → Gd D G H → Gd D G H1))) := by
  refine enter (by decide) (Nat.le_of_ble_eq_true rfl) ?_
  intro p e s m args below meth c ls Q hA hQ C hr hO hpre hl
  have hx := C.1
  have hb := C.2.1
  have S : Sd D G [(2, 3), (2, 4), (2, 5), (2, 6), (2, 2), (7, 0), (7, 1), (7, 2), (7, 3), (7, 4), (23, 3), (25, 0), (25, 1), (25, 2), (25, 3), (25, 4), (25, 5), (23, 4), (23, 6), (23, 7), (23, 8), (23, 9), (23, 10)] s.heap s.heap [] := Sd.start hO
  have hl : lv_has ls 2 [(0, .ref a0)] := hl
  have tk0 : Gd D G s.heap → Gd D G s.heap := fun h => h
  refine lv_aload_n hx hb dX10_readLines_0 rfl (lv_at hl 0 rfl) ?_
  refine q_gr (T := TX6) C S.1 ga0 0 kF_X10_7 dX10_readLines_1 rfl rfl (by decide) rfl (by decide) rfl (fun g1 => ?_)
  refine callV_Ev C S (c_X9_rewind l D G (fR D s.heap 6 a0 0) g1) kV_X10_17 g1 (trivial) (by decide +kernel) dX10_readLines_4 hl.1 rfl rfl (by decide) cd_X9_rewind ⟨Nat.le_of_ble_eq_true rfl, Nat.le_of_ble_eq_true rfl, Nat.le_of_ble_eq_true rfl, Nat.le_of_ble_eq_true rfl, Nat.le_of_ble_eq_true rfl⟩ (fun H2 L2 S2 K2 q2 => ?_)
  have tk2 : Gd D G s.heap → Gd D G H2 := fun h9  => (tk0 h9).keep K2 (by decide +kernel)
  refine lv_aload_n hx hb dX10_readLines_7 rfl (lv_at hl 0 rfl) ?_
  refine q_gr (T := TX6) C S2.1 ga0 0 kF_X10_7 dX10_readLines_8 rfl rfl (by decide) rfl (by decide) rfl (fun g3 => ?_)
  refine q_gi (T := TX9) C S2.1 g3 3 kF_X10_22 dX10_readLines_11 rfl rfl (by decide) rfl (by decide) rfl ?_
  have k_0 : (0 : Int32).toInt = 0 := by decide
  refine lv_if_ne (tgt := 19) hx hb dX10_readLines_14 (by decide) (fun c4 => ?_) (fun c4 => ?_)
  · have b4 : ¬ (fI D H2 9 (fR D H2 6 a0 0) 3).toInt = (0 : Int32).toInt := fun z9 => c4 (i_eq.mpr z9)
    refine lv_iconst (v := 0) hx hb dX10_readLines_19 (by decide) ?_
    refine lv_istore_n (lv' := [(1, .int (0 : Int32)), (0, .ref a0)]) hx hb dX10_readLines_20 rfl hl (by decide) rfl (fun ls hl => ?_)
    have Lp21 : ∀ (n : Nat) (x1_21 : Int32) (H_21 : Heap) (L_21 : List Loc) (ls : Array Slot), (Sd D G [(2, 3), (2, 4), (2, 5), (2, 6), (2, 2), (7, 0), (7, 1), (7, 2), (7, 3), (7, 4), (23, 3), (25, 0), (25, 1), (25, 2), (25, 3), (25, 4), (25, 5), (23, 4), (23, 6), (23, 7), (23, 8), (23, 9), (23, 10)] s.heap H_21 L_21) → (0 ≤ x1_21.toInt ∧ x1_21.toInt ≤ 2147483647) → (Gd D G s.heap → Gd D G H_21) → 2147483648 - x1_21.toInt ≤ (n : Int) → lv_has ls 2 [(1, .int x1_21), (0, .ref a0)] → W p l e (rmU 9 0 0) s m args below meth c H_21 L_21 0 0 Q (F0 m 21 ls []) := by
      intro n
      induction n with
      | zero =>
        intro x1_21 H_21 L_21 ls S_21 j21_0 u21_0 hn hl
        exact absurd hn (by omega)
      | succ n ih21 =>
        intro x1_21 H_21 L_21 ls S_21 j21_0 u21_0 hn hl
        refine lv_iload_n hx hb dX10_readLines_21 rfl (lv_at hl 0 rfl) ?_
        refine lv_aload_n hx hb dX10_readLines_22 rfl (lv_at hl 1 rfl) ?_
        refine q_gi (T := TX6) C S_21.1 ga0 1 kF_X10_13 dX10_readLines_23 rfl rfl (by decide) rfl (by decide) rfl ?_
        have r6 := i_rng (fI D H_21 6 a0 1)
        refine lv_icmp_ge (tgt := 89) hx hb dX10_readLines_26 (by decide) (fun c5 => ?_) (fun c5 => ?_)
        · have b5 : (fI D H_21 6 a0 1).toInt ≤ x1_21.toInt := i_le.mp c5
          refine lv_aload_n hx hb dX10_readLines_89 rfl (lv_at hl 1 rfl) ?_
          refine q_gr (T := TX6) C S_21.1 ga0 0 kF_X10_7 dX10_readLines_90 rfl rfl (by decide) rfl (by decide) rfl (fun g7 => ?_)
          refine callV_Ei C S_21 (c_X9_refuse l D G (fR D H_21 6 a0 0) g7) kV_X10_25 g7 (trivial) (by decide +kernel) dX10_readLines_93 hl.1 rfl rfl (by decide) cd_X9_refuse ⟨Nat.le_of_ble_eq_true rfl, Nat.le_of_ble_eq_true rfl, Nat.le_of_ble_eq_true rfl, Nat.le_of_ble_eq_true rfl, Nat.le_of_ble_eq_true rfl⟩ (fun v8 H8 L8 S8 K8 q8 => ?_)
          have tk8 : Gd D G s.heap → Gd D G H8 := fun h9  => (u21_0 h9).keep K8 (by decide +kernel)
          exact retE_z hQ C S8 hr dX10_readLines_96 (z01 (by omega) (by omega)) (⟨by omega, fun _ h9 => tk8 h9⟩)
        · have b5 : ¬ (fI D H_21 6 a0 1).toInt ≤ x1_21.toInt := fun z9 => c5 (i_le.mpr z9)
          refine lv_aload_n hx hb dX10_readLines_29 rfl (lv_at hl 1 rfl) ?_
          refine q_gr (T := TX6) C S_21.1 ga0 0 kF_X10_7 dX10_readLines_30 rfl rfl (by decide) rfl (by decide) rfl (fun g9 => ?_)
          refine q_gi (T := TX9) C S_21.1 g9 3 kF_X10_22 dX10_readLines_33 rfl rfl (by decide) rfl (by decide) rfl ?_
          refine lv_iconst (v := 1) hx hb dX10_readLines_36 (by decide) ?_
          have k_1 : (1 : Int32).toInt = 1 := by decide
          refine lv_icmp_eq (tgt := 48) hx hb dX10_readLines_37 (by decide) (fun c10 => ?_) (fun c10 => ?_)
          · have b10 : (fI D H_21 9 (fR D H_21 6 a0 0) 3).toInt = (1 : Int32).toInt := i_eq.mp c10
            refine lv_aload_n hx hb dX10_readLines_48 rfl (lv_at hl 1 rfl) ?_
            refine callU_Ei C S_21 (c_X6_readLine l D G a0 ga0) kU_rl6 kD_rl ga0 (by rw [S_21.2.1.fR ga0 rfl (by decide) (by decide +kernel)]; exact hpre) (by decide +kernel) dX10_readLines_49 hl.1 rfl rfl (by decide) (by decide +kernel) ⟨Nat.le_of_ble_eq_true rfl, Nat.le_of_ble_eq_true rfl, Nat.le_of_ble_eq_true rfl, Nat.le_of_ble_eq_true rfl, Nat.le_of_ble_eq_true rfl⟩ (fun v11 H11 L11 S11 K11 q11 => ?_)
            obtain ⟨q11, tq11⟩ := q11
            have tk11 : Gd D G s.heap → (v11.toInt = 1) → Gd D G H11 := fun h9 k90 => tq11 k90 (u21_0 h9)
            refine lv_if_ne (tgt := 57) hx hb dX10_readLines_52 (by decide) (fun c12 => ?_) (fun c12 => ?_)
            · have b12 : ¬ v11.toInt = (0 : Int32).toInt := fun z9 => c12 (i_eq.mpr z9)
              refine lv_aload_n hx hb dX10_readLines_57 rfl (lv_at hl 1 rfl) ?_
              refine q_gr (T := TX6) C S11.1 ga0 0 kF_X10_7 dX10_readLines_58 rfl rfl (by decide) rfl (by decide) rfl (fun g13 => ?_)
              refine q_gi (T := TX9) C S11.1 g13 3 kF_X10_22 dX10_readLines_61 rfl rfl (by decide) rfl (by decide) rfl ?_
              refine lv_if_ne (tgt := 69) hx hb dX10_readLines_64 (by decide) (fun c14 => ?_) (fun c14 => ?_)
              · have b14 : ¬ (fI D H11 9 (fR D H11 6 a0 0) 3).toInt = (0 : Int32).toInt := fun z9 => c14 (i_eq.mpr z9)
                refine lv_aload_n hx hb dX10_readLines_69 rfl (lv_at hl 1 rfl) ?_
                refine q_gr (T := TX6) C S11.1 ga0 0 kF_X10_7 dX10_readLines_70 rfl rfl (by decide) rfl (by decide) rfl (fun g15 => ?_)
                refine lv_bipush (v := 59) hx hb dX10_readLines_73 (by decide) ?_
                have k_59 : (59 : Int32).toInt = 59 := by decide
                refine callV_Ei C S11 (c_X9_takeSign l D G (fR D H11 6 a0 0) (59 : Int32) g15) kV_X10_32 g15 (trivial) (by decide +kernel) dX10_readLines_75 hl.1 rfl rfl (by decide) cd_X9_takeSign ⟨Nat.le_of_ble_eq_true rfl, Nat.le_of_ble_eq_true rfl, Nat.le_of_ble_eq_true rfl, Nat.le_of_ble_eq_true rfl, Nat.le_of_ble_eq_true rfl⟩ (fun v16 H16 L16 S16 K16 q16 => ?_)
                have tk16 : Gd D G s.heap → (v11.toInt = 1) → Gd D G H16 := fun h9 k90 => (tk11 h9 k90).keep K16 (by decide +kernel)
                refine lv_if_ne (tgt := 83) hx hb dX10_readLines_78 (by decide) (fun c17 => ?_) (fun c17 => ?_)
                · have b17 : ¬ v16.toInt = (0 : Int32).toInt := fun z9 => c17 (i_eq.mpr z9)
                  obtain ⟨v18, ev18⟩ : ∃ y : Int32, y = x1_21 + (1) := ⟨_, rfl⟩
                  have f19 : v18.toInt = x1_21.toInt + (1) := by rw [ev18]; exact i_addc k_1 (by omega) (by omega)
                  refine lv_iinc (v := v18) (lv' := [(1, .int v18), (0, .ref a0)]) hx hb dX10_readLines_83 hl (k := 0) rfl (by rw [ev18]; rfl) (by decide) rfl (fun ls hl => ?_)
                  refine lv_goto (tgt := 21) hx hb dX10_readLines_86 (by decide) ?_
                  exact ih21 v18 H16 L16 ls S16 (by omega) (fun h9 => tk16 h9 (by omega)) (by omega) (lv_sub hl [0, 1] rfl)
                · have b17 : v16.toInt = (0 : Int32).toInt := i_eq.mp c17
                  refine lv_iconst (v := 0) hx hb dX10_readLines_81 (by decide) ?_
                  exact retE_z hQ C S16 hr dX10_readLines_82 (z01 (by omega) (by omega)) (⟨by omega, fun h9 => absurd h9 (by decide)⟩)
              · have b14 : (fI D H11 9 (fR D H11 6 a0 0) 3).toInt = (0 : Int32).toInt := i_eq.mp c14
                refine lv_iconst (v := 1) hx hb dX10_readLines_67 (by decide) ?_
                exact retE_z hQ C S11 hr dX10_readLines_68 (z01 (by omega) (by omega)) (⟨by omega, fun _ h9 => tk11 h9 (by omega)⟩)
            · have b12 : v11.toInt = (0 : Int32).toInt := i_eq.mp c12
              refine lv_iconst (v := 0) hx hb dX10_readLines_55 (by decide) ?_
              exact retE_z hQ C S11 hr dX10_readLines_56 (z01 (by omega) (by omega)) (⟨by omega, fun h9 => absurd h9 (by decide)⟩)
          · have b10 : ¬ (fI D H_21 9 (fR D H_21 6 a0 0) 3).toInt = (1 : Int32).toInt := fun z9 => c10 (i_eq.mpr z9)
            refine lv_aload_n hx hb dX10_readLines_40 rfl (lv_at hl 1 rfl) ?_
            refine q_gr (T := TX6) C S_21.1 ga0 0 kF_X10_7 dX10_readLines_41 rfl rfl (by decide) rfl (by decide) rfl (fun g20 => ?_)
            refine callV_Ei C S_21 (c_X9_refuse l D G (fR D H_21 6 a0 0) g20) kV_X10_25 g20 (trivial) (by decide +kernel) dX10_readLines_44 hl.1 rfl rfl (by decide) cd_X9_refuse ⟨Nat.le_of_ble_eq_true rfl, Nat.le_of_ble_eq_true rfl, Nat.le_of_ble_eq_true rfl, Nat.le_of_ble_eq_true rfl, Nat.le_of_ble_eq_true rfl⟩ (fun v21 H21 L21 S21 K21 q21 => ?_)
            have tk21 : Gd D G s.heap → Gd D G H21 := fun h9  => (u21_0 h9).keep K21 (by decide +kernel)
            exact retE_z hQ C S21 hr dX10_readLines_47 (z01 (by omega) (by omega)) (⟨by omega, fun _ h9 => tk21 h9⟩)
    exact Lp21 2147483648 (0 : Int32) H2 L2 ls S2 (by omega) (fun h9 => tk2 h9)  (by omega) (lv_sub hl [0, 1] rfl)
  · have b4 : (fI D H2 9 (fR D H2 6 a0 0) 3).toInt = (0 : Int32).toInt := i_eq.mp c4
    refine lv_iconst (v := 1) hx hb dX10_readLines_17 (by decide) ?_
    have k_1 : (1 : Int32).toInt = 1 := by decide
    exact retE_z hQ C S2 hr dX10_readLines_18 (z01 (by omega) (by omega)) (⟨by omega, fun _ h9 => tk2 h9⟩)
