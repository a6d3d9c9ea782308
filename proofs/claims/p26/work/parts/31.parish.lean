set_option maxRecDepth 100000 in
set_option maxHeartbeats 4000000 in
theorem c_X5_bitsOf (l : Launch) (D : DD) (G : Nat → Nat) (a0 : Nat) (x1 : Int32) (ga0 : G a0 = 4) : CP l D G yX5_bitsOf cX5_bitsOf 4 (some .int) 0 [.ref a0, .int x1] (fun _ => True) (pI (fun H r => True)) := by
  refine enter (by decide) (Nat.le_of_ble_eq_true rfl) ?_
  intro p e s m args below meth c ls Q hA hQ C hr hO hpre hl
  have hx := C.1
  have hb := C.2.1
  have hl : lv_has ls 4 [(0, .ref a0), (1, .int x1)] := hl
  refine lv_iconst (v := 0) hx hb dX5_bitsOf_0 (by decide) ?_
  refine lv_istore_n (lv' := [(2, .int (0 : Int32)), (0, .ref a0), (1, .int x1)]) hx hb dX5_bitsOf_1 rfl hl (by decide) rfl (fun ls hl => ?_)
  refine lv_iconst (v := 0) hx hb dX5_bitsOf_2 (by decide) ?_
  refine lv_istore_n (lv' := [(3, .int (0 : Int32)), (2, .int (0 : Int32)), (0, .ref a0), (1, .int x1)]) hx hb dX5_bitsOf_3 rfl hl (by decide) rfl (fun ls hl => ?_)
  have Lp4 : ∀ (n : Nat) (x3_4 : Int32) (x2_4 : Int32) (ls : Array Slot), (0 ≤ x3_4.toInt ∧ x3_4.toInt ≤ 2147483647) → 2147483648 - x3_4.toInt ≤ (n : Int) → lv_has ls 4 [(3, .int x3_4), (2, .int x2_4), (0, .ref a0), (1, .int x1)] → W p l e (rmU 0 0 0) s m args below meth c s.heap [] 0 0 Q (F0 m 4 ls []) := by
    intro n
    induction n with
    | zero =>
      intro x3_4 x2_4 ls j4_0 hn hl
      exact absurd hn (by omega)
    | succ n ih4 =>
      intro x3_4 x2_4 ls j4_0 hn hl
      refine lv_iload_n hx hb dX5_bitsOf_4 rfl (lv_at hl 0 rfl) ?_
      refine lv_aload_n hx hb dX5_bitsOf_5 rfl (lv_at hl 2 rfl) ?_
      refine q_gi (T := TX5) C hO ga0 4 kF_X5_34 dX5_bitsOf_6 rfl rfl (by decide) rfl (by decide) rfl ?_
      have r1 : 0 ≤ (fI D s.heap 5 a0 4).toInt ∧ (fI D s.heap 5 a0 4).toInt ≤ 12 := hO.rng ga0 rfl (by decide) rfl
      have r3 := i_rng x3_4
      refine lv_icmp_ge (tgt := 37) hx hb dX5_bitsOf_9 (by decide) (fun c2 => ?_) (fun c2 => ?_)
      · have b2 : (fI D s.heap 5 a0 4).toInt ≤ x3_4.toInt := i_le.mp c2
        refine lv_iload_n hx hb dX5_bitsOf_37 rfl (lv_at hl 1 rfl) ?_
        exact retP_i hQ C hr dX5_bitsOf_38 (trivial)
      · have b2 : ¬ (fI D s.heap 5 a0 4).toInt ≤ x3_4.toInt := fun z9 => c2 (i_le.mpr z9)
        refine lv_aload_n hx hb dX5_bitsOf_12 rfl (lv_at hl 2 rfl) ?_
        refine q_gr (T := TX5) C hO ga0 1 kF_X5_19 dX5_bitsOf_13 rfl rfl (by decide) rfl (by decide) rfl (fun g4 => ?_)
        refine lv_iload_n hx hb dX5_bitsOf_16 rfl (lv_at hl 0 rfl) ?_
        refine q_aald C hO g4 (by omega) (by omega) dX5_bitsOf_17 rfl (by decide) rfl rfl (fun g5 => ?_)
        refine q_gi (T := TX1) C hO g5 0 kF_X5_77 dX5_bitsOf_18 rfl rfl (by decide) rfl (by decide) rfl ?_
        have r6 : 0 ≤ (fI D s.heap 1 (eR s.heap (fR D s.heap 5 a0 1) x3_4.toInt.toNat) 0).toInt ∧ (fI D s.heap 1 (eR s.heap (fR D s.heap 5 a0 1) x3_4.toInt.toNat) 0).toInt ≤ 5 := hO.rng g5 rfl (by decide) rfl
        refine lv_iload_n hx hb dX5_bitsOf_21 rfl (lv_at hl 3 rfl) ?_
        refine lv_icmp_ne (tgt := 31) hx hb dX5_bitsOf_22 (by decide) (fun c7 => ?_) (fun c7 => ?_)
        · have b7 : ¬ (fI D s.heap 1 (eR s.heap (fR D s.heap 5 a0 1) x3_4.toInt.toNat) 0).toInt = x1.toInt := fun z9 => c7 (i_eq.mpr z9)
          obtain ⟨v8, ev8⟩ : ∃ y : Int32, y = x3_4 + (1) := ⟨_, rfl⟩
          have k_1 : (1 : Int32).toInt = 1 := by decide
          have f9 : v8.toInt = x3_4.toInt + (1) := by rw [ev8]; exact i_addc k_1 (by omega) (by omega)
          refine lv_iinc (v := v8) (lv' := [(3, .int v8), (2, .int x2_4), (0, .ref a0), (1, .int x1)]) hx hb dX5_bitsOf_31 hl (k := 0) rfl (by rw [ev8]; rfl) (by decide) rfl (fun ls hl => ?_)
          refine lv_goto (tgt := 4) hx hb dX5_bitsOf_34 (by decide) ?_
          exact ih4 v8 x2_4 ls (by omega) (by omega) (lv_sub hl [0, 1, 2, 3] rfl)
        · have b7 : (fI D s.heap 1 (eR s.heap (fR D s.heap 5 a0 1) x3_4.toInt.toNat) 0).toInt = x1.toInt := i_eq.mp c7
          refine lv_iload_n hx hb dX5_bitsOf_25 rfl (lv_at hl 1 rfl) ?_
          refine lv_iconst (v := 1) hx hb dX5_bitsOf_26 (by decide) ?_
          refine lv_iload_n hx hb dX5_bitsOf_27 rfl (lv_at hl 0 rfl) ?_
          have k_1 : (1 : Int32).toInt = 1 := by decide
          refine lv_ishl hx hb dX5_bitsOf_28 ?_
          refine lv_topi (fun v10 ev10 => ?_)
          have f11 : 1 ≤ v10.toInt ∧ v10.toInt ≤ 2048 := by rw [ev10]; exact i_shl1 11 (by omega) (by omega) (by decide)
          refine lv_ior hx hb dX5_bitsOf_29 ?_
          refine lv_topi (fun v12 ev12 => ?_)
          refine lv_istore_n (lv' := [(2, .int v12), (3, .int x3_4), (0, .ref a0), (1, .int x1)]) hx hb dX5_bitsOf_30 rfl hl (by decide) rfl (fun ls hl => ?_)
          obtain ⟨v13, ev13⟩ : ∃ y : Int32, y = x3_4 + (1) := ⟨_, rfl⟩
          have f14 : v13.toInt = x3_4.toInt + (1) := by rw [ev13]; exact i_addc k_1 (by omega) (by omega)
          refine lv_iinc (v := v13) (lv' := [(3, .int v13), (2, .int v12), (0, .ref a0), (1, .int x1)]) hx hb dX5_bitsOf_31 hl (k := 1) rfl (by rw [ev13]; rfl) (by decide) rfl (fun ls hl => ?_)
          refine lv_goto (tgt := 4) hx hb dX5_bitsOf_34 (by decide) ?_
          exact ih4 v13 v12 ls (by omega) (by omega) (lv_sub hl [0, 1, 2, 3] rfl)
  have k_0 : (0 : Int32).toInt = 0 := by decide
  exact Lp4 2147483648 (0 : Int32) (0 : Int32) ls (by omega)  (by omega) (lv_sub hl [0, 1, 2, 3] rfl)

set_option maxRecDepth 100000 in
set_option maxHeartbeats 4000000 in
theorem c_X5_bitsIn (l : Launch) (D : DD) (G : Nat → Nat) (a0 : Nat) (x1 : Int32) (ga0 : G a0 = 4) : CP l D G yX5_bitsIn cX5_bitsIn 4 (some .int) 0 [.ref a0, .int x1] (fun _ => True) (pI (fun H r => True)) := by
  refine enter (by decide) (Nat.le_of_ble_eq_true rfl) ?_
  intro p e s m args below meth c ls Q hA hQ C hr hO hpre hl
  have hx := C.1
  have hb := C.2.1
  have hl : lv_has ls 4 [(0, .ref a0), (1, .int x1)] := hl
  refine lv_iconst (v := 0) hx hb dX5_bitsIn_0 (by decide) ?_
  refine lv_istore_n (lv' := [(2, .int (0 : Int32)), (0, .ref a0), (1, .int x1)]) hx hb dX5_bitsIn_1 rfl hl (by decide) rfl (fun ls hl => ?_)
  refine lv_iconst (v := 0) hx hb dX5_bitsIn_2 (by decide) ?_
  refine lv_istore_n (lv' := [(3, .int (0 : Int32)), (2, .int (0 : Int32)), (0, .ref a0), (1, .int x1)]) hx hb dX5_bitsIn_3 rfl hl (by decide) rfl (fun ls hl => ?_)
  have Lp4 : ∀ (n : Nat) (x3_4 : Int32) (x2_4 : Int32) (ls : Array Slot), (0 ≤ x3_4.toInt ∧ x3_4.toInt ≤ 2147483647) → 2147483648 - x3_4.toInt ≤ (n : Int) → lv_has ls 4 [(3, .int x3_4), (2, .int x2_4), (0, .ref a0), (1, .int x1)] → W p l e (rmU 0 0 0) s m args below meth c s.heap [] 0 0 Q (F0 m 4 ls []) := by
    intro n
    induction n with
    | zero =>
      intro x3_4 x2_4 ls j4_0 hn hl
      exact absurd hn (by omega)
    | succ n ih4 =>
      intro x3_4 x2_4 ls j4_0 hn hl
      refine lv_iload_n hx hb dX5_bitsIn_4 rfl (lv_at hl 0 rfl) ?_
      refine lv_aload_n hx hb dX5_bitsIn_5 rfl (lv_at hl 2 rfl) ?_
      refine q_gi (T := TX5) C hO ga0 4 kF_X5_34 dX5_bitsIn_6 rfl rfl (by decide) rfl (by decide) rfl ?_
      have r1 : 0 ≤ (fI D s.heap 5 a0 4).toInt ∧ (fI D s.heap 5 a0 4).toInt ≤ 12 := hO.rng ga0 rfl (by decide) rfl
      have r3 := i_rng x3_4
      refine lv_icmp_ge (tgt := 37) hx hb dX5_bitsIn_9 (by decide) (fun c2 => ?_) (fun c2 => ?_)
      · have b2 : (fI D s.heap 5 a0 4).toInt ≤ x3_4.toInt := i_le.mp c2
        refine lv_iload_n hx hb dX5_bitsIn_37 rfl (lv_at hl 1 rfl) ?_
        exact retP_i hQ C hr dX5_bitsIn_38 (trivial)
      · have b2 : ¬ (fI D s.heap 5 a0 4).toInt ≤ x3_4.toInt := fun z9 => c2 (i_le.mpr z9)
        refine lv_aload_n hx hb dX5_bitsIn_12 rfl (lv_at hl 2 rfl) ?_
        refine q_gr (T := TX5) C hO ga0 1 kF_X5_19 dX5_bitsIn_13 rfl rfl (by decide) rfl (by decide) rfl (fun g4 => ?_)
        refine lv_iload_n hx hb dX5_bitsIn_16 rfl (lv_at hl 0 rfl) ?_
        refine q_aald C hO g4 (by omega) (by omega) dX5_bitsIn_17 rfl (by decide) rfl rfl (fun g5 => ?_)
        refine q_gi (T := TX1) C hO g5 5 kF_X5_80 dX5_bitsIn_18 rfl rfl (by decide) rfl (by decide) rfl ?_
        refine lv_iload_n hx hb dX5_bitsIn_21 rfl (lv_at hl 3 rfl) ?_
        refine lv_icmp_ne (tgt := 31) hx hb dX5_bitsIn_22 (by decide) (fun c6 => ?_) (fun c6 => ?_)
        · have b6 : ¬ (fI D s.heap 1 (eR s.heap (fR D s.heap 5 a0 1) x3_4.toInt.toNat) 5).toInt = x1.toInt := fun z9 => c6 (i_eq.mpr z9)
          obtain ⟨v7, ev7⟩ : ∃ y : Int32, y = x3_4 + (1) := ⟨_, rfl⟩
          have k_1 : (1 : Int32).toInt = 1 := by decide
          have f8 : v7.toInt = x3_4.toInt + (1) := by rw [ev7]; exact i_addc k_1 (by omega) (by omega)
          refine lv_iinc (v := v7) (lv' := [(3, .int v7), (2, .int x2_4), (0, .ref a0), (1, .int x1)]) hx hb dX5_bitsIn_31 hl (k := 0) rfl (by rw [ev7]; rfl) (by decide) rfl (fun ls hl => ?_)
          refine lv_goto (tgt := 4) hx hb dX5_bitsIn_34 (by decide) ?_
          exact ih4 v7 x2_4 ls (by omega) (by omega) (lv_sub hl [0, 1, 2, 3] rfl)
        · have b6 : (fI D s.heap 1 (eR s.heap (fR D s.heap 5 a0 1) x3_4.toInt.toNat) 5).toInt = x1.toInt := i_eq.mp c6
          refine lv_iload_n hx hb dX5_bitsIn_25 rfl (lv_at hl 1 rfl) ?_
          refine lv_iconst (v := 1) hx hb dX5_bitsIn_26 (by decide) ?_
          refine lv_iload_n hx hb dX5_bitsIn_27 rfl (lv_at hl 0 rfl) ?_
          have k_1 : (1 : Int32).toInt = 1 := by decide
          refine lv_ishl hx hb dX5_bitsIn_28 ?_
          refine lv_topi (fun v9 ev9 => ?_)
          have f10 : 1 ≤ v9.toInt ∧ v9.toInt ≤ 2048 := by rw [ev9]; exact i_shl1 11 (by omega) (by omega) (by decide)
          refine lv_ior hx hb dX5_bitsIn_29 ?_
          refine lv_topi (fun v11 ev11 => ?_)
          refine lv_istore_n (lv' := [(2, .int v11), (3, .int x3_4), (0, .ref a0), (1, .int x1)]) hx hb dX5_bitsIn_30 rfl hl (by decide) rfl (fun ls hl => ?_)
          obtain ⟨v12, ev12⟩ : ∃ y : Int32, y = x3_4 + (1) := ⟨_, rfl⟩
          have f13 : v12.toInt = x3_4.toInt + (1) := by rw [ev12]; exact i_addc k_1 (by omega) (by omega)
          refine lv_iinc (v := v12) (lv' := [(3, .int v12), (2, .int v11), (0, .ref a0), (1, .int x1)]) hx hb dX5_bitsIn_31 hl (k := 1) rfl (by rw [ev12]; rfl) (by decide) rfl (fun ls hl => ?_)
          refine lv_goto (tgt := 4) hx hb dX5_bitsIn_34 (by decide) ?_
          exact ih4 v12 v11 ls (by omega) (by omega) (lv_sub hl [0, 1, 2, 3] rfl)
  have k_0 : (0 : Int32).toInt = 0 := by decide
  exact Lp4 2147483648 (0 : Int32) (0 : Int32) ls (by omega)  (by omega) (lv_sub hl [0, 1, 2, 3] rfl)

set_option maxRecDepth 100000 in
set_option maxHeartbeats 4000000 in
theorem c_X5_taxBy (l : Launch) (D : DD) (G : Nat → Nat) (x0 : Int32) (x1 : Int32) : CP l D G yX5_taxBy cX5_taxBy 2 (some .int) 0 [.int x0, .int x1] (fun _ => True) (pI (fun H r => True)) := by
  refine enter (by decide) (Nat.le_of_ble_eq_true rfl) ?_
  intro p e s m args below meth c ls Q hA hQ C hr hO hpre hl
  have hx := C.1
  have hb := C.2.1
  have hl : lv_has ls 2 [(0, .int x0), (1, .int x1)] := hl
  refine lv_iload_n hx hb dX5_taxBy_0 rfl (lv_at hl 1 rfl) ?_
  refine lv_iconst (v := -1) hx hb dX5_taxBy_1 (by decide) ?_
  have k_m1 : (-1 : Int32).toInt = -1 := by decide
  refine lv_icmp_ne (tgt := 9) hx hb dX5_taxBy_2 (by decide) (fun c1 => ?_) (fun c1 => ?_)
  · have b1 : ¬ x1.toInt = (-1 : Int32).toInt := fun z9 => c1 (i_eq.mpr z9)
    refine lv_iload_n hx hb dX5_taxBy_9 rfl (lv_at hl 0 rfl) ?_
    refine lv_iload_n hx hb dX5_taxBy_10 rfl (lv_at hl 1 rfl) ?_
    refine lv_iadd hx hb dX5_taxBy_11 ?_
    refine lv_topi (fun v2 ev2 => ?_)
    exact retP_i hQ C hr dX5_taxBy_12 (trivial)
  · have b1 : x1.toInt = (-1 : Int32).toInt := i_eq.mp c1
    refine lv_iconst (v := 0) hx hb dX5_taxBy_5 (by decide) ?_
    refine lv_goto (tgt := 12) hx hb dX5_taxBy_6 (by decide) ?_
    have k_0 : (0 : Int32).toInt = 0 := by decide
    exact retP_i hQ C hr dX5_taxBy_12 (trivial)

set_option maxRecDepth 100000 in
set_option maxHeartbeats 4000000 in
theorem c_X5_standing (l : Launch) (D : DD) (G : Nat → Nat) (a0 : Nat) (x1 : Int32) (ga0 : G a0 = 4) : CP l D G yX5_standing cX5_standing 2 (some .int) 1 [.ref a0, .int x1] (fun _ => True) (pI (fun H r => True)) := by
  refine enter (by decide) (Nat.le_of_ble_eq_true rfl) ?_
  intro p e s m args below meth c ls Q hA hQ C hr hO hpre hl
  have hx := C.1
  have hb := C.2.1
  have hl : lv_has ls 2 [(0, .ref a0), (1, .int x1)] := hl
  refine lv_aload_n hx hb dX5_standing_0 rfl (lv_at hl 0 rfl) ?_
  refine lv_iload_n hx hb dX5_standing_1 rfl (lv_at hl 1 rfl) ?_
  refine callV_Pi C hO (fun _ _ _ => rfl) (c_X5_bitsOf l D G a0 x1 ga0) kV_X5_83 ga0 (trivial) dX5_standing_2 hl.1 rfl rfl (by decide) cd_X5_bitsOf ⟨Nat.le_of_ble_eq_true rfl, Nat.le_of_ble_eq_true rfl, Nat.le_of_ble_eq_true rfl, Nat.le_of_ble_eq_true rfl, Nat.le_of_ble_eq_true rfl⟩ (fun v1 q1 => ?_)
  refine lv_aload_n hx hb dX5_standing_5 rfl (lv_at hl 0 rfl) ?_
  refine lv_iconst (v := 1) hx hb dX5_standing_6 (by decide) ?_
  have k_1 : (1 : Int32).toInt = 1 := by decide
  refine callV_Pi C hO (fun _ _ _ => rfl) (c_X5_bitsIn l D G a0 (1 : Int32) ga0) kV_X5_87 ga0 (trivial) dX5_standing_7 hl.1 rfl rfl (by decide) cd_X5_bitsIn ⟨Nat.le_of_ble_eq_true rfl, Nat.le_of_ble_eq_true rfl, Nat.le_of_ble_eq_true rfl, Nat.le_of_ble_eq_true rfl, Nat.le_of_ble_eq_true rfl⟩ (fun v2 q2 => ?_)
  refine lv_iconst (v := -1) hx hb dX5_standing_10 (by decide) ?_
  have k_m1 : (-1 : Int32).toInt = -1 := by decide
  refine lv_ixor hx hb dX5_standing_11 ?_
  refine lv_topi (fun v3 ev3 => ?_)
  refine lv_iand hx hb dX5_standing_12 ?_
  refine lv_topi (fun v4 ev4 => ?_)
  refine callS_Pi C hO (fun _ _ _ => rfl) (c_J6_bitCount_0f7a4 l D G v4) kS_X5_90 (trivial) dX5_standing_13 hl.1 cd_J6_bitCount_0f7a4 ⟨Nat.le_of_ble_eq_true rfl, Nat.le_of_ble_eq_true rfl, Nat.le_of_ble_eq_true rfl, Nat.le_of_ble_eq_true rfl, Nat.le_of_ble_eq_true rfl⟩ (fun v5 q5 => ?_)
  exact retP_i hQ C hr dX5_standing_16 (trivial)

set_option maxRecDepth 100000 in
set_option maxHeartbeats 4000000 in
theorem c_X5_charge (l : Launch) (D : DD) (G : Nat → Nat) (a0 : Nat) (x1 : Int32) (x2 : Int32) (ga0 : G a0 = 4) (ix1 : 0 ≤ x1.toInt ∧ x1.toInt ≤ 11) : CE l D G yX5_charge cX5_charge 5 (some .int) 2 [.ref a0, .int x1, .int x2] (fun _ => True) [(14, 0), (15, 0)] (xI (fun H r H1 => True)) := by
  refine enter (by decide) (Nat.le_of_ble_eq_true rfl) ?_
  intro p e s m args below meth c ls Q hA hQ C hr hO hpre hl
  have hx := C.1
  have hb := C.2.1
  have S : Sd D G [(14, 0), (15, 0)] s.heap s.heap [] := Sd.start hO
  have hl : lv_has ls 5 [(0, .ref a0), (1, .int x1), (2, .int x2)] := hl
  refine lv_aload_n hx hb dX5_charge_0 rfl (lv_at hl 0 rfl) ?_
  refine q_gr (T := TX5) C S.1 ga0 1 kF_X5_19 dX5_charge_1 rfl rfl (by decide) rfl (by decide) rfl (fun g1 => ?_)
  refine lv_iload_n hx hb dX5_charge_4 rfl (lv_at hl 1 rfl) ?_
  refine q_aald C S.1 g1 (by omega) (by omega) dX5_charge_5 rfl (by decide) rfl rfl (fun g2 => ?_)
  refine lv_astore_n (lv' := [(3, .ref (eR s.heap (fR D s.heap 5 a0 1) x1.toInt.toNat)), (0, .ref a0), (1, .int x1), (2, .int x2)]) hx hb dX5_charge_6 rfl hl (by decide) rfl (fun ls hl => ?_)
  refine lv_aload_n hx hb dX5_charge_7 rfl (lv_at hl 1 rfl) ?_
  refine q_gr (T := TX5) C S.1 ga0 0 kF_X5_11 dX5_charge_8 rfl rfl (by decide) rfl (by decide) rfl (fun g3 => ?_)
  refine lv_aload_n hx hb dX5_charge_11 rfl (lv_at hl 0 rfl) ?_
  refine q_gi (T := TX1) C S.1 g2 0 kF_X5_77 dX5_charge_12 rfl rfl (by decide) rfl (by decide) rfl ?_
  have r4 : 0 ≤ (fI D s.heap 1 (eR s.heap (fR D s.heap 5 a0 1) x1.toInt.toNat) 0).toInt ∧ (fI D s.heap 1 (eR s.heap (fR D s.heap 5 a0 1) x1.toInt.toNat) 0).toInt ≤ 5 := S.1.rng g2 rfl (by decide) rfl
  refine q_aald C S.1 g3 (by omega) (by omega) dX5_charge_15 rfl (by decide) rfl rfl (fun g5 => ?_)
  refine lv_astore (lv' := [(4, .ref (eR s.heap (fR D s.heap 5 a0 0) (fI D s.heap 1 (eR s.heap (fR D s.heap 5 a0 1) x1.toInt.toNat) 0).toInt.toNat)), (3, .ref (eR s.heap (fR D s.heap 5 a0 1) x1.toInt.toNat)), (0, .ref a0), (1, .int x1), (2, .int x2)]) hx hb dX5_charge_16 hl (by decide) rfl (fun ls hl => ?_)
  refine lv_aload_n hx hb dX5_charge_18 rfl (lv_at hl 2 rfl) ?_
  refine q_gn (T := TX5) C S.1 ga0 13 kF_X5_61 dX5_charge_19 rfl rfl (by decide) rfl (by decide) rfl (fun zg6 => ?_) (fun zg6 g6 => ?_)
  · skip
    refine lv_ifnonnullN hx hb dX5_charge_22 ?_
    refine lv_aload hx hb dX5_charge_25 (lv_at hl 0 rfl) ?_
    refine q_gi (T := TX2) C S.1 g5 1 kF_X5_95 dX5_charge_27 rfl rfl (by decide) rfl (by decide) rfl ?_
    have r7 : 0 ≤ (fI D s.heap 2 (eR s.heap (fR D s.heap 5 a0 0) (fI D s.heap 1 (eR s.heap (fR D s.heap 5 a0 1) x1.toInt.toNat) 0).toInt.toNat) 1).toInt ∧ (fI D s.heap 2 (eR s.heap (fR D s.heap 5 a0 0) (fI D s.heap 1 (eR s.heap (fR D s.heap 5 a0 1) x1.toInt.toNat) 0).toInt.toNat) 1).toInt ≤ 1 := S.1.rng g5 rfl (by decide) rfl
    have k_0 : (0 : Int32).toInt = 0 := by decide
    refine lv_if_eq (tgt := 37) hx hb dX5_charge_30 (by decide) (fun c8 => ?_) (fun c8 => ?_)
    · have b8 : (fI D s.heap 2 (eR s.heap (fR D s.heap 5 a0 0) (fI D s.heap 1 (eR s.heap (fR D s.heap 5 a0 1) x1.toInt.toNat) 0).toInt.toNat) 1).toInt = (0 : Int32).toInt := i_eq.mp c8
      refine lv_iconst (v := 0) hx hb dX5_charge_37 (by decide) ?_
      exact retE_i hQ C S hr dX5_charge_38 (trivial)
    · have b8 : ¬ (fI D s.heap 2 (eR s.heap (fR D s.heap 5 a0 0) (fI D s.heap 1 (eR s.heap (fR D s.heap 5 a0 1) x1.toInt.toNat) 0).toInt.toNat) 1).toInt = (0 : Int32).toInt := fun z9 => c8 (i_eq.mpr z9)
      refine lv_iconst (v := -1) hx hb dX5_charge_33 (by decide) ?_
      refine lv_goto (tgt := 38) hx hb dX5_charge_34 (by decide) ?_
      have k_m1 : (-1 : Int32).toInt = -1 := by decide
      exact retE_i hQ C S hr dX5_charge_38 (trivial)
  · skip
    refine lv_ifnonnull (tgt := 39) hx hb dX5_charge_22 (by decide) ?_
    refine lv_aload_n hx hb dX5_charge_39 rfl (lv_at hl 2 rfl) ?_
    refine q_gn (T := TX5) C S.1 ga0 13 kF_X5_61 dX5_charge_40 rfl rfl (by decide) rfl (by decide) rfl (fun zg9 => ?_) (fun zg9 g9 => ?_)
    · exact absurd (zg9.symm.trans zg6) (by simp)
    · skip
      refine lv_iconst (v := 1) hx hb dX5_charge_43 (by decide) ?_
      refine lv_aload_n hx hb dX5_charge_44 rfl (lv_at hl 1 rfl) ?_
      refine lv_aload hx hb dX5_charge_45 (lv_at hl 0 rfl) ?_
      refine lv_iload_n hx hb dX5_charge_47 rfl (lv_at hl 4 rfl) ?_
      refine lv_aload_n hx hb dX5_charge_48 rfl (lv_at hl 2 rfl) ?_
      refine q_gi (T := TX5) C S.1 ga0 10 kF_X5_52 dX5_charge_49 rfl rfl (by decide) rfl (by decide) rfl ?_
      have k_1 : (1 : Int32).toInt = 1 := by decide
      refine callV_Ei C S (c_X3_total l D G (fR D s.heap 5 a0 13) (1 : Int32) (eR s.heap (fR D s.heap 5 a0 1) x1.toInt.toNat) (eR s.heap (fR D s.heap 5 a0 0) (fI D s.heap 1 (eR s.heap (fR D s.heap 5 a0 1) x1.toInt.toNat) 0).toInt.toNat) x2 (fI D s.heap 5 a0 10) g9 g2 g5) kV_X5_101 g9 (trivial) (by decide +kernel) dX5_charge_52 hl.1 rfl rfl (by decide) cd_X3_total ⟨Nat.le_of_ble_eq_true rfl, Nat.le_of_ble_eq_true rfl, Nat.le_of_ble_eq_true rfl, Nat.le_of_ble_eq_true rfl, Nat.le_of_ble_eq_true rfl⟩ (fun v10 H10 L10 S10 K10 q10 => ?_)
      have k_0 : (0 : Int32).toInt = 0 := by decide
      refine lv_if_le (tgt := 60) hx hb dX5_charge_55 (by decide) (fun c11 => ?_) (fun c11 => ?_)
      · have b11 : v10.toInt ≤ (0 : Int32).toInt := i_le.mp c11
        refine lv_aload_n hx hb dX5_charge_60 rfl (lv_at hl 2 rfl) ?_
        refine q_gn (T := TX5) C S10.1 ga0 13 kF_X5_61 dX5_charge_61 rfl rfl (by decide) rfl (by decide) rfl (fun zg12 => ?_) (fun zg12 g12 => ?_)
        · exact absurd (((K10.f ga0 rfl (by decide) (by decide)).symm.trans zg12).symm.trans zg9) (by simp)
        · skip
          refine lv_iconst (v := 0) hx hb dX5_charge_64 (by decide) ?_
          refine lv_aload_n hx hb dX5_charge_65 rfl (lv_at hl 1 rfl) ?_
          refine lv_aload hx hb dX5_charge_66 (lv_at hl 0 rfl) ?_
          refine lv_iload_n hx hb dX5_charge_68 rfl (lv_at hl 4 rfl) ?_
          refine lv_aload_n hx hb dX5_charge_69 rfl (lv_at hl 2 rfl) ?_
          refine q_gi (T := TX5) C S10.1 ga0 10 kF_X5_52 dX5_charge_70 rfl rfl (by decide) rfl (by decide) rfl ?_
          refine callV_Ei C S10 (c_X3_total l D G (fR D H10 5 a0 13) (0 : Int32) (eR s.heap (fR D s.heap 5 a0 1) x1.toInt.toNat) (eR s.heap (fR D s.heap 5 a0 0) (fI D s.heap 1 (eR s.heap (fR D s.heap 5 a0 1) x1.toInt.toNat) 0).toInt.toNat) x2 (fI D H10 5 a0 10) g12 g2 g5) kV_X5_101 g12 (trivial) (by decide +kernel) dX5_charge_73 hl.1 rfl rfl (by decide) cd_X3_total ⟨Nat.le_of_ble_eq_true rfl, Nat.le_of_ble_eq_true rfl, Nat.le_of_ble_eq_true rfl, Nat.le_of_ble_eq_true rfl, Nat.le_of_ble_eq_true rfl⟩ (fun v13 H13 L13 S13 K13 q13 => ?_)
          exact retE_i hQ C S13 hr dX5_charge_76 (trivial)
      · have b11 : ¬ v10.toInt ≤ (0 : Int32).toInt := fun z9 => c11 (i_le.mpr z9)
        refine lv_iconst (v := -1) hx hb dX5_charge_58 (by decide) ?_
        have k_m1 : (-1 : Int32).toInt = -1 := by decide
        exact retE_i hQ C S10 hr dX5_charge_59 (trivial)

set_option maxRecDepth 100000 in
set_option maxHeartbeats 4000000 in
theorem c_X5_taxOf (l : Launch) (D : DD) (G : Nat → Nat) (a0 : Nat) (x1 : Int32) (ga0 : G a0 = 4) (ix1 : 0 ≤ x1.toInt ∧ x1.toInt ≤ 11) : CE l D G yX5_taxOf cX5_taxOf 3 (some .int) 3 [.ref a0, .int x1] (fun _ => True) [(14, 0), (15, 0)] (xI (fun H r H1 => True)) := by
  refine enter (by decide) (Nat.le_of_ble_eq_true rfl) ?_
  intro p e s m args below meth c ls Q hA hQ C hr hO hpre hl
  have hx := C.1
  have hb := C.2.1
  have S : Sd D G [(14, 0), (15, 0)] s.heap s.heap [] := Sd.start hO
  have hl : lv_has ls 3 [(0, .ref a0), (1, .int x1)] := hl
  refine lv_aload_n hx hb dX5_taxOf_0 rfl (lv_at hl 0 rfl) ?_
  refine q_gr (T := TX5) C S.1 ga0 1 kF_X5_19 dX5_taxOf_1 rfl rfl (by decide) rfl (by decide) rfl (fun g1 => ?_)
  refine lv_iload_n hx hb dX5_taxOf_4 rfl (lv_at hl 1 rfl) ?_
  refine q_aald C S.1 g1 (by omega) (by omega) dX5_taxOf_5 rfl (by decide) rfl rfl (fun g2 => ?_)
  refine lv_astore_n (lv' := [(2, .ref (eR s.heap (fR D s.heap 5 a0 1) x1.toInt.toNat)), (0, .ref a0), (1, .int x1)]) hx hb dX5_taxOf_6 rfl hl (by decide) rfl (fun ls hl => ?_)
  refine lv_aload_n hx hb dX5_taxOf_7 rfl (lv_at hl 0 rfl) ?_
  refine q_gi (T := TX1) C S.1 g2 5 kF_X5_80 dX5_taxOf_8 rfl rfl (by decide) rfl (by decide) rfl ?_
  refine lv_iconst (v := 1) hx hb dX5_taxOf_11 (by decide) ?_
  have k_1 : (1 : Int32).toInt = 1 := by decide
  refine lv_icmp_ne (tgt := 19) hx hb dX5_taxOf_12 (by decide) (fun c3 => ?_) (fun c3 => ?_)
  · have b3 : ¬ (fI D s.heap 1 (eR s.heap (fR D s.heap 5 a0 1) x1.toInt.toNat) 5).toInt = (1 : Int32).toInt := fun z9 => c3 (i_eq.mpr z9)
    refine lv_aload_n hx hb dX5_taxOf_19 rfl (lv_at hl 1 rfl) ?_
    refine q_gi (T := TX5) C S.1 ga0 6 kF_X5_40 dX5_taxOf_20 rfl rfl (by decide) rfl (by decide) rfl ?_
    refine lv_aload_n hx hb dX5_taxOf_23 rfl (lv_at hl 1 rfl) ?_
    refine lv_iload_n hx hb dX5_taxOf_24 rfl (lv_at hl 2 rfl) ?_
    refine lv_aload_n hx hb dX5_taxOf_25 rfl (lv_at hl 1 rfl) ?_
    refine lv_aload_n hx hb dX5_taxOf_26 rfl (lv_at hl 0 rfl) ?_
    refine q_gi (T := TX1) C S.1 g2 0 kF_X5_77 dX5_taxOf_27 rfl rfl (by decide) rfl (by decide) rfl ?_
    have r4 : 0 ≤ (fI D s.heap 1 (eR s.heap (fR D s.heap 5 a0 1) x1.toInt.toNat) 0).toInt ∧ (fI D s.heap 1 (eR s.heap (fR D s.heap 5 a0 1) x1.toInt.toNat) 0).toInt ≤ 5 := S.1.rng g2 rfl (by decide) rfl
    refine callV_Pi C S.1 S.2.1.2.1 (c_X5_standing l D G a0 (fI D s.heap 1 (eR s.heap (fR D s.heap 5 a0 1) x1.toInt.toNat) 0) ga0) kV_X5_105 ga0 (trivial) dX5_taxOf_30 hl.1 rfl rfl (by decide) cd_X5_standing ⟨Nat.le_of_ble_eq_true rfl, Nat.le_of_ble_eq_true rfl, Nat.le_of_ble_eq_true rfl, Nat.le_of_ble_eq_true rfl, Nat.le_of_ble_eq_true rfl⟩ (fun v5 q5 => ?_)
    refine callV_Ei C S (c_X5_charge l D G a0 x1 v5 ga0 (by omega)) kV_X5_108 ga0 (trivial) (by decide +kernel) dX5_taxOf_33 hl.1 rfl rfl (by decide) cd_X5_charge ⟨Nat.le_of_ble_eq_true rfl, Nat.le_of_ble_eq_true rfl, Nat.le_of_ble_eq_true rfl, Nat.le_of_ble_eq_true rfl, Nat.le_of_ble_eq_true rfl⟩ (fun v6 H6 L6 S6 K6 q6 => ?_)
    refine callS_Pi C S6.1 S6.2.1.2.1 (c_X5_taxBy l D G (fI D s.heap 5 a0 6) v6) kS_X5_112 (trivial) dX5_taxOf_36 hl.1 cd_X5_taxBy ⟨Nat.le_of_ble_eq_true rfl, Nat.le_of_ble_eq_true rfl, Nat.le_of_ble_eq_true rfl, Nat.le_of_ble_eq_true rfl, Nat.le_of_ble_eq_true rfl⟩ (fun v7 q7 => ?_)
    exact retE_i hQ C S6 hr dX5_taxOf_39 (trivial)
  · have b3 : (fI D s.heap 1 (eR s.heap (fR D s.heap 5 a0 1) x1.toInt.toNat) 5).toInt = (1 : Int32).toInt := i_eq.mp c3
    refine lv_iconst (v := 0) hx hb dX5_taxOf_15 (by decide) ?_
    refine lv_goto (tgt := 39) hx hb dX5_taxOf_16 (by decide) ?_
    have k_0 : (0 : Int32).toInt = 0 := by decide
    exact retE_i hQ C S hr dX5_taxOf_39 (trivial)

set_option maxRecDepth 100000 in
set_option maxHeartbeats 4000000 in
theorem c_X5_foundBy (l : Launch) (D : DD) (G : Nat → Nat) (a0 : Nat) (x1 : Int32) (ga0 : G a0 = 4) (ix1 : 0 ≤ x1.toInt ∧ x1.toInt ≤ 11) : CE l D G yX5_foundBy cX5_foundBy 4 (some .int) 2 [.ref a0, .int x1] (fun _ => True) [(14, 0), (15, 0)] (xI (fun H r H1 => True)) := by
  refine enter (by decide) (Nat.le_of_ble_eq_true rfl) ?_
  intro p e s m args below meth c ls Q hA hQ C hr hO hpre hl
  have hx := C.1
  have hb := C.2.1
  have S : Sd D G [(14, 0), (15, 0)] s.heap s.heap [] := Sd.start hO
  have hl : lv_has ls 4 [(0, .ref a0), (1, .int x1)] := hl
  refine lv_aload_n hx hb dX5_foundBy_0 rfl (lv_at hl 0 rfl) ?_
  refine q_gn (T := TX5) C S.1 ga0 13 kF_X5_61 dX5_foundBy_1 rfl rfl (by decide) rfl (by decide) rfl (fun zg1 => ?_) (fun zg1 g1 => ?_)
  · skip
    refine lv_ifnonnullN hx hb dX5_foundBy_4 ?_
    refine lv_bipush (v := 30) hx hb dX5_foundBy_7 (by decide) ?_
    have k_30 : (30 : Int32).toInt = 30 := by decide
    exact retE_i hQ C S hr dX5_foundBy_9 (trivial)
  · skip
    refine lv_ifnonnull (tgt := 10) hx hb dX5_foundBy_4 (by decide) ?_
    refine lv_aload_n hx hb dX5_foundBy_10 rfl (lv_at hl 0 rfl) ?_
    refine q_gr (T := TX5) C S.1 ga0 1 kF_X5_19 dX5_foundBy_11 rfl rfl (by decide) rfl (by decide) rfl (fun g2 => ?_)
    refine lv_iload_n hx hb dX5_foundBy_14 rfl (lv_at hl 1 rfl) ?_
    refine q_aald C S.1 g2 (by omega) (by omega) dX5_foundBy_15 rfl (by decide) rfl rfl (fun g3 => ?_)
    refine lv_astore_n (lv' := [(2, .ref (eR s.heap (fR D s.heap 5 a0 1) x1.toInt.toNat)), (0, .ref a0), (1, .int x1)]) hx hb dX5_foundBy_16 rfl hl (by decide) rfl (fun ls hl => ?_)
    refine lv_aload_n hx hb dX5_foundBy_17 rfl (lv_at hl 1 rfl) ?_
    refine q_gn (T := TX5) C S.1 ga0 13 kF_X5_61 dX5_foundBy_18 rfl rfl (by decide) rfl (by decide) rfl (fun zg4 => ?_) (fun zg4 g4 => ?_)
    · exact absurd (zg4.symm.trans zg1) (by simp)
    · skip
      refine lv_iconst (v := 2) hx hb dX5_foundBy_21 (by decide) ?_
      refine lv_aload_n hx hb dX5_foundBy_22 rfl (lv_at hl 0 rfl) ?_
      refine lv_aload_n hx hb dX5_foundBy_23 rfl (lv_at hl 1 rfl) ?_
      refine q_gr (T := TX5) C S.1 ga0 0 kF_X5_11 dX5_foundBy_24 rfl rfl (by decide) rfl (by decide) rfl (fun g5 => ?_)
      refine lv_aload_n hx hb dX5_foundBy_27 rfl (lv_at hl 0 rfl) ?_
      refine q_gi (T := TX1) C S.1 g3 0 kF_X5_77 dX5_foundBy_28 rfl rfl (by decide) rfl (by decide) rfl ?_
      have r6 : 0 ≤ (fI D s.heap 1 (eR s.heap (fR D s.heap 5 a0 1) x1.toInt.toNat) 0).toInt ∧ (fI D s.heap 1 (eR s.heap (fR D s.heap 5 a0 1) x1.toInt.toNat) 0).toInt ≤ 5 := S.1.rng g3 rfl (by decide) rfl
      refine q_aald C S.1 g5 (by omega) (by omega) dX5_foundBy_31 rfl (by decide) rfl rfl (fun g7 => ?_)
      refine lv_aload_n hx hb dX5_foundBy_32 rfl (lv_at hl 1 rfl) ?_
      refine lv_aload_n hx hb dX5_foundBy_33 rfl (lv_at hl 0 rfl) ?_
      refine q_gi (T := TX1) C S.1 g3 0 kF_X5_77 dX5_foundBy_34 rfl rfl (by decide) rfl (by decide) rfl ?_
      refine callV_Pi C S.1 S.2.1.2.1 (c_X5_standing l D G a0 (fI D s.heap 1 (eR s.heap (fR D s.heap 5 a0 1) x1.toInt.toNat) 0) ga0) kV_X5_105 ga0 (trivial) dX5_foundBy_37 hl.1 rfl rfl (by decide) cd_X5_standing ⟨Nat.le_of_ble_eq_true rfl, Nat.le_of_ble_eq_true rfl, Nat.le_of_ble_eq_true rfl, Nat.le_of_ble_eq_true rfl, Nat.le_of_ble_eq_true rfl⟩ (fun v8 q8 => ?_)
      refine lv_aload_n hx hb dX5_foundBy_40 rfl (lv_at hl 1 rfl) ?_
      refine q_gi (T := TX5) C S.1 ga0 10 kF_X5_52 dX5_foundBy_41 rfl rfl (by decide) rfl (by decide) rfl ?_
      have k_2 : (2 : Int32).toInt = 2 := by decide
      refine callV_Ei C S (c_X3_total l D G (fR D s.heap 5 a0 13) (2 : Int32) (eR s.heap (fR D s.heap 5 a0 1) x1.toInt.toNat) (eR s.heap (fR D s.heap 5 a0 0) (fI D s.heap 1 (eR s.heap (fR D s.heap 5 a0 1) x1.toInt.toNat) 0).toInt.toNat) v8 (fI D s.heap 5 a0 10) g4 g3 g7) kV_X5_101 g4 (trivial) (by decide +kernel) dX5_foundBy_44 hl.1 rfl rfl (by decide) cd_X3_total ⟨Nat.le_of_ble_eq_true rfl, Nat.le_of_ble_eq_true rfl, Nat.le_of_ble_eq_true rfl, Nat.le_of_ble_eq_true rfl, Nat.le_of_ble_eq_true rfl⟩ (fun v9 H9 L9 S9 K9 q9 => ?_)
      refine lv_istore_n (lv' := [(3, .int v9), (2, .ref (eR s.heap (fR D s.heap 5 a0 1) x1.toInt.toNat)), (0, .ref a0), (1, .int x1)]) hx hb dX5_foundBy_47 rfl hl (by decide) rfl (fun ls hl => ?_)
      refine lv_bipush (v := 100) hx hb dX5_foundBy_48 (by decide) ?_
      refine lv_iload_n hx hb dX5_foundBy_50 rfl (lv_at hl 0 rfl) ?_
      have k_100 : (100 : Int32).toInt = 100 := by decide
      refine q_min C kN_X5_115 dX5_foundBy_51 hl.1 ⟨Nat.le_of_ble_eq_true rfl, Nat.le_of_ble_eq_true rfl, Nat.le_of_ble_eq_true rfl, Nat.le_of_ble_eq_true rfl⟩ (fun v10 fv10 => ?_)
      exact retE_i hQ C S9 hr dX5_foundBy_54 (trivial)

set_option maxRecDepth 100000 in
set_option maxHeartbeats 4000000 in
theorem c_X5_paysOf (l : Launch) (D : DD) (G : Nat → Nat) (a0 : Nat) (x1 : Int32) (ga0 : G a0 = 4) : CE l D G yX5_paysOf cX5_paysOf 5 (some .int) 3 [.ref a0, .int x1] (fun _ => True) [(14, 0), (15, 0)] (xI (fun H r H1 => True)) := by
  refine enter (by decide) (Nat.le_of_ble_eq_true rfl) ?_
  intro p e s m args below meth c ls Q hA hQ C hr hO hpre hl
  have hx := C.1
  have hb := C.2.1
  have S : Sd D G [(14, 0), (15, 0)] s.heap s.heap [] := Sd.start hO
  have hl : lv_has ls 5 [(0, .ref a0), (1, .int x1)] := hl
  refine lv_aload_n hx hb dX5_paysOf_0 rfl (lv_at hl 0 rfl) ?_
  refine lv_iload_n hx hb dX5_paysOf_1 rfl (lv_at hl 1 rfl) ?_
  refine callV_Pi C S.1 S.2.1.2.1 (c_X5_standing l D G a0 x1 ga0) kV_X5_105 ga0 (trivial) dX5_paysOf_2 hl.1 rfl rfl (by decide) cd_X5_standing ⟨Nat.le_of_ble_eq_true rfl, Nat.le_of_ble_eq_true rfl, Nat.le_of_ble_eq_true rfl, Nat.le_of_ble_eq_true rfl, Nat.le_of_ble_eq_true rfl⟩ (fun v1 q1 => ?_)
  refine lv_istore_n (lv' := [(2, .int v1), (0, .ref a0), (1, .int x1)]) hx hb dX5_paysOf_5 rfl hl (by decide) rfl (fun ls hl => ?_)
  refine lv_iconst (v := 0) hx hb dX5_paysOf_6 (by decide) ?_
  refine lv_istore_n (lv' := [(3, .int (0 : Int32)), (2, .int v1), (0, .ref a0), (1, .int x1)]) hx hb dX5_paysOf_7 rfl hl (by decide) rfl (fun ls hl => ?_)
  refine lv_iconst (v := 0) hx hb dX5_paysOf_8 (by decide) ?_
  refine lv_istore (lv' := [(4, .int (0 : Int32)), (3, .int (0 : Int32)), (2, .int v1), (0, .ref a0), (1, .int x1)]) hx hb dX5_paysOf_9 hl (by decide) rfl (fun ls hl => ?_)
  have Lp11 : ∀ (n : Nat) (x4_11 : Int32) (x3_11 : Int32) (H_11 : Heap) (L_11 : List Loc) (ls : Array Slot), (Sd D G [(14, 0), (15, 0)] s.heap H_11 L_11) → (0 ≤ x4_11.toInt ∧ x4_11.toInt ≤ 2147483647) → 2147483648 - x4_11.toInt ≤ (n : Int) → lv_has ls 5 [(4, .int x4_11), (3, .int x3_11), (2, .int v1), (0, .ref a0), (1, .int x1)] → W p l e (rmU 3 0 0) s m args below meth c H_11 L_11 0 0 Q (F0 m 11 ls []) := by
    intro n
    induction n with
    | zero =>
      intro x4_11 x3_11 H_11 L_11 ls S_11 j11_0 hn hl
      exact absurd hn (by omega)
    | succ n ih11 =>
      intro x4_11 x3_11 H_11 L_11 ls S_11 j11_0 hn hl
      refine lv_iload hx hb dX5_paysOf_11 (lv_at hl 0 rfl) ?_
      refine lv_aload_n hx hb dX5_paysOf_13 rfl (lv_at hl 3 rfl) ?_
      refine q_gi (T := TX5) C S_11.1 ga0 4 kF_X5_34 dX5_paysOf_14 rfl rfl (by decide) rfl (by decide) rfl ?_
      have r2 : 0 ≤ (fI D H_11 5 a0 4).toInt ∧ (fI D H_11 5 a0 4).toInt ≤ 12 := S_11.1.rng ga0 rfl (by decide) rfl
      have r4 := i_rng x4_11
      refine lv_icmp_ge (tgt := 70) hx hb dX5_paysOf_17 (by decide) (fun c3 => ?_) (fun c3 => ?_)
      · have b3 : (fI D H_11 5 a0 4).toInt ≤ x4_11.toInt := i_le.mp c3
        refine lv_iload_n hx hb dX5_paysOf_70 rfl (lv_at hl 1 rfl) ?_
        exact retE_i hQ C S_11 hr dX5_paysOf_71 (trivial)
      · have b3 : ¬ (fI D H_11 5 a0 4).toInt ≤ x4_11.toInt := fun z9 => c3 (i_le.mpr z9)
        refine lv_aload_n hx hb dX5_paysOf_20 rfl (lv_at hl 3 rfl) ?_
        refine q_gr (T := TX5) C S_11.1 ga0 1 kF_X5_19 dX5_paysOf_21 rfl rfl (by decide) rfl (by decide) rfl (fun g5 => ?_)
        refine lv_iload hx hb dX5_paysOf_24 (lv_at hl 0 rfl) ?_
        refine q_aald C S_11.1 g5 (by omega) (by omega) dX5_paysOf_26 rfl (by decide) rfl rfl (fun g6 => ?_)
        refine q_gi (T := TX1) C S_11.1 g6 0 kF_X5_77 dX5_paysOf_27 rfl rfl (by decide) rfl (by decide) rfl ?_
        have r7 : 0 ≤ (fI D H_11 1 (eR H_11 (fR D H_11 5 a0 1) x4_11.toInt.toNat) 0).toInt ∧ (fI D H_11 1 (eR H_11 (fR D H_11 5 a0 1) x4_11.toInt.toNat) 0).toInt ≤ 5 := S_11.1.rng g6 rfl (by decide) rfl
        refine lv_iload_n hx hb dX5_paysOf_30 rfl (lv_at hl 4 rfl) ?_
        refine lv_icmp_ne (tgt := 64) hx hb dX5_paysOf_31 (by decide) (fun c8 => ?_) (fun c8 => ?_)
        · have b8 : ¬ (fI D H_11 1 (eR H_11 (fR D H_11 5 a0 1) x4_11.toInt.toNat) 0).toInt = x1.toInt := fun z9 => c8 (i_eq.mpr z9)
          obtain ⟨v9, ev9⟩ : ∃ y : Int32, y = x4_11 + (1) := ⟨_, rfl⟩
          have k_1 : (1 : Int32).toInt = 1 := by decide
          have f10 : v9.toInt = x4_11.toInt + (1) := by rw [ev9]; exact i_addc k_1 (by omega) (by omega)
          refine lv_iinc (v := v9) (lv' := [(4, .int v9), (3, .int x3_11), (2, .int v1), (0, .ref a0), (1, .int x1)]) hx hb dX5_paysOf_64 hl (k := 0) rfl (by rw [ev9]; rfl) (by decide) rfl (fun ls hl => ?_)
          refine lv_goto (tgt := 11) hx hb dX5_paysOf_67 (by decide) ?_
          exact ih11 v9 x3_11 H_11 L_11 ls S_11 (by omega) (by omega) (lv_sub hl [0, 1, 2, 3, 4] rfl)
        · have b8 : (fI D H_11 1 (eR H_11 (fR D H_11 5 a0 1) x4_11.toInt.toNat) 0).toInt = x1.toInt := i_eq.mp c8
          refine lv_aload_n hx hb dX5_paysOf_34 rfl (lv_at hl 3 rfl) ?_
          refine q_gr (T := TX5) C S_11.1 ga0 1 kF_X5_19 dX5_paysOf_35 rfl rfl (by decide) rfl (by decide) rfl (fun g11 => ?_)
          refine lv_iload hx hb dX5_paysOf_38 (lv_at hl 0 rfl) ?_
          refine q_aald C S_11.1 g11 (by omega) (by omega) dX5_paysOf_40 rfl (by decide) rfl rfl (fun g12 => ?_)
          refine q_gi (T := TX1) C S_11.1 g12 5 kF_X5_80 dX5_paysOf_41 rfl rfl (by decide) rfl (by decide) rfl ?_
          have k_0 : (0 : Int32).toInt = 0 := by decide
          refine lv_if_ne (tgt := 64) hx hb dX5_paysOf_44 (by decide) (fun c13 => ?_) (fun c13 => ?_)
          · have b13 : ¬ (fI D H_11 1 (eR H_11 (fR D H_11 5 a0 1) x4_11.toInt.toNat) 5).toInt = (0 : Int32).toInt := fun z9 => c13 (i_eq.mpr z9)
            obtain ⟨v14, ev14⟩ : ∃ y : Int32, y = x4_11 + (1) := ⟨_, rfl⟩
            have k_1 : (1 : Int32).toInt = 1 := by decide
            have f15 : v14.toInt = x4_11.toInt + (1) := by rw [ev14]; exact i_addc k_1 (by omega) (by omega)
            refine lv_iinc (v := v14) (lv' := [(4, .int v14), (3, .int x3_11), (2, .int v1), (0, .ref a0), (1, .int x1)]) hx hb dX5_paysOf_64 hl (k := 0) rfl (by rw [ev14]; rfl) (by decide) rfl (fun ls hl => ?_)
            refine lv_goto (tgt := 11) hx hb dX5_paysOf_67 (by decide) ?_
            exact ih11 v14 x3_11 H_11 L_11 ls S_11 (by omega) (by omega) (lv_sub hl [0, 1, 2, 3, 4] rfl)
          · have b13 : (fI D H_11 1 (eR H_11 (fR D H_11 5 a0 1) x4_11.toInt.toNat) 5).toInt = (0 : Int32).toInt := i_eq.mp c13
            refine lv_iload_n hx hb dX5_paysOf_47 rfl (lv_at hl 1 rfl) ?_
            refine lv_aload_n hx hb dX5_paysOf_48 rfl (lv_at hl 3 rfl) ?_
            refine q_gi (T := TX5) C S_11.1 ga0 6 kF_X5_40 dX5_paysOf_49 rfl rfl (by decide) rfl (by decide) rfl ?_
            refine lv_aload_n hx hb dX5_paysOf_52 rfl (lv_at hl 3 rfl) ?_
            refine lv_iload hx hb dX5_paysOf_53 (lv_at hl 0 rfl) ?_
            refine lv_iload_n hx hb dX5_paysOf_55 rfl (lv_at hl 2 rfl) ?_
            refine callV_Ei C S_11 (c_X5_charge l D G a0 x4_11 v1 ga0 (by omega)) kV_X5_108 ga0 (trivial) (by decide +kernel) dX5_paysOf_56 hl.1 rfl rfl (by decide) cd_X5_charge ⟨Nat.le_of_ble_eq_true rfl, Nat.le_of_ble_eq_true rfl, Nat.le_of_ble_eq_true rfl, Nat.le_of_ble_eq_true rfl, Nat.le_of_ble_eq_true rfl⟩ (fun v16 H16 L16 S16 K16 q16 => ?_)
            refine callS_Pi C S16.1 S16.2.1.2.1 (c_X5_taxBy l D G (fI D H_11 5 a0 6) v16) kS_X5_112 (trivial) dX5_paysOf_59 hl.1 cd_X5_taxBy ⟨Nat.le_of_ble_eq_true rfl, Nat.le_of_ble_eq_true rfl, Nat.le_of_ble_eq_true rfl, Nat.le_of_ble_eq_true rfl, Nat.le_of_ble_eq_true rfl⟩ (fun v17 q17 => ?_)
            refine lv_iadd hx hb dX5_paysOf_62 ?_
            refine lv_topi (fun v18 ev18 => ?_)
            refine lv_istore_n (lv' := [(3, .int v18), (4, .int x4_11), (2, .int v1), (0, .ref a0), (1, .int x1)]) hx hb dX5_paysOf_63 rfl hl (by decide) rfl (fun ls hl => ?_)
            obtain ⟨v19, ev19⟩ : ∃ y : Int32, y = x4_11 + (1) := ⟨_, rfl⟩
            have k_1 : (1 : Int32).toInt = 1 := by decide
            have f20 : v19.toInt = x4_11.toInt + (1) := by rw [ev19]; exact i_addc k_1 (by omega) (by omega)
            refine lv_iinc (v := v19) (lv' := [(4, .int v19), (3, .int v18), (2, .int v1), (0, .ref a0), (1, .int x1)]) hx hb dX5_paysOf_64 hl (k := 1) rfl (by rw [ev19]; rfl) (by decide) rfl (fun ls hl => ?_)
            refine lv_goto (tgt := 11) hx hb dX5_paysOf_67 (by decide) ?_
            exact ih11 v19 v18 H16 L16 ls S16 (by omega) (by omega) (lv_sub hl [0, 1, 2, 3, 4] rfl)
  have k_0 : (0 : Int32).toInt = 0 := by decide
  exact Lp11 2147483648 (0 : Int32) (0 : Int32) s.heap [] ls S (by omega)  (by omega) (lv_sub hl [0, 1, 2, 3, 4] rfl)

set_option maxRecDepth 100000 in
set_option maxHeartbeats 4000000 in
theorem c_X5_hopesOf (l : Launch) (D : DD) (G : Nat → Nat) (a0 : Nat) (x1 : Int32) (ga0 : G a0 = 4) : CE l D G yX5_hopesOf cX5_hopesOf 4 (some .int) 4 [.ref a0, .int x1] (fun _ => True) [(14, 0), (15, 0)] (xI (fun H r H1 => True)) := by
  refine enter (by decide) (Nat.le_of_ble_eq_true rfl) ?_
  intro p e s m args below meth c ls Q hA hQ C hr hO hpre hl
  have hx := C.1
  have hb := C.2.1
  have S : Sd D G [(14, 0), (15, 0)] s.heap s.heap [] := Sd.start hO
  have hl : lv_has ls 4 [(0, .ref a0), (1, .int x1)] := hl
  refine lv_iconst (v := 0) hx hb dX5_hopesOf_0 (by decide) ?_
  refine lv_istore_n (lv' := [(2, .int (0 : Int32)), (0, .ref a0), (1, .int x1)]) hx hb dX5_hopesOf_1 rfl hl (by decide) rfl (fun ls hl => ?_)
  refine lv_iconst (v := 0) hx hb dX5_hopesOf_2 (by decide) ?_
  refine lv_istore_n (lv' := [(3, .int (0 : Int32)), (2, .int (0 : Int32)), (0, .ref a0), (1, .int x1)]) hx hb dX5_hopesOf_3 rfl hl (by decide) rfl (fun ls hl => ?_)
  have Lp4 : ∀ (n : Nat) (x3_4 : Int32) (x2_4 : Int32) (H_4 : Heap) (L_4 : List Loc) (ls : Array Slot), (Sd D G [(14, 0), (15, 0)] s.heap H_4 L_4) → (0 ≤ x3_4.toInt ∧ x3_4.toInt ≤ 2147483647) → 2147483648 - x3_4.toInt ≤ (n : Int) → lv_has ls 4 [(3, .int x3_4), (2, .int x2_4), (0, .ref a0), (1, .int x1)] → W p l e (rmU 4 0 0) s m args below meth c H_4 L_4 0 0 Q (F0 m 4 ls []) := by
    intro n
    induction n with
    | zero =>
      intro x3_4 x2_4 H_4 L_4 ls S_4 j4_0 hn hl
      exact absurd hn (by omega)
    | succ n ih4 =>
      intro x3_4 x2_4 H_4 L_4 ls S_4 j4_0 hn hl
      refine lv_iload_n hx hb dX5_hopesOf_4 rfl (lv_at hl 0 rfl) ?_
      refine lv_aload_n hx hb dX5_hopesOf_5 rfl (lv_at hl 2 rfl) ?_
      refine q_gi (T := TX5) C S_4.1 ga0 4 kF_X5_34 dX5_hopesOf_6 rfl rfl (by decide) rfl (by decide) rfl ?_
      have r1 : 0 ≤ (fI D H_4 5 a0 4).toInt ∧ (fI D H_4 5 a0 4).toInt ≤ 12 := S_4.1.rng ga0 rfl (by decide) rfl
      have r3 := i_rng x3_4
      refine lv_icmp_ge (tgt := 63) hx hb dX5_hopesOf_9 (by decide) (fun c2 => ?_) (fun c2 => ?_)
      · have b2 : (fI D H_4 5 a0 4).toInt ≤ x3_4.toInt := i_le.mp c2
        refine lv_iload_n hx hb dX5_hopesOf_63 rfl (lv_at hl 1 rfl) ?_
        refine lv_bipush (v := 100) hx hb dX5_hopesOf_64 (by decide) ?_
        have k_100 : (100 : Int32).toInt = 100 := by decide
        refine lv_idiv hx hb dX5_hopesOf_66 (by first | decide | (intro z9; have := i_eq.mp z9; simp at this; omega) | assumption) ?_
        refine lv_topi (fun v4 ev4 => ?_)
        exact retE_i hQ C S_4 hr dX5_hopesOf_67 (trivial)
      · have b2 : ¬ (fI D H_4 5 a0 4).toInt ≤ x3_4.toInt := fun z9 => c2 (i_le.mpr z9)
        refine lv_aload_n hx hb dX5_hopesOf_12 rfl (lv_at hl 2 rfl) ?_
        refine q_gr (T := TX5) C S_4.1 ga0 1 kF_X5_19 dX5_hopesOf_13 rfl rfl (by decide) rfl (by decide) rfl (fun g5 => ?_)
        refine lv_iload_n hx hb dX5_hopesOf_16 rfl (lv_at hl 0 rfl) ?_
        refine q_aald C S_4.1 g5 (by omega) (by omega) dX5_hopesOf_17 rfl (by decide) rfl rfl (fun g6 => ?_)
        refine q_gi (T := TX1) C S_4.1 g6 0 kF_X5_77 dX5_hopesOf_18 rfl rfl (by decide) rfl (by decide) rfl ?_
        have r7 : 0 ≤ (fI D H_4 1 (eR H_4 (fR D H_4 5 a0 1) x3_4.toInt.toNat) 0).toInt ∧ (fI D H_4 1 (eR H_4 (fR D H_4 5 a0 1) x3_4.toInt.toNat) 0).toInt ≤ 5 := S_4.1.rng g6 rfl (by decide) rfl
        refine lv_iload_n hx hb dX5_hopesOf_21 rfl (lv_at hl 3 rfl) ?_
        refine lv_icmp_ne (tgt := 57) hx hb dX5_hopesOf_22 (by decide) (fun c8 => ?_) (fun c8 => ?_)
        · have b8 : ¬ (fI D H_4 1 (eR H_4 (fR D H_4 5 a0 1) x3_4.toInt.toNat) 0).toInt = x1.toInt := fun z9 => c8 (i_eq.mpr z9)
          obtain ⟨v9, ev9⟩ : ∃ y : Int32, y = x3_4 + (1) := ⟨_, rfl⟩
          have k_1 : (1 : Int32).toInt = 1 := by decide
          have f10 : v9.toInt = x3_4.toInt + (1) := by rw [ev9]; exact i_addc k_1 (by omega) (by omega)
          refine lv_iinc (v := v9) (lv' := [(3, .int v9), (2, .int x2_4), (0, .ref a0), (1, .int x1)]) hx hb dX5_hopesOf_57 hl (k := 0) rfl (by rw [ev9]; rfl) (by decide) rfl (fun ls hl => ?_)
          refine lv_goto (tgt := 4) hx hb dX5_hopesOf_60 (by decide) ?_
          exact ih4 v9 x2_4 H_4 L_4 ls S_4 (by omega) (by omega) (lv_sub hl [0, 1, 2, 3] rfl)
        · have b8 : (fI D H_4 1 (eR H_4 (fR D H_4 5 a0 1) x3_4.toInt.toNat) 0).toInt = x1.toInt := i_eq.mp c8
          refine lv_aload_n hx hb dX5_hopesOf_25 rfl (lv_at hl 2 rfl) ?_
          refine q_gr (T := TX5) C S_4.1 ga0 1 kF_X5_19 dX5_hopesOf_26 rfl rfl (by decide) rfl (by decide) rfl (fun g11 => ?_)
          refine lv_iload_n hx hb dX5_hopesOf_29 rfl (lv_at hl 0 rfl) ?_
          refine q_aald C S_4.1 g11 (by omega) (by omega) dX5_hopesOf_30 rfl (by decide) rfl rfl (fun g12 => ?_)
          refine q_gi (T := TX1) C S_4.1 g12 5 kF_X5_80 dX5_hopesOf_31 rfl rfl (by decide) rfl (by decide) rfl ?_
          refine lv_iconst (v := 2) hx hb dX5_hopesOf_34 (by decide) ?_
          have k_2 : (2 : Int32).toInt = 2 := by decide
          refine lv_icmp_ne (tgt := 57) hx hb dX5_hopesOf_35 (by decide) (fun c13 => ?_) (fun c13 => ?_)
          · have b13 : ¬ (fI D H_4 1 (eR H_4 (fR D H_4 5 a0 1) x3_4.toInt.toNat) 5).toInt = (2 : Int32).toInt := fun z9 => c13 (i_eq.mpr z9)
            obtain ⟨v14, ev14⟩ : ∃ y : Int32, y = x3_4 + (1) := ⟨_, rfl⟩
            have k_1 : (1 : Int32).toInt = 1 := by decide
            have f15 : v14.toInt = x3_4.toInt + (1) := by rw [ev14]; exact i_addc k_1 (by omega) (by omega)
            refine lv_iinc (v := v14) (lv' := [(3, .int v14), (2, .int x2_4), (0, .ref a0), (1, .int x1)]) hx hb dX5_hopesOf_57 hl (k := 0) rfl (by rw [ev14]; rfl) (by decide) rfl (fun ls hl => ?_)
            refine lv_goto (tgt := 4) hx hb dX5_hopesOf_60 (by decide) ?_
            exact ih4 v14 x2_4 H_4 L_4 ls S_4 (by omega) (by omega) (lv_sub hl [0, 1, 2, 3] rfl)
          · have b13 : (fI D H_4 1 (eR H_4 (fR D H_4 5 a0 1) x3_4.toInt.toNat) 5).toInt = (2 : Int32).toInt := i_eq.mp c13
            refine lv_iload_n hx hb dX5_hopesOf_38 rfl (lv_at hl 1 rfl) ?_
            refine lv_aload_n hx hb dX5_hopesOf_39 rfl (lv_at hl 2 rfl) ?_
            refine lv_iload_n hx hb dX5_hopesOf_40 rfl (lv_at hl 0 rfl) ?_
            refine callV_Ei C S_4 (c_X5_foundBy l D G a0 x3_4 ga0 (by omega)) kV_X5_120 ga0 (trivial) (by decide +kernel) dX5_hopesOf_41 hl.1 rfl rfl (by decide) cd_X5_foundBy ⟨Nat.le_of_ble_eq_true rfl, Nat.le_of_ble_eq_true rfl, Nat.le_of_ble_eq_true rfl, Nat.le_of_ble_eq_true rfl, Nat.le_of_ble_eq_true rfl⟩ (fun v16 H16 L16 S16 K16 q16 => ?_)
            refine lv_aload_n hx hb dX5_hopesOf_44 rfl (lv_at hl 2 rfl) ?_
            refine lv_iload_n hx hb dX5_hopesOf_45 rfl (lv_at hl 0 rfl) ?_
            refine callV_Ei C S16 (c_X5_taxOf l D G a0 x3_4 ga0 (by omega)) kV_X5_123 ga0 (trivial) (by decide +kernel) dX5_hopesOf_46 hl.1 rfl rfl (by decide) cd_X5_taxOf ⟨Nat.le_of_ble_eq_true rfl, Nat.le_of_ble_eq_true rfl, Nat.le_of_ble_eq_true rfl, Nat.le_of_ble_eq_true rfl, Nat.le_of_ble_eq_true rfl⟩ (fun v17 H17 L17 S17 K17 q17 => ?_)
            refine lv_aload_n hx hb dX5_hopesOf_49 rfl (lv_at hl 2 rfl) ?_
            refine q_gi (T := TX5) C S17.1 ga0 7 kF_X5_43 dX5_hopesOf_50 rfl rfl (by decide) rfl (by decide) rfl ?_
            refine lv_iadd hx hb dX5_hopesOf_53 ?_
            refine lv_topi (fun v18 ev18 => ?_)
            refine lv_imul hx hb dX5_hopesOf_54 ?_
            refine lv_topi (fun v19 ev19 => ?_)
            refine lv_iadd hx hb dX5_hopesOf_55 ?_
            refine lv_topi (fun v20 ev20 => ?_)
            refine lv_istore_n (lv' := [(2, .int v20), (3, .int x3_4), (0, .ref a0), (1, .int x1)]) hx hb dX5_hopesOf_56 rfl hl (by decide) rfl (fun ls hl => ?_)
            obtain ⟨v21, ev21⟩ : ∃ y : Int32, y = x3_4 + (1) := ⟨_, rfl⟩
            have k_1 : (1 : Int32).toInt = 1 := by decide
            have f22 : v21.toInt = x3_4.toInt + (1) := by rw [ev21]; exact i_addc k_1 (by omega) (by omega)
            refine lv_iinc (v := v21) (lv' := [(3, .int v21), (2, .int v20), (0, .ref a0), (1, .int x1)]) hx hb dX5_hopesOf_57 hl (k := 1) rfl (by rw [ev21]; rfl) (by decide) rfl (fun ls hl => ?_)
            refine lv_goto (tgt := 4) hx hb dX5_hopesOf_60 (by decide) ?_
            exact ih4 v21 v20 H17 L17 ls S17 (by omega) (by omega) (lv_sub hl [0, 1, 2, 3] rfl)
  have k_0 : (0 : Int32).toInt = 0 := by decide
  exact Lp4 2147483648 (0 : Int32) (0 : Int32) s.heap [] ls S (by omega)  (by omega) (lv_sub hl [0, 1, 2, 3] rfl)

set_option maxRecDepth 100000 in
set_option maxHeartbeats 4000000 in
theorem c_X5_hopesOfSet (l : Launch) (D : DD) (G : Nat → Nat) (a0 : Nat) (x1 : Int32) (ga0 : G a0 = 4) : CE l D G yX5_hopesOfSet cX5_hopesOfSet 4 (some .int) 5 [.ref a0, .int x1] (fun _ => True) [(14, 0), (15, 0)] (xI (fun H r H1 => True)) := by
  refine enter (by decide) (Nat.le_of_ble_eq_true rfl) ?_
  intro p e s m args below meth c ls Q hA hQ C hr hO hpre hl
  have hx := C.1
  have hb := C.2.1
  have S : Sd D G [(14, 0), (15, 0)] s.heap s.heap [] := Sd.start hO
  have hl : lv_has ls 4 [(0, .ref a0), (1, .int x1)] := hl
  refine lv_iconst (v := 0) hx hb dX5_hopesOfSet_0 (by decide) ?_
  refine lv_istore_n (lv' := [(2, .int (0 : Int32)), (0, .ref a0), (1, .int x1)]) hx hb dX5_hopesOfSet_1 rfl hl (by decide) rfl (fun ls hl => ?_)
  refine lv_iconst (v := 0) hx hb dX5_hopesOfSet_2 (by decide) ?_
  refine lv_istore_n (lv' := [(3, .int (0 : Int32)), (2, .int (0 : Int32)), (0, .ref a0), (1, .int x1)]) hx hb dX5_hopesOfSet_3 rfl hl (by decide) rfl (fun ls hl => ?_)
  have Lp4 : ∀ (n : Nat) (x3_4 : Int32) (x2_4 : Int32) (H_4 : Heap) (L_4 : List Loc) (ls : Array Slot), (Sd D G [(14, 0), (15, 0)] s.heap H_4 L_4) → (0 ≤ x3_4.toInt ∧ x3_4.toInt ≤ 2147483647) → 2147483648 - x3_4.toInt ≤ (n : Int) → lv_has ls 4 [(3, .int x3_4), (2, .int x2_4), (0, .ref a0), (1, .int x1)] → W p l e (rmU 5 0 0) s m args below meth c H_4 L_4 0 0 Q (F0 m 4 ls []) := by
    intro n
    induction n with
    | zero =>
      intro x3_4 x2_4 H_4 L_4 ls S_4 j4_0 hn hl
      exact absurd hn (by omega)
    | succ n ih4 =>
      intro x3_4 x2_4 H_4 L_4 ls S_4 j4_0 hn hl
      refine lv_iload_n hx hb dX5_hopesOfSet_4 rfl (lv_at hl 0 rfl) ?_
      refine lv_aload_n hx hb dX5_hopesOfSet_5 rfl (lv_at hl 2 rfl) ?_
      refine q_gi (T := TX5) C S_4.1 ga0 3 kF_X5_30 dX5_hopesOfSet_6 rfl rfl (by decide) rfl (by decide) rfl ?_
      have r1 : 0 ≤ (fI D H_4 5 a0 3).toInt ∧ (fI D H_4 5 a0 3).toInt ≤ 6 := S_4.1.rng ga0 rfl (by decide) rfl
      have r3 := i_rng x3_4
      refine lv_icmp_ge (tgt := 35) hx hb dX5_hopesOfSet_9 (by decide) (fun c2 => ?_) (fun c2 => ?_)
      · have b2 : (fI D H_4 5 a0 3).toInt ≤ x3_4.toInt := i_le.mp c2
        refine lv_iload_n hx hb dX5_hopesOfSet_35 rfl (lv_at hl 1 rfl) ?_
        exact retE_i hQ C S_4 hr dX5_hopesOfSet_36 (trivial)
      · have b2 : ¬ (fI D H_4 5 a0 3).toInt ≤ x3_4.toInt := fun z9 => c2 (i_le.mpr z9)
        refine lv_iload_n hx hb dX5_hopesOfSet_12 rfl (lv_at hl 3 rfl) ?_
        refine lv_iload_n hx hb dX5_hopesOfSet_13 rfl (lv_at hl 0 rfl) ?_
        refine lv_ishr hx hb dX5_hopesOfSet_14 ?_
        refine lv_topi (fun v4 ev4 => ?_)
        refine lv_iconst (v := 1) hx hb dX5_hopesOfSet_15 (by decide) ?_
        have k_1 : (1 : Int32).toInt = 1 := by decide
        refine lv_iand hx hb dX5_hopesOfSet_16 ?_
        have r5 := i_rng v4
        refine lv_topi (fun v6 ev6 => ?_)
        have f7 : 0 ≤ v6.toInt ∧ v6.toInt ≤ (1 : Int32).toInt := by rw [ev6]; exact i_and (by omega)
        refine lv_iconst (v := 1) hx hb dX5_hopesOfSet_17 (by decide) ?_
        refine lv_icmp_ne (tgt := 29) hx hb dX5_hopesOfSet_18 (by decide) (fun c8 => ?_) (fun c8 => ?_)
        · have b8 : ¬ v6.toInt = (1 : Int32).toInt := fun z9 => c8 (i_eq.mpr z9)
          obtain ⟨v9, ev9⟩ : ∃ y : Int32, y = x3_4 + (1) := ⟨_, rfl⟩
          have f10 : v9.toInt = x3_4.toInt + (1) := by rw [ev9]; exact i_addc k_1 (by omega) (by omega)
          refine lv_iinc (v := v9) (lv' := [(3, .int v9), (2, .int x2_4), (0, .ref a0), (1, .int x1)]) hx hb dX5_hopesOfSet_29 hl (k := 0) rfl (by rw [ev9]; rfl) (by decide) rfl (fun ls hl => ?_)
          refine lv_goto (tgt := 4) hx hb dX5_hopesOfSet_32 (by decide) ?_
          exact ih4 v9 x2_4 H_4 L_4 ls S_4 (by omega) (by omega) (lv_sub hl [0, 1, 2, 3] rfl)
        · have b8 : v6.toInt = (1 : Int32).toInt := i_eq.mp c8
          refine lv_iload_n hx hb dX5_hopesOfSet_21 rfl (lv_at hl 1 rfl) ?_
          refine lv_aload_n hx hb dX5_hopesOfSet_22 rfl (lv_at hl 2 rfl) ?_
          refine lv_iload_n hx hb dX5_hopesOfSet_23 rfl (lv_at hl 0 rfl) ?_
          refine callV_Ei C S_4 (c_X5_hopesOf l D G a0 x3_4 ga0) kV_X5_126 ga0 (trivial) (by decide +kernel) dX5_hopesOfSet_24 hl.1 rfl rfl (by decide) cd_X5_hopesOf ⟨Nat.le_of_ble_eq_true rfl, Nat.le_of_ble_eq_true rfl, Nat.le_of_ble_eq_true rfl, Nat.le_of_ble_eq_true rfl, Nat.le_of_ble_eq_true rfl⟩ (fun v11 H11 L11 S11 K11 q11 => ?_)
          refine lv_iadd hx hb dX5_hopesOfSet_27 ?_
          refine lv_topi (fun v12 ev12 => ?_)
          refine lv_istore_n (lv' := [(2, .int v12), (3, .int x3_4), (0, .ref a0), (1, .int x1)]) hx hb dX5_hopesOfSet_28 rfl hl (by decide) rfl (fun ls hl => ?_)
          obtain ⟨v13, ev13⟩ : ∃ y : Int32, y = x3_4 + (1) := ⟨_, rfl⟩
          have f14 : v13.toInt = x3_4.toInt + (1) := by rw [ev13]; exact i_addc k_1 (by omega) (by omega)
          refine lv_iinc (v := v13) (lv' := [(3, .int v13), (2, .int v12), (0, .ref a0), (1, .int x1)]) hx hb dX5_hopesOfSet_29 hl (k := 1) rfl (by rw [ev13]; rfl) (by decide) rfl (fun ls hl => ?_)
          refine lv_goto (tgt := 4) hx hb dX5_hopesOfSet_32 (by decide) ?_
          exact ih4 v13 v12 H11 L11 ls S11 (by omega) (by omega) (lv_sub hl [0, 1, 2, 3] rfl)
  have k_0 : (0 : Int32).toInt = 0 := by decide
  exact Lp4 2147483648 (0 : Int32) (0 : Int32) s.heap [] ls S (by omega)  (by omega) (lv_sub hl [0, 1, 2, 3] rfl)

set_option maxRecDepth 100000 in
set_option maxHeartbeats 4000000 in
theorem c_X5_warmthOf (l : Launch) (D : DD) (G : Nat → Nat) (a0 : Nat) (x1 : Int32) (ga0 : G a0 = 4) : CP l D G yX5_warmthOf cX5_warmthOf 4 (some .int) 0 [.ref a0, .int x1] (fun _ => True) (pI (fun H r => True)) := by
  refine enter (by decide) (Nat.le_of_ble_eq_true rfl) ?_
  intro p e s m args below meth c ls Q hA hQ C hr hO hpre hl
  have hx := C.1
  have hb := C.2.1
  have hl : lv_has ls 4 [(0, .ref a0), (1, .int x1)] := hl
  refine lv_iconst (v := 0) hx hb dX5_warmthOf_0 (by decide) ?_
  refine lv_istore_n (lv' := [(2, .int (0 : Int32)), (0, .ref a0), (1, .int x1)]) hx hb dX5_warmthOf_1 rfl hl (by decide) rfl (fun ls hl => ?_)
  refine lv_iconst (v := 0) hx hb dX5_warmthOf_2 (by decide) ?_
  refine lv_istore_n (lv' := [(3, .int (0 : Int32)), (2, .int (0 : Int32)), (0, .ref a0), (1, .int x1)]) hx hb dX5_warmthOf_3 rfl hl (by decide) rfl (fun ls hl => ?_)
  have Lp4 : ∀ (n : Nat) (x3_4 : Int32) (x2_4 : Int32) (ls : Array Slot), (0 ≤ x3_4.toInt ∧ x3_4.toInt ≤ 2147483647) → 2147483648 - x3_4.toInt ≤ (n : Int) → lv_has ls 4 [(3, .int x3_4), (2, .int x2_4), (0, .ref a0), (1, .int x1)] → W p l e (rmU 0 0 0) s m args below meth c s.heap [] 0 0 Q (F0 m 4 ls []) := by
    intro n
    induction n with
    | zero =>
      intro x3_4 x2_4 ls j4_0 hn hl
      exact absurd hn (by omega)
    | succ n ih4 =>
      intro x3_4 x2_4 ls j4_0 hn hl
      refine lv_iload_n hx hb dX5_warmthOf_4 rfl (lv_at hl 0 rfl) ?_
      refine lv_aload_n hx hb dX5_warmthOf_5 rfl (lv_at hl 2 rfl) ?_
      refine q_gi (T := TX5) C hO ga0 4 kF_X5_34 dX5_warmthOf_6 rfl rfl (by decide) rfl (by decide) rfl ?_
      have r1 : 0 ≤ (fI D s.heap 5 a0 4).toInt ∧ (fI D s.heap 5 a0 4).toInt ≤ 12 := hO.rng ga0 rfl (by decide) rfl
      have r3 := i_rng x3_4
      refine lv_icmp_ge (tgt := 56) hx hb dX5_warmthOf_9 (by decide) (fun c2 => ?_) (fun c2 => ?_)
      · have b2 : (fI D s.heap 5 a0 4).toInt ≤ x3_4.toInt := i_le.mp c2
        refine lv_iload_n hx hb dX5_warmthOf_56 rfl (lv_at hl 1 rfl) ?_
        exact retP_i hQ C hr dX5_warmthOf_57 (trivial)
      · have b2 : ¬ (fI D s.heap 5 a0 4).toInt ≤ x3_4.toInt := fun z9 => c2 (i_le.mpr z9)
        refine lv_aload_n hx hb dX5_warmthOf_12 rfl (lv_at hl 2 rfl) ?_
        refine q_gr (T := TX5) C hO ga0 1 kF_X5_19 dX5_warmthOf_13 rfl rfl (by decide) rfl (by decide) rfl (fun g4 => ?_)
        refine lv_iload_n hx hb dX5_warmthOf_16 rfl (lv_at hl 0 rfl) ?_
        refine q_aald C hO g4 (by omega) (by omega) dX5_warmthOf_17 rfl (by decide) rfl rfl (fun g5 => ?_)
        refine q_gi (T := TX1) C hO g5 0 kF_X5_77 dX5_warmthOf_18 rfl rfl (by decide) rfl (by decide) rfl ?_
        have r6 : 0 ≤ (fI D s.heap 1 (eR s.heap (fR D s.heap 5 a0 1) x3_4.toInt.toNat) 0).toInt ∧ (fI D s.heap 1 (eR s.heap (fR D s.heap 5 a0 1) x3_4.toInt.toNat) 0).toInt ≤ 5 := hO.rng g5 rfl (by decide) rfl
        refine lv_iload_n hx hb dX5_warmthOf_21 rfl (lv_at hl 3 rfl) ?_
        refine lv_icmp_ne (tgt := 50) hx hb dX5_warmthOf_22 (by decide) (fun c7 => ?_) (fun c7 => ?_)
        · have b7 : ¬ (fI D s.heap 1 (eR s.heap (fR D s.heap 5 a0 1) x3_4.toInt.toNat) 0).toInt = x1.toInt := fun z9 => c7 (i_eq.mpr z9)
          obtain ⟨v8, ev8⟩ : ∃ y : Int32, y = x3_4 + (1) := ⟨_, rfl⟩
          have k_1 : (1 : Int32).toInt = 1 := by decide
          have f9 : v8.toInt = x3_4.toInt + (1) := by rw [ev8]; exact i_addc k_1 (by omega) (by omega)
          refine lv_iinc (v := v8) (lv' := [(3, .int v8), (2, .int x2_4), (0, .ref a0), (1, .int x1)]) hx hb dX5_warmthOf_50 hl (k := 0) rfl (by rw [ev8]; rfl) (by decide) rfl (fun ls hl => ?_)
          refine lv_goto (tgt := 4) hx hb dX5_warmthOf_53 (by decide) ?_
          exact ih4 v8 x2_4 ls (by omega) (by omega) (lv_sub hl [0, 1, 2, 3] rfl)
        · have b7 : (fI D s.heap 1 (eR s.heap (fR D s.heap 5 a0 1) x3_4.toInt.toNat) 0).toInt = x1.toInt := i_eq.mp c7
          refine lv_aload_n hx hb dX5_warmthOf_25 rfl (lv_at hl 2 rfl) ?_
          refine q_gr (T := TX5) C hO ga0 1 kF_X5_19 dX5_warmthOf_26 rfl rfl (by decide) rfl (by decide) rfl (fun g10 => ?_)
          refine lv_iload_n hx hb dX5_warmthOf_29 rfl (lv_at hl 0 rfl) ?_
          refine q_aald C hO g10 (by omega) (by omega) dX5_warmthOf_30 rfl (by decide) rfl rfl (fun g11 => ?_)
          refine q_gi (T := TX1) C hO g11 5 kF_X5_80 dX5_warmthOf_31 rfl rfl (by decide) rfl (by decide) rfl ?_
          refine lv_iconst (v := 1) hx hb dX5_warmthOf_34 (by decide) ?_
          have k_1 : (1 : Int32).toInt = 1 := by decide
          refine lv_icmp_eq (tgt := 50) hx hb dX5_warmthOf_35 (by decide) (fun c12 => ?_) (fun c12 => ?_)
          · have b12 : (fI D s.heap 1 (eR s.heap (fR D s.heap 5 a0 1) x3_4.toInt.toNat) 5).toInt = (1 : Int32).toInt := i_eq.mp c12
            obtain ⟨v13, ev13⟩ : ∃ y : Int32, y = x3_4 + (1) := ⟨_, rfl⟩
            have f14 : v13.toInt = x3_4.toInt + (1) := by rw [ev13]; exact i_addc k_1 (by omega) (by omega)
            refine lv_iinc (v := v13) (lv' := [(3, .int v13), (2, .int x2_4), (0, .ref a0), (1, .int x1)]) hx hb dX5_warmthOf_50 hl (k := 0) rfl (by rw [ev13]; rfl) (by decide) rfl (fun ls hl => ?_)
            refine lv_goto (tgt := 4) hx hb dX5_warmthOf_53 (by decide) ?_
            exact ih4 v13 x2_4 ls (by omega) (by omega) (lv_sub hl [0, 1, 2, 3] rfl)
          · have b12 : ¬ (fI D s.heap 1 (eR s.heap (fR D s.heap 5 a0 1) x3_4.toInt.toNat) 5).toInt = (1 : Int32).toInt := fun z9 => c12 (i_eq.mpr z9)
            refine lv_iload_n hx hb dX5_warmthOf_38 rfl (lv_at hl 1 rfl) ?_
            refine lv_aload_n hx hb dX5_warmthOf_39 rfl (lv_at hl 2 rfl) ?_
            refine q_gr (T := TX5) C hO ga0 1 kF_X5_19 dX5_warmthOf_40 rfl rfl (by decide) rfl (by decide) rfl (fun g15 => ?_)
            refine lv_iload_n hx hb dX5_warmthOf_43 rfl (lv_at hl 0 rfl) ?_
            refine q_aald C hO g15 (by omega) (by omega) dX5_warmthOf_44 rfl (by decide) rfl rfl (fun g16 => ?_)
            refine q_gi (T := TX1) C hO g16 3 kF_X5_129 dX5_warmthOf_45 rfl rfl (by decide) rfl (by decide) rfl ?_
            refine lv_iadd hx hb dX5_warmthOf_48 ?_
            refine lv_topi (fun v17 ev17 => ?_)
            refine lv_istore_n (lv' := [(2, .int v17), (3, .int x3_4), (0, .ref a0), (1, .int x1)]) hx hb dX5_warmthOf_49 rfl hl (by decide) rfl (fun ls hl => ?_)
            obtain ⟨v18, ev18⟩ : ∃ y : Int32, y = x3_4 + (1) := ⟨_, rfl⟩
            have f19 : v18.toInt = x3_4.toInt + (1) := by rw [ev18]; exact i_addc k_1 (by omega) (by omega)
            refine lv_iinc (v := v18) (lv' := [(3, .int v18), (2, .int v17), (0, .ref a0), (1, .int x1)]) hx hb dX5_warmthOf_50 hl (k := 1) rfl (by rw [ev18]; rfl) (by decide) rfl (fun ls hl => ?_)
            refine lv_goto (tgt := 4) hx hb dX5_warmthOf_53 (by decide) ?_
            exact ih4 v18 v17 ls (by omega) (by omega) (lv_sub hl [0, 1, 2, 3] rfl)
  have k_0 : (0 : Int32).toInt = 0 := by decide
  exact Lp4 2147483648 (0 : Int32) (0 : Int32) ls (by omega)  (by omega) (lv_sub hl [0, 1, 2, 3] rfl)

set_option maxRecDepth 100000 in
set_option maxHeartbeats 4000000 in
theorem c_X5_smokeOf (l : Launch) (D : DD) (G : Nat → Nat) (a0 : Nat) (x1 : Int32) (ga0 : G a0 = 4) : CP l D G yX5_smokeOf cX5_smokeOf 4 (some .int) 0 [.ref a0, .int x1] (fun _ => True) (pI (fun H r => True)) := by
  refine enter (by decide) (Nat.le_of_ble_eq_true rfl) ?_
  intro p e s m args below meth c ls Q hA hQ C hr hO hpre hl
  have hx := C.1
  have hb := C.2.1
  have hl : lv_has ls 4 [(0, .ref a0), (1, .int x1)] := hl
  refine lv_iconst (v := 0) hx hb dX5_smokeOf_0 (by decide) ?_
  refine lv_istore_n (lv' := [(2, .int (0 : Int32)), (0, .ref a0), (1, .int x1)]) hx hb dX5_smokeOf_1 rfl hl (by decide) rfl (fun ls hl => ?_)
  refine lv_iconst (v := 0) hx hb dX5_smokeOf_2 (by decide) ?_
  refine lv_istore_n (lv' := [(3, .int (0 : Int32)), (2, .int (0 : Int32)), (0, .ref a0), (1, .int x1)]) hx hb dX5_smokeOf_3 rfl hl (by decide) rfl (fun ls hl => ?_)
  have Lp4 : ∀ (n : Nat) (x3_4 : Int32) (x2_4 : Int32) (ls : Array Slot), (0 ≤ x3_4.toInt ∧ x3_4.toInt ≤ 2147483647) → 2147483648 - x3_4.toInt ≤ (n : Int) → lv_has ls 4 [(3, .int x3_4), (2, .int x2_4), (0, .ref a0), (1, .int x1)] → W p l e (rmU 0 0 0) s m args below meth c s.heap [] 0 0 Q (F0 m 4 ls []) := by
    intro n
    induction n with
    | zero =>
      intro x3_4 x2_4 ls j4_0 hn hl
      exact absurd hn (by omega)
    | succ n ih4 =>
      intro x3_4 x2_4 ls j4_0 hn hl
      refine lv_iload_n hx hb dX5_smokeOf_4 rfl (lv_at hl 0 rfl) ?_
      refine lv_aload_n hx hb dX5_smokeOf_5 rfl (lv_at hl 2 rfl) ?_
      refine q_gi (T := TX5) C hO ga0 4 kF_X5_34 dX5_smokeOf_6 rfl rfl (by decide) rfl (by decide) rfl ?_
      have r1 : 0 ≤ (fI D s.heap 5 a0 4).toInt ∧ (fI D s.heap 5 a0 4).toInt ≤ 12 := hO.rng ga0 rfl (by decide) rfl
      have r3 := i_rng x3_4
      refine lv_icmp_ge (tgt := 58) hx hb dX5_smokeOf_9 (by decide) (fun c2 => ?_) (fun c2 => ?_)
      · have b2 : (fI D s.heap 5 a0 4).toInt ≤ x3_4.toInt := i_le.mp c2
        refine lv_iload_n hx hb dX5_smokeOf_58 rfl (lv_at hl 1 rfl) ?_
        exact retP_i hQ C hr dX5_smokeOf_59 (trivial)
      · have b2 : ¬ (fI D s.heap 5 a0 4).toInt ≤ x3_4.toInt := fun z9 => c2 (i_le.mpr z9)
        refine lv_aload_n hx hb dX5_smokeOf_12 rfl (lv_at hl 2 rfl) ?_
        refine q_gr (T := TX5) C hO ga0 1 kF_X5_19 dX5_smokeOf_13 rfl rfl (by decide) rfl (by decide) rfl (fun g4 => ?_)
        refine lv_iload_n hx hb dX5_smokeOf_16 rfl (lv_at hl 0 rfl) ?_
        refine q_aald C hO g4 (by omega) (by omega) dX5_smokeOf_17 rfl (by decide) rfl rfl (fun g5 => ?_)
        refine q_gi (T := TX1) C hO g5 0 kF_X5_77 dX5_smokeOf_18 rfl rfl (by decide) rfl (by decide) rfl ?_
        have r6 : 0 ≤ (fI D s.heap 1 (eR s.heap (fR D s.heap 5 a0 1) x3_4.toInt.toNat) 0).toInt ∧ (fI D s.heap 1 (eR s.heap (fR D s.heap 5 a0 1) x3_4.toInt.toNat) 0).toInt ≤ 5 := hO.rng g5 rfl (by decide) rfl
        refine lv_iload_n hx hb dX5_smokeOf_21 rfl (lv_at hl 3 rfl) ?_
        refine lv_icmp_ne (tgt := 52) hx hb dX5_smokeOf_22 (by decide) (fun c7 => ?_) (fun c7 => ?_)
        · have b7 : ¬ (fI D s.heap 1 (eR s.heap (fR D s.heap 5 a0 1) x3_4.toInt.toNat) 0).toInt = x1.toInt := fun z9 => c7 (i_eq.mpr z9)
          obtain ⟨v8, ev8⟩ : ∃ y : Int32, y = x3_4 + (1) := ⟨_, rfl⟩
          have k_1 : (1 : Int32).toInt = 1 := by decide
          have f9 : v8.toInt = x3_4.toInt + (1) := by rw [ev8]; exact i_addc k_1 (by omega) (by omega)
          refine lv_iinc (v := v8) (lv' := [(3, .int v8), (2, .int x2_4), (0, .ref a0), (1, .int x1)]) hx hb dX5_smokeOf_52 hl (k := 0) rfl (by rw [ev8]; rfl) (by decide) rfl (fun ls hl => ?_)
          refine lv_goto (tgt := 4) hx hb dX5_smokeOf_55 (by decide) ?_
          exact ih4 v8 x2_4 ls (by omega) (by omega) (lv_sub hl [0, 1, 2, 3] rfl)
        · have b7 : (fI D s.heap 1 (eR s.heap (fR D s.heap 5 a0 1) x3_4.toInt.toNat) 0).toInt = x1.toInt := i_eq.mp c7
          refine lv_aload_n hx hb dX5_smokeOf_25 rfl (lv_at hl 2 rfl) ?_
          refine q_gr (T := TX5) C hO ga0 1 kF_X5_19 dX5_smokeOf_26 rfl rfl (by decide) rfl (by decide) rfl (fun g10 => ?_)
          refine lv_iload_n hx hb dX5_smokeOf_29 rfl (lv_at hl 0 rfl) ?_
          refine q_aald C hO g10 (by omega) (by omega) dX5_smokeOf_30 rfl (by decide) rfl rfl (fun g11 => ?_)
          refine q_gi (T := TX1) C hO g11 5 kF_X5_80 dX5_smokeOf_31 rfl rfl (by decide) rfl (by decide) rfl ?_
          refine lv_iconst (v := 1) hx hb dX5_smokeOf_34 (by decide) ?_
          have k_1 : (1 : Int32).toInt = 1 := by decide
          refine lv_icmp_eq (tgt := 52) hx hb dX5_smokeOf_35 (by decide) (fun c12 => ?_) (fun c12 => ?_)
          · have b12 : (fI D s.heap 1 (eR s.heap (fR D s.heap 5 a0 1) x3_4.toInt.toNat) 5).toInt = (1 : Int32).toInt := i_eq.mp c12
            obtain ⟨v13, ev13⟩ : ∃ y : Int32, y = x3_4 + (1) := ⟨_, rfl⟩
            have f14 : v13.toInt = x3_4.toInt + (1) := by rw [ev13]; exact i_addc k_1 (by omega) (by omega)
            refine lv_iinc (v := v13) (lv' := [(3, .int v13), (2, .int x2_4), (0, .ref a0), (1, .int x1)]) hx hb dX5_smokeOf_52 hl (k := 0) rfl (by rw [ev13]; rfl) (by decide) rfl (fun ls hl => ?_)
            refine lv_goto (tgt := 4) hx hb dX5_smokeOf_55 (by decide) ?_
            exact ih4 v13 x2_4 ls (by omega) (by omega) (lv_sub hl [0, 1, 2, 3] rfl)
          · have b12 : ¬ (fI D s.heap 1 (eR s.heap (fR D s.heap 5 a0 1) x3_4.toInt.toNat) 5).toInt = (1 : Int32).toInt := fun z9 => c12 (i_eq.mpr z9)
            refine lv_iload_n hx hb dX5_smokeOf_38 rfl (lv_at hl 1 rfl) ?_
            refine lv_iconst (v := 1) hx hb dX5_smokeOf_39 (by decide) ?_
            refine lv_aload_n hx hb dX5_smokeOf_40 rfl (lv_at hl 2 rfl) ?_
            refine q_gr (T := TX5) C hO ga0 1 kF_X5_19 dX5_smokeOf_41 rfl rfl (by decide) rfl (by decide) rfl (fun g15 => ?_)
            refine lv_iload_n hx hb dX5_smokeOf_44 rfl (lv_at hl 0 rfl) ?_
            refine q_aald C hO g15 (by omega) (by omega) dX5_smokeOf_45 rfl (by decide) rfl rfl (fun g16 => ?_)
            refine q_gi (T := TX1) C hO g16 2 kF_X5_132 dX5_smokeOf_46 rfl rfl (by decide) rfl (by decide) rfl ?_
            refine lv_ishl hx hb dX5_smokeOf_49 ?_
            refine lv_topi (fun v17 ev17 => ?_)
            refine lv_ior hx hb dX5_smokeOf_50 ?_
            refine lv_topi (fun v18 ev18 => ?_)
            refine lv_istore_n (lv' := [(2, .int v18), (3, .int x3_4), (0, .ref a0), (1, .int x1)]) hx hb dX5_smokeOf_51 rfl hl (by decide) rfl (fun ls hl => ?_)
            obtain ⟨v19, ev19⟩ : ∃ y : Int32, y = x3_4 + (1) := ⟨_, rfl⟩
            have f20 : v19.toInt = x3_4.toInt + (1) := by rw [ev19]; exact i_addc k_1 (by omega) (by omega)
            refine lv_iinc (v := v19) (lv' := [(3, .int v19), (2, .int v18), (0, .ref a0), (1, .int x1)]) hx hb dX5_smokeOf_52 hl (k := 1) rfl (by rw [ev19]; rfl) (by decide) rfl (fun ls hl => ?_)
            refine lv_goto (tgt := 4) hx hb dX5_smokeOf_55 (by decide) ?_
            exact ih4 v19 v18 ls (by omega) (by omega) (lv_sub hl [0, 1, 2, 3] rfl)
  have k_0 : (0 : Int32).toInt = 0 := by decide
  exact Lp4 2147483648 (0 : Int32) (0 : Int32) ls (by omega)  (by omega) (lv_sub hl [0, 1, 2, 3] rfl)

set_option maxRecDepth 100000 in
set_option maxHeartbeats 4000000 in
theorem c_X5_shareOf (l : Launch) (D : DD) (G : Nat → Nat) (a0 : Nat) (x1 : Int32) (ga0 : G a0 = 4) : CE l D G yX5_shareOf cX5_shareOf 4 (some .int) 4 [.ref a0, .int x1] (fun _ => True) [(14, 0), (15, 0)] (xI (fun H r H1 => True)) := by
  refine enter (by decide) (Nat.le_of_ble_eq_true rfl) ?_
  intro p e s m args below meth c ls Q hA hQ C hr hO hpre hl
  have hx := C.1
  have hb := C.2.1
  have S : Sd D G [(14, 0), (15, 0)] s.heap s.heap [] := Sd.start hO
  have hl : lv_has ls 4 [(0, .ref a0), (1, .int x1)] := hl
  refine lv_iconst (v := 0) hx hb dX5_shareOf_0 (by decide) ?_
  refine lv_istore_n (lv' := [(2, .int (0 : Int32)), (0, .ref a0), (1, .int x1)]) hx hb dX5_shareOf_1 rfl hl (by decide) rfl (fun ls hl => ?_)
  refine lv_iconst (v := 0) hx hb dX5_shareOf_2 (by decide) ?_
  refine lv_istore_n (lv' := [(3, .int (0 : Int32)), (2, .int (0 : Int32)), (0, .ref a0), (1, .int x1)]) hx hb dX5_shareOf_3 rfl hl (by decide) rfl (fun ls hl => ?_)
  have Lp4 : ∀ (n : Nat) (x3_4 : Int32) (x2_4 : Int32) (H_4 : Heap) (L_4 : List Loc) (ls : Array Slot), (Sd D G [(14, 0), (15, 0)] s.heap H_4 L_4) → (0 ≤ x3_4.toInt ∧ x3_4.toInt ≤ 2147483647) → 2147483648 - x3_4.toInt ≤ (n : Int) → lv_has ls 4 [(3, .int x3_4), (2, .int x2_4), (0, .ref a0), (1, .int x1)] → W p l e (rmU 4 0 0) s m args below meth c H_4 L_4 0 0 Q (F0 m 4 ls []) := by
    intro n
    induction n with
    | zero =>
      intro x3_4 x2_4 H_4 L_4 ls S_4 j4_0 hn hl
      exact absurd hn (by omega)
    | succ n ih4 =>
      intro x3_4 x2_4 H_4 L_4 ls S_4 j4_0 hn hl
      refine lv_iload_n hx hb dX5_shareOf_4 rfl (lv_at hl 0 rfl) ?_
      refine lv_aload_n hx hb dX5_shareOf_5 rfl (lv_at hl 2 rfl) ?_
      refine q_gi (T := TX5) C S_4.1 ga0 3 kF_X5_30 dX5_shareOf_6 rfl rfl (by decide) rfl (by decide) rfl ?_
      have r1 : 0 ≤ (fI D H_4 5 a0 3).toInt ∧ (fI D H_4 5 a0 3).toInt ≤ 6 := S_4.1.rng ga0 rfl (by decide) rfl
      have r3 := i_rng x3_4
      refine lv_icmp_ge (tgt := 26) hx hb dX5_shareOf_9 (by decide) (fun c2 => ?_) (fun c2 => ?_)
      · have b2 : (fI D H_4 5 a0 3).toInt ≤ x3_4.toInt := i_le.mp c2
        refine lv_iload_n hx hb dX5_shareOf_26 rfl (lv_at hl 1 rfl) ?_
        have k_0 : (0 : Int32).toInt = 0 := by decide
        refine lv_if_ne (tgt := 34) hx hb dX5_shareOf_27 (by decide) (fun c4 => ?_) (fun c4 => ?_)
        · have b4 : ¬ x2_4.toInt = (0 : Int32).toInt := fun z9 => c4 (i_eq.mpr z9)
          refine lv_aload_n hx hb dX5_shareOf_34 rfl (lv_at hl 2 rfl) ?_
          refine lv_iload_n hx hb dX5_shareOf_35 rfl (lv_at hl 3 rfl) ?_
          refine callV_Ei C S_4 (c_X5_paysOf l D G a0 x1 ga0) kV_X5_135 ga0 (trivial) (by decide +kernel) dX5_shareOf_36 hl.1 rfl rfl (by decide) cd_X5_paysOf ⟨Nat.le_of_ble_eq_true rfl, Nat.le_of_ble_eq_true rfl, Nat.le_of_ble_eq_true rfl, Nat.le_of_ble_eq_true rfl, Nat.le_of_ble_eq_true rfl⟩ (fun v5 H5 L5 S5 K5 q5 => ?_)
          refine lv_bipush (v := 100) hx hb dX5_shareOf_39 (by decide) ?_
          have k_100 : (100 : Int32).toInt = 100 := by decide
          refine lv_imul hx hb dX5_shareOf_41 ?_
          refine lv_topi (fun v6 ev6 => ?_)
          refine lv_iload_n hx hb dX5_shareOf_42 rfl (lv_at hl 1 rfl) ?_
          refine lv_idiv hx hb dX5_shareOf_43 (by first | decide | (intro z9; have := i_eq.mp z9; simp at this; omega) | assumption) ?_
          refine lv_topi (fun v7 ev7 => ?_)
          exact retE_i hQ C S5 hr dX5_shareOf_44 (trivial)
        · have b4 : x2_4.toInt = (0 : Int32).toInt := i_eq.mp c4
          refine lv_iconst (v := 0) hx hb dX5_shareOf_30 (by decide) ?_
          refine lv_goto (tgt := 44) hx hb dX5_shareOf_31 (by decide) ?_
          exact retE_i hQ C S_4 hr dX5_shareOf_44 (trivial)
      · have b2 : ¬ (fI D H_4 5 a0 3).toInt ≤ x3_4.toInt := fun z9 => c2 (i_le.mpr z9)
        refine lv_iload_n hx hb dX5_shareOf_12 rfl (lv_at hl 1 rfl) ?_
        refine lv_aload_n hx hb dX5_shareOf_13 rfl (lv_at hl 2 rfl) ?_
        refine lv_iload_n hx hb dX5_shareOf_14 rfl (lv_at hl 0 rfl) ?_
        refine callV_Ei C S_4 (c_X5_paysOf l D G a0 x3_4 ga0) kV_X5_135 ga0 (trivial) (by decide +kernel) dX5_shareOf_15 hl.1 rfl rfl (by decide) cd_X5_paysOf ⟨Nat.le_of_ble_eq_true rfl, Nat.le_of_ble_eq_true rfl, Nat.le_of_ble_eq_true rfl, Nat.le_of_ble_eq_true rfl, Nat.le_of_ble_eq_true rfl⟩ (fun v8 H8 L8 S8 K8 q8 => ?_)
        refine lv_iadd hx hb dX5_shareOf_18 ?_
        refine lv_topi (fun v9 ev9 => ?_)
        refine lv_istore_n (lv' := [(2, .int v9), (3, .int x3_4), (0, .ref a0), (1, .int x1)]) hx hb dX5_shareOf_19 rfl hl (by decide) rfl (fun ls hl => ?_)
        obtain ⟨v10, ev10⟩ : ∃ y : Int32, y = x3_4 + (1) := ⟨_, rfl⟩
        have k_1 : (1 : Int32).toInt = 1 := by decide
        have f11 : v10.toInt = x3_4.toInt + (1) := by rw [ev10]; exact i_addc k_1 (by omega) (by omega)
        refine lv_iinc (v := v10) (lv' := [(3, .int v10), (2, .int v9), (0, .ref a0), (1, .int x1)]) hx hb dX5_shareOf_20 hl (k := 1) rfl (by rw [ev10]; rfl) (by decide) rfl (fun ls hl => ?_)
        refine lv_goto (tgt := 4) hx hb dX5_shareOf_23 (by decide) ?_
        exact ih4 v10 v9 H8 L8 ls S8 (by omega) (by omega) (lv_sub hl [0, 1, 2, 3] rfl)
  have k_0 : (0 : Int32).toInt = 0 := by decide
  exact Lp4 2147483648 (0 : Int32) (0 : Int32) s.heap [] ls S (by omega)  (by omega) (lv_sub hl [0, 1, 2, 3] rfl)

set_option maxRecDepth 100000 in
set_option maxHeartbeats 4000000 in
theorem c_X5_isSeenFrom (l : Launch) (D : DD) (G : Nat → Nat) (a0 : Nat) (x1 : Int32) (ga0 : G a0 = 4) : CP l D G yX5_isSeenFrom cX5_isSeenFrom 3 (some .boolean) 1 [.ref a0, .int x1] (fun _ => True) (pI (fun H r => 0 ≤ r.toInt ∧ r.toInt ≤ 1)) := by
  refine enter (by decide) (Nat.le_of_ble_eq_true rfl) ?_
  intro p e s m args below meth c ls Q hA hQ C hr hO hpre hl
  have hx := C.1
  have hb := C.2.1
  have hl : lv_has ls 3 [(0, .ref a0), (1, .int x1)] := hl
  refine lv_iconst (v := 0) hx hb dX5_isSeenFrom_0 (by decide) ?_
  refine lv_istore_n (lv' := [(2, .int (0 : Int32)), (0, .ref a0), (1, .int x1)]) hx hb dX5_isSeenFrom_1 rfl hl (by decide) rfl (fun ls hl => ?_)
  have Lp2 : ∀ (n : Nat) (x2_2 : Int32) (ls : Array Slot), (0 ≤ x2_2.toInt ∧ x2_2.toInt ≤ 2147483647) → 2147483648 - x2_2.toInt ≤ (n : Int) → lv_has ls 3 [(2, .int x2_2), (0, .ref a0), (1, .int x1)] → W p l e (rmU 1 0 0) s m args below meth c s.heap [] 0 0 Q (F0 m 2 ls []) := by
    intro n
    induction n with
    | zero =>
      intro x2_2 ls j2_0 hn hl
      exact absurd hn (by omega)
    | succ n ih2 =>
      intro x2_2 ls j2_0 hn hl
      refine lv_iload_n hx hb dX5_isSeenFrom_2 rfl (lv_at hl 0 rfl) ?_
      refine lv_aload_n hx hb dX5_isSeenFrom_3 rfl (lv_at hl 1 rfl) ?_
      refine q_gi (T := TX5) C hO ga0 3 kF_X5_30 dX5_isSeenFrom_4 rfl rfl (by decide) rfl (by decide) rfl ?_
      have r1 : 0 ≤ (fI D s.heap 5 a0 3).toInt ∧ (fI D s.heap 5 a0 3).toInt ≤ 6 := hO.rng ga0 rfl (by decide) rfl
      have r3 := i_rng x2_2
      refine lv_icmp_ge (tgt := 40) hx hb dX5_isSeenFrom_7 (by decide) (fun c2 => ?_) (fun c2 => ?_)
      · have b2 : (fI D s.heap 5 a0 3).toInt ≤ x2_2.toInt := i_le.mp c2
        refine lv_iconst (v := 1) hx hb dX5_isSeenFrom_40 (by decide) ?_
        have k_1 : (1 : Int32).toInt = 1 := by decide
        exact retP_z hQ C hr dX5_isSeenFrom_41 (z01 (by omega) (by omega)) (by omega)
      · have b2 : ¬ (fI D s.heap 5 a0 3).toInt ≤ x2_2.toInt := fun z9 => c2 (i_le.mpr z9)
        refine lv_aload_n hx hb dX5_isSeenFrom_10 rfl (lv_at hl 1 rfl) ?_
        refine lv_iload_n hx hb dX5_isSeenFrom_11 rfl (lv_at hl 0 rfl) ?_
        refine callV_Pi C hO (fun _ _ _ => rfl) (c_X5_smokeOf l D G a0 x2_2 ga0) kV_X5_138 ga0 (trivial) dX5_isSeenFrom_12 hl.1 rfl rfl (by decide) cd_X5_smokeOf ⟨Nat.le_of_ble_eq_true rfl, Nat.le_of_ble_eq_true rfl, Nat.le_of_ble_eq_true rfl, Nat.le_of_ble_eq_true rfl, Nat.le_of_ble_eq_true rfl⟩ (fun v4 q4 => ?_)
        have k_0 : (0 : Int32).toInt = 0 := by decide
        refine lv_if_eq (tgt := 34) hx hb dX5_isSeenFrom_15 (by decide) (fun c5 => ?_) (fun c5 => ?_)
        · have b5 : v4.toInt = (0 : Int32).toInt := i_eq.mp c5
          obtain ⟨v6, ev6⟩ : ∃ y : Int32, y = x2_2 + (1) := ⟨_, rfl⟩
          have k_1 : (1 : Int32).toInt = 1 := by decide
          have f7 : v6.toInt = x2_2.toInt + (1) := by rw [ev6]; exact i_addc k_1 (by omega) (by omega)
          refine lv_iinc (v := v6) (lv' := [(2, .int v6), (0, .ref a0), (1, .int x1)]) hx hb dX5_isSeenFrom_34 hl (k := 0) rfl (by rw [ev6]; rfl) (by decide) rfl (fun ls hl => ?_)
          refine lv_goto (tgt := 2) hx hb dX5_isSeenFrom_37 (by decide) ?_
          exact ih2 v6 ls (by omega) (by omega) (lv_sub hl [0, 1, 2] rfl)
        · have b5 : ¬ v4.toInt = (0 : Int32).toInt := fun z9 => c5 (i_eq.mpr z9)
          refine lv_aload_n hx hb dX5_isSeenFrom_18 rfl (lv_at hl 1 rfl) ?_
          refine q_gr (T := TX5) C hO ga0 0 kF_X5_11 dX5_isSeenFrom_19 rfl rfl (by decide) rfl (by decide) rfl (fun g8 => ?_)
          refine lv_iload_n hx hb dX5_isSeenFrom_22 rfl (lv_at hl 0 rfl) ?_
          refine q_aald C hO g8 (by omega) (by omega) dX5_isSeenFrom_23 rfl (by decide) rfl rfl (fun g9 => ?_)
          refine q_gi (T := TX2) C hO g9 3 kF_X5_141 dX5_isSeenFrom_24 rfl rfl (by decide) rfl (by decide) rfl ?_
          refine lv_iload_n hx hb dX5_isSeenFrom_27 rfl (lv_at hl 2 rfl) ?_
          refine lv_iand hx hb dX5_isSeenFrom_28 ?_
          refine lv_topi (fun v10 ev10 => ?_)
          refine lv_if_ne (tgt := 34) hx hb dX5_isSeenFrom_29 (by decide) (fun c11 => ?_) (fun c11 => ?_)
          · have b11 : ¬ v10.toInt = (0 : Int32).toInt := fun z9 => c11 (i_eq.mpr z9)
            obtain ⟨v12, ev12⟩ : ∃ y : Int32, y = x2_2 + (1) := ⟨_, rfl⟩
            have k_1 : (1 : Int32).toInt = 1 := by decide
            have f13 : v12.toInt = x2_2.toInt + (1) := by rw [ev12]; exact i_addc k_1 (by omega) (by omega)
            refine lv_iinc (v := v12) (lv' := [(2, .int v12), (0, .ref a0), (1, .int x1)]) hx hb dX5_isSeenFrom_34 hl (k := 0) rfl (by rw [ev12]; rfl) (by decide) rfl (fun ls hl => ?_)
            refine lv_goto (tgt := 2) hx hb dX5_isSeenFrom_37 (by decide) ?_
            exact ih2 v12 ls (by omega) (by omega) (lv_sub hl [0, 1, 2] rfl)
          · have b11 : v10.toInt = (0 : Int32).toInt := i_eq.mp c11
            refine lv_iconst (v := 0) hx hb dX5_isSeenFrom_32 (by decide) ?_
            exact retP_z hQ C hr dX5_isSeenFrom_33 (z01 (by omega) (by omega)) (by omega)
  have k_0 : (0 : Int32).toInt = 0 := by decide
  exact Lp2 2147483648 (0 : Int32) ls (by omega)  (by omega) (lv_sub hl [0, 1, 2] rfl)

set_option maxRecDepth 100000 in
set_option maxHeartbeats 4000000 in
theorem c_X5_sharing (l : Launch) (D : DD) (G : Nat → Nat) (a0 : Nat) (x1 : Int32) (x2 : Int32) (ga0 : G a0 = 4) : CP l D G yX5_sharing cX5_sharing 5 (some .int) 0 [.ref a0, .int x1, .int x2] (fun _ => True) (pI (fun H r => True)) := by
  refine enter (by decide) (Nat.le_of_ble_eq_true rfl) ?_
  intro p e s m args below meth c ls Q hA hQ C hr hO hpre hl
  have hx := C.1
  have hb := C.2.1
  have hl : lv_has ls 5 [(0, .ref a0), (1, .int x1), (2, .int x2)] := hl
  refine lv_iconst (v := 0) hx hb dX5_sharing_0 (by decide) ?_
  refine lv_istore_n (lv' := [(3, .int (0 : Int32)), (0, .ref a0), (1, .int x1), (2, .int x2)]) hx hb dX5_sharing_1 rfl hl (by decide) rfl (fun ls hl => ?_)
  refine lv_iconst (v := 0) hx hb dX5_sharing_2 (by decide) ?_
  refine lv_istore (lv' := [(4, .int (0 : Int32)), (3, .int (0 : Int32)), (0, .ref a0), (1, .int x1), (2, .int x2)]) hx hb dX5_sharing_3 hl (by decide) rfl (fun ls hl => ?_)
  have Lp5 : ∀ (n : Nat) (x4_5 : Int32) (x3_5 : Int32) (ls : Array Slot), (0 ≤ x4_5.toInt ∧ x4_5.toInt ≤ 2147483647) → 2147483648 - x4_5.toInt ≤ (n : Int) → lv_has ls 5 [(4, .int x4_5), (3, .int x3_5), (0, .ref a0), (1, .int x1), (2, .int x2)] → W p l e (rmU 0 0 0) s m args below meth c s.heap [] 0 0 Q (F0 m 5 ls []) := by
    intro n
    induction n with
    | zero =>
      intro x4_5 x3_5 ls j5_0 hn hl
      exact absurd hn (by omega)
    | succ n ih5 =>
      intro x4_5 x3_5 ls j5_0 hn hl
      refine lv_iload hx hb dX5_sharing_5 (lv_at hl 0 rfl) ?_
      refine lv_aload_n hx hb dX5_sharing_7 rfl (lv_at hl 2 rfl) ?_
      refine q_gi (T := TX5) C hO ga0 4 kF_X5_34 dX5_sharing_8 rfl rfl (by decide) rfl (by decide) rfl ?_
      have r1 : 0 ≤ (fI D s.heap 5 a0 4).toInt ∧ (fI D s.heap 5 a0 4).toInt ≤ 12 := hO.rng ga0 rfl (by decide) rfl
      have r3 := i_rng x4_5
      refine lv_icmp_ge (tgt := 51) hx hb dX5_sharing_11 (by decide) (fun c2 => ?_) (fun c2 => ?_)
      · have b2 : (fI D s.heap 5 a0 4).toInt ≤ x4_5.toInt := i_le.mp c2
        refine lv_iload_n hx hb dX5_sharing_51 rfl (lv_at hl 1 rfl) ?_
        exact retP_i hQ C hr dX5_sharing_52 (trivial)
      · have b2 : ¬ (fI D s.heap 5 a0 4).toInt ≤ x4_5.toInt := fun z9 => c2 (i_le.mpr z9)
        refine lv_aload_n hx hb dX5_sharing_14 rfl (lv_at hl 2 rfl) ?_
        refine q_gr (T := TX5) C hO ga0 1 kF_X5_19 dX5_sharing_15 rfl rfl (by decide) rfl (by decide) rfl (fun g4 => ?_)
        refine lv_iload hx hb dX5_sharing_18 (lv_at hl 0 rfl) ?_
        refine q_aald C hO g4 (by omega) (by omega) dX5_sharing_20 rfl (by decide) rfl rfl (fun g5 => ?_)
        refine q_gi (T := TX1) C hO g5 0 kF_X5_77 dX5_sharing_21 rfl rfl (by decide) rfl (by decide) rfl ?_
        have r6 : 0 ≤ (fI D s.heap 1 (eR s.heap (fR D s.heap 5 a0 1) x4_5.toInt.toNat) 0).toInt ∧ (fI D s.heap 1 (eR s.heap (fR D s.heap 5 a0 1) x4_5.toInt.toNat) 0).toInt ≤ 5 := hO.rng g5 rfl (by decide) rfl
        refine lv_iload_n hx hb dX5_sharing_24 rfl (lv_at hl 3 rfl) ?_
        refine lv_icmp_ne (tgt := 45) hx hb dX5_sharing_25 (by decide) (fun c7 => ?_) (fun c7 => ?_)
        · have b7 : ¬ (fI D s.heap 1 (eR s.heap (fR D s.heap 5 a0 1) x4_5.toInt.toNat) 0).toInt = x1.toInt := fun z9 => c7 (i_eq.mpr z9)
          obtain ⟨v8, ev8⟩ : ∃ y : Int32, y = x4_5 + (1) := ⟨_, rfl⟩
          have k_1 : (1 : Int32).toInt = 1 := by decide
          have f9 : v8.toInt = x4_5.toInt + (1) := by rw [ev8]; exact i_addc k_1 (by omega) (by omega)
          refine lv_iinc (v := v8) (lv' := [(4, .int v8), (3, .int x3_5), (0, .ref a0), (1, .int x1), (2, .int x2)]) hx hb dX5_sharing_45 hl (k := 0) rfl (by rw [ev8]; rfl) (by decide) rfl (fun ls hl => ?_)
          refine lv_goto (tgt := 5) hx hb dX5_sharing_48 (by decide) ?_
          exact ih5 v8 x3_5 ls (by omega) (by omega) (lv_sub hl [0, 1, 2, 3, 4] rfl)
        · have b7 : (fI D s.heap 1 (eR s.heap (fR D s.heap 5 a0 1) x4_5.toInt.toNat) 0).toInt = x1.toInt := i_eq.mp c7
          refine lv_aload_n hx hb dX5_sharing_28 rfl (lv_at hl 2 rfl) ?_
          refine q_gr (T := TX5) C hO ga0 1 kF_X5_19 dX5_sharing_29 rfl rfl (by decide) rfl (by decide) rfl (fun g10 => ?_)
          refine lv_iload hx hb dX5_sharing_32 (lv_at hl 0 rfl) ?_
          refine q_aald C hO g10 (by omega) (by omega) dX5_sharing_34 rfl (by decide) rfl rfl (fun g11 => ?_)
          refine q_gi (T := TX1) C hO g11 2 kF_X5_132 dX5_sharing_35 rfl rfl (by decide) rfl (by decide) rfl ?_
          refine lv_iload_n hx hb dX5_sharing_38 rfl (lv_at hl 4 rfl) ?_
          refine lv_icmp_ne (tgt := 45) hx hb dX5_sharing_39 (by decide) (fun c12 => ?_) (fun c12 => ?_)
          · have b12 : ¬ (fI D s.heap 1 (eR s.heap (fR D s.heap 5 a0 1) x4_5.toInt.toNat) 2).toInt = x2.toInt := fun z9 => c12 (i_eq.mpr z9)
            obtain ⟨v13, ev13⟩ : ∃ y : Int32, y = x4_5 + (1) := ⟨_, rfl⟩
            have k_1 : (1 : Int32).toInt = 1 := by decide
            have f14 : v13.toInt = x4_5.toInt + (1) := by rw [ev13]; exact i_addc k_1 (by omega) (by omega)
            refine lv_iinc (v := v13) (lv' := [(4, .int v13), (3, .int x3_5), (0, .ref a0), (1, .int x1), (2, .int x2)]) hx hb dX5_sharing_45 hl (k := 0) rfl (by rw [ev13]; rfl) (by decide) rfl (fun ls hl => ?_)
            refine lv_goto (tgt := 5) hx hb dX5_sharing_48 (by decide) ?_
            exact ih5 v13 x3_5 ls (by omega) (by omega) (lv_sub hl [0, 1, 2, 3, 4] rfl)
          · have b12 : (fI D s.heap 1 (eR s.heap (fR D s.heap 5 a0 1) x4_5.toInt.toNat) 2).toInt = x2.toInt := i_eq.mp c12
            obtain ⟨v15, ev15⟩ : ∃ y : Int32, y = x3_5 + (1) := ⟨_, rfl⟩
            have r16 := i_rng x3_5
            refine lv_iinc (v := v15) (lv' := [(3, .int v15), (4, .int x4_5), (0, .ref a0), (1, .int x1), (2, .int x2)]) hx hb dX5_sharing_42 hl (k := 1) rfl (by rw [ev15]; rfl) (by decide) rfl (fun ls hl => ?_)
            obtain ⟨v17, ev17⟩ : ∃ y : Int32, y = x4_5 + (1) := ⟨_, rfl⟩
            have k_1 : (1 : Int32).toInt = 1 := by decide
            have f18 : v17.toInt = x4_5.toInt + (1) := by rw [ev17]; exact i_addc k_1 (by omega) (by omega)
            refine lv_iinc (v := v17) (lv' := [(4, .int v17), (3, .int v15), (0, .ref a0), (1, .int x1), (2, .int x2)]) hx hb dX5_sharing_45 hl (k := 1) rfl (by rw [ev17]; rfl) (by decide) rfl (fun ls hl => ?_)
            refine lv_goto (tgt := 5) hx hb dX5_sharing_48 (by decide) ?_
            exact ih5 v17 v15 ls (by omega) (by omega) (lv_sub hl [0, 1, 2, 3, 4] rfl)
  have k_0 : (0 : Int32).toInt = 0 := by decide
  exact Lp5 2147483648 (0 : Int32) (0 : Int32) ls (by omega)  (by omega) (lv_sub hl [0, 1, 2, 3, 4] rfl)

set_option maxRecDepth 100000 in
set_option maxHeartbeats 4000000 in
theorem c_X5_purses (l : Launch) (D : DD) (G : Nat → Nat) (a0 : Nat) (ga0 : G a0 = 4) : CP l D G yX5_purses cX5_purses 3 (some .int) 0 [.ref a0] (fun _ => True) (pI (fun H r => True)) := by
  refine enter (by decide) (Nat.le_of_ble_eq_true rfl) ?_
  intro p e s m args below meth c ls Q hA hQ C hr hO hpre hl
  have hx := C.1
  have hb := C.2.1
  have hl : lv_has ls 3 [(0, .ref a0)] := hl
  refine lv_iconst (v := 0) hx hb dX5_purses_0 (by decide) ?_
  refine lv_istore_n (lv' := [(1, .int (0 : Int32)), (0, .ref a0)]) hx hb dX5_purses_1 rfl hl (by decide) rfl (fun ls hl => ?_)
  refine lv_iconst (v := 0) hx hb dX5_purses_2 (by decide) ?_
  refine lv_istore_n (lv' := [(2, .int (0 : Int32)), (1, .int (0 : Int32)), (0, .ref a0)]) hx hb dX5_purses_3 rfl hl (by decide) rfl (fun ls hl => ?_)
  have Lp4 : ∀ (n : Nat) (x2_4 : Int32) (x1_4 : Int32) (ls : Array Slot), (0 ≤ x2_4.toInt ∧ x2_4.toInt ≤ 2147483647) → 2147483648 - x2_4.toInt ≤ (n : Int) → lv_has ls 3 [(2, .int x2_4), (1, .int x1_4), (0, .ref a0)] → W p l e (rmU 0 0 0) s m args below meth c s.heap [] 0 0 Q (F0 m 4 ls []) := by
    intro n
    induction n with
    | zero =>
      intro x2_4 x1_4 ls j4_0 hn hl
      exact absurd hn (by omega)
    | succ n ih4 =>
      intro x2_4 x1_4 ls j4_0 hn hl
      refine lv_iload_n hx hb dX5_purses_4 rfl (lv_at hl 0 rfl) ?_
      refine lv_aload_n hx hb dX5_purses_5 rfl (lv_at hl 2 rfl) ?_
      refine q_gi (T := TX5) C hO ga0 3 kF_X5_30 dX5_purses_6 rfl rfl (by decide) rfl (by decide) rfl ?_
      have r1 : 0 ≤ (fI D s.heap 5 a0 3).toInt ∧ (fI D s.heap 5 a0 3).toInt ≤ 6 := hO.rng ga0 rfl (by decide) rfl
      have r3 := i_rng x2_4
      refine lv_icmp_ge (tgt := 30) hx hb dX5_purses_9 (by decide) (fun c2 => ?_) (fun c2 => ?_)
      · have b2 : (fI D s.heap 5 a0 3).toInt ≤ x2_4.toInt := i_le.mp c2
        refine lv_iload_n hx hb dX5_purses_30 rfl (lv_at hl 1 rfl) ?_
        exact retP_i hQ C hr dX5_purses_31 (trivial)
      · have b2 : ¬ (fI D s.heap 5 a0 3).toInt ≤ x2_4.toInt := fun z9 => c2 (i_le.mpr z9)
        refine lv_iload_n hx hb dX5_purses_12 rfl (lv_at hl 1 rfl) ?_
        refine lv_aload_n hx hb dX5_purses_13 rfl (lv_at hl 2 rfl) ?_
        refine q_gr (T := TX5) C hO ga0 0 kF_X5_11 dX5_purses_14 rfl rfl (by decide) rfl (by decide) rfl (fun g4 => ?_)
        refine lv_iload_n hx hb dX5_purses_17 rfl (lv_at hl 0 rfl) ?_
        refine q_aald C hO g4 (by omega) (by omega) dX5_purses_18 rfl (by decide) rfl rfl (fun g5 => ?_)
        refine q_gi (T := TX2) C hO g5 0 kF_X5_144 dX5_purses_19 rfl rfl (by decide) rfl (by decide) rfl ?_
        refine lv_iadd hx hb dX5_purses_22 ?_
        refine lv_topi (fun v6 ev6 => ?_)
        refine lv_istore_n (lv' := [(1, .int v6), (2, .int x2_4), (0, .ref a0)]) hx hb dX5_purses_23 rfl hl (by decide) rfl (fun ls hl => ?_)
        obtain ⟨v7, ev7⟩ : ∃ y : Int32, y = x2_4 + (1) := ⟨_, rfl⟩
        have k_1 : (1 : Int32).toInt = 1 := by decide
        have f8 : v7.toInt = x2_4.toInt + (1) := by rw [ev7]; exact i_addc k_1 (by omega) (by omega)
        refine lv_iinc (v := v7) (lv' := [(2, .int v7), (1, .int v6), (0, .ref a0)]) hx hb dX5_purses_24 hl (k := 1) rfl (by rw [ev7]; rfl) (by decide) rfl (fun ls hl => ?_)
        refine lv_goto (tgt := 4) hx hb dX5_purses_27 (by decide) ?_
        exact ih4 v7 v6 ls (by omega) (by omega) (lv_sub hl [0, 1, 2] rfl)
  have k_0 : (0 : Int32).toInt = 0 := by decide
  exact Lp4 2147483648 (0 : Int32) (0 : Int32) ls (by omega)  (by omega) (lv_sub hl [0, 1, 2] rfl)

set_option maxRecDepth 100000 in
set_option maxHeartbeats 4000000 in
theorem c_X5_draw (l : Launch) (D : DD) (G : Nat → Nat) (a0 : Nat) (ga0 : G a0 = 4) : CE l D G yX5_draw cX5_draw 1 (some .int) 0 [.ref a0] (fun _ => True) [(4, 12)] (xI (fun H r H1 => True)) := by
  refine enter (by decide) (Nat.le_of_ble_eq_true rfl) ?_
  intro p e s m args below meth c ls Q hA hQ C hr hO hpre hl
  have hx := C.1
  have hb := C.2.1
  have S : Sd D G [(4, 12)] s.heap s.heap [] := Sd.start hO
  have hl : lv_has ls 1 [(0, .ref a0)] := hl
  refine lv_aload_n hx hb dX5_draw_0 rfl (lv_at hl 0 rfl) ?_
  refine lv_ldc hx hb C.2.2.2.1 (C.2.2.2.2.1 _ kC_X5_165) dX5_draw_1 ?_
  refine lv_aload_n hx hb dX5_draw_3 rfl (lv_at hl 0 rfl) ?_
  refine q_gi (T := TX5) C S.1 ga0 12 kF_X5_58 dX5_draw_4 rfl rfl (by decide) rfl (by decide) rfl ?_
  have k_1103515245 : (1103515245 : Int32).toInt = 1103515245 := by decide
  refine lv_imul hx hb dX5_draw_7 ?_
  refine lv_topi (fun v1 ev1 => ?_)
  refine lv_sipush (v := 12345) hx hb dX5_draw_8 (by decide) ?_
  have k_12345 : (12345 : Int32).toInt = 12345 := by decide
  refine lv_iadd hx hb dX5_draw_11 ?_
  refine lv_topi (fun v2 ev2 => ?_)
  refine q_put (T := TX5) C S ga0 12 kF_X5_58 dX5_draw_12 rfl rfl (by decide) (by decide) rfl rfl rfl rfl rfl (vok_a rfl) (by decide +kernel) (fun H3 L3 S3 P3 => ?_)
  refine lv_aload_n hx hb dX5_draw_15 rfl (lv_at hl 0 rfl) ?_
  refine q_gi (T := TX5) C S3.1 ga0 12 kF_X5_58 dX5_draw_16 rfl rfl (by decide) rfl (by decide) rfl ?_
  refine lv_bipush (v := 16) hx hb dX5_draw_19 (by decide) ?_
  have k_16 : (16 : Int32).toInt = 16 := by decide
  refine lv_iushr hx hb dX5_draw_21 rfl ?_
  refine lv_topi (fun v4 ev4 => ?_)
  refine lv_sipush (v := 32767) hx hb dX5_draw_22 (by decide) ?_
  have k_32767 : (32767 : Int32).toInt = 32767 := by decide
  refine lv_iand hx hb dX5_draw_25 ?_
  have r5 := i_rng v4
  refine lv_topi (fun v6 ev6 => ?_)
  have f7 : 0 ≤ v6.toInt ∧ v6.toInt ≤ (32767 : Int32).toInt := by rw [ev6]; exact i_and (by omega)
  exact retE_i hQ C S3 hr dX5_draw_26 (trivial)

set_option maxRecDepth 100000 in
set_option maxHeartbeats 4000000 in
theorem c_X5_manComes (l : Launch) (D : DD) (G : Nat → Nat) (a0 : Nat) (a1 : Nat) (ga0 : G a0 = 4) (ga1 : G a1 = 7) : CE l D G yX5_manComes cX5_manComes 2 (some .boolean) 1 [.ref a0, .ref a1] (fun _ => True) [(4, 12)] (xI (fun H r H1 => 0 ≤ r.toInt ∧ r.toInt ≤ 1)) := by
  refine enter (by decide) (Nat.le_of_ble_eq_true rfl) ?_
  intro p e s m args below meth c ls Q hA hQ C hr hO hpre hl
  have hx := C.1
  have hb := C.2.1
  have S : Sd D G [(4, 12)] s.heap s.heap [] := Sd.start hO
  have hl : lv_has ls 2 [(0, .ref a0), (1, .ref a1)] := hl
  refine lv_aload_n hx hb dX5_manComes_0 rfl (lv_at hl 0 rfl) ?_
  refine callV_Ei C S (c_X5_draw l D G a0 ga0) kV_X5_154 ga0 (trivial) (by decide +kernel) dX5_manComes_1 hl.1 rfl rfl (by decide) cd_X5_draw ⟨Nat.le_of_ble_eq_true rfl, Nat.le_of_ble_eq_true rfl, Nat.le_of_ble_eq_true rfl, Nat.le_of_ble_eq_true rfl, Nat.le_of_ble_eq_true rfl⟩ (fun v1 H1 L1 S1 K1 q1 => ?_)
  refine lv_bipush (v := 100) hx hb dX5_manComes_4 (by decide) ?_
  have k_100 : (100 : Int32).toInt = 100 := by decide
  refine lv_irem hx hb dX5_manComes_6 (by first | decide | (intro z9; have := i_eq.mp z9; simp at this; omega) | assumption) ?_
  have r2 := i_rng v1
  refine lv_topi (fun v3 ev3 => ?_)
  have f4 : -100 < v3.toInt ∧ v3.toInt < 100 := by rw [ev3]; exact i_remd k_100 (by decide)
  refine lv_aload_n hx hb dX5_manComes_7 rfl (lv_at hl 0 rfl) ?_
  refine q_gi (T := TX5) C S1.1 ga0 8 kF_X5_46 dX5_manComes_8 rfl rfl (by decide) rfl (by decide) rfl ?_
  have r6 := i_rng (fI D H1 5 a0 8)
  refine lv_icmp_ge (tgt := 16) hx hb dX5_manComes_11 (by decide) (fun c5 => ?_) (fun c5 => ?_)
  · have b5 : (fI D H1 5 a0 8).toInt ≤ v3.toInt := i_le.mp c5
    refine lv_aload_n hx hb dX5_manComes_16 rfl (lv_at hl 0 rfl) ?_
    refine callV_Ei C S1 (c_X5_draw l D G a0 ga0) kV_X5_154 ga0 (trivial) (by decide +kernel) dX5_manComes_17 hl.1 rfl rfl (by decide) cd_X5_draw ⟨Nat.le_of_ble_eq_true rfl, Nat.le_of_ble_eq_true rfl, Nat.le_of_ble_eq_true rfl, Nat.le_of_ble_eq_true rfl, Nat.le_of_ble_eq_true rfl⟩ (fun v7 H7 L7 S7 K7 q7 => ?_)
    refine lv_bipush (v := 100) hx hb dX5_manComes_20 (by decide) ?_
    refine lv_irem hx hb dX5_manComes_22 (by first | decide | (intro z9; have := i_eq.mp z9; simp at this; omega) | assumption) ?_
    have r8 := i_rng v7
    refine lv_topi (fun v9 ev9 => ?_)
    have f10 : -100 < v9.toInt ∧ v9.toInt < 100 := by rw [ev9]; exact i_remd k_100 (by decide)
    refine lv_aload_n hx hb dX5_manComes_23 rfl (lv_at hl 1 rfl) ?_
    refine q_gi (T := TX2) C S7.1 ga1 4 kF_X5_158 dX5_manComes_24 rfl rfl (by decide) rfl (by decide) rfl ?_
    have r12 := i_rng (fI D H7 2 a1 4)
    refine lv_icmp_ge (tgt := 34) hx hb dX5_manComes_27 (by decide) (fun c11 => ?_) (fun c11 => ?_)
    · have b11 : (fI D H7 2 a1 4).toInt ≤ v9.toInt := i_le.mp c11
      refine lv_iconst (v := 0) hx hb dX5_manComes_34 (by decide) ?_
      have k_0 : (0 : Int32).toInt = 0 := by decide
      exact retE_z hQ C S7 hr dX5_manComes_35 (z01 (by omega) (by omega)) (by omega)
    · have b11 : ¬ (fI D H7 2 a1 4).toInt ≤ v9.toInt := fun z9 => c11 (i_le.mpr z9)
      refine lv_iconst (v := 1) hx hb dX5_manComes_30 (by decide) ?_
      refine lv_goto (tgt := 35) hx hb dX5_manComes_31 (by decide) ?_
      have k_1 : (1 : Int32).toInt = 1 := by decide
      exact retE_z hQ C S7 hr dX5_manComes_35 (z01 (by omega) (by omega)) (by omega)
  · have b5 : ¬ (fI D H1 5 a0 8).toInt ≤ v3.toInt := fun z9 => c5 (i_le.mpr z9)
    refine lv_iconst (v := 1) hx hb dX5_manComes_14 (by decide) ?_
    have k_1 : (1 : Int32).toInt = 1 := by decide
    exact retE_z hQ C S1 hr dX5_manComes_15 (z01 (by omega) (by omega)) (by omega)

set_option maxRecDepth 100000 in
set_option maxHeartbeats 4000000 in
theorem c_X5_searchedFor (l : Launch) (D : DD) (G : Nat → Nat) (a0 : Nat) (x1 : Int32) (ga0 : G a0 = 4) : CE l D G yX5_searchedFor cX5_searchedFor 5 (some .int) 4 [.ref a0, .int x1] (fun _ => True) [(14, 0), (15, 0), (4, 12), (8, 5), (11, 0), (9, 1), (9, 2)] (xI (fun H r H1 => True)) := by
  refine enter (by decide) (Nat.le_of_ble_eq_true rfl) ?_
  intro p e s m args below meth c ls Q hA hQ C hr hO hpre hl
  have hx := C.1
  have hb := C.2.1
  have S : Sd D G [(14, 0), (15, 0), (4, 12), (8, 5), (11, 0), (9, 1), (9, 2)] s.heap s.heap [] := Sd.start hO
  have hl : lv_has ls 5 [(0, .ref a0), (1, .int x1)] := hl
  refine lv_iconst (v := 0) hx hb dX5_searchedFor_0 (by decide) ?_
  refine lv_istore_n (lv' := [(2, .int (0 : Int32)), (0, .ref a0), (1, .int x1)]) hx hb dX5_searchedFor_1 rfl hl (by decide) rfl (fun ls hl => ?_)
  refine lv_iconst (v := 0) hx hb dX5_searchedFor_2 (by decide) ?_
  refine lv_istore_n (lv' := [(3, .int (0 : Int32)), (2, .int (0 : Int32)), (0, .ref a0), (1, .int x1)]) hx hb dX5_searchedFor_3 rfl hl (by decide) rfl (fun ls hl => ?_)
  have Lp4 : ∀ (n : Nat) (x3_4 : Int32) (x2_4 : Int32) (H_4 : Heap) (L_4 : List Loc) (ls : Array Slot), (Sd D G [(14, 0), (15, 0), (4, 12), (8, 5), (11, 0), (9, 1), (9, 2)] s.heap H_4 L_4) → (0 ≤ x3_4.toInt ∧ x3_4.toInt ≤ 2147483647) → 2147483648 - x3_4.toInt ≤ (n : Int) → lv_has ls 5 [(3, .int x3_4), (2, .int x2_4), (0, .ref a0), (1, .int x1)] → W p l e (rmU 4 0 0) s m args below meth c H_4 L_4 0 0 Q (F0 m 4 ls []) := by
    intro n
    induction n with
    | zero =>
      intro x3_4 x2_4 H_4 L_4 ls S_4 j4_0 hn hl
      exact absurd hn (by omega)
    | succ n ih4 =>
      intro x3_4 x2_4 H_4 L_4 ls S_4 j4_0 hn hl
      refine lv_iload_n hx hb dX5_searchedFor_4 rfl (lv_at hl 0 rfl) ?_
      refine lv_aload_n hx hb dX5_searchedFor_5 rfl (lv_at hl 2 rfl) ?_
      refine q_gi (T := TX5) C S_4.1 ga0 4 kF_X5_34 dX5_searchedFor_6 rfl rfl (by decide) rfl (by decide) rfl ?_
      have r1 : 0 ≤ (fI D H_4 5 a0 4).toInt ∧ (fI D H_4 5 a0 4).toInt ≤ 12 := S_4.1.rng ga0 rfl (by decide) rfl
      have r3 := i_rng x3_4
      refine lv_icmp_ge (tgt := 90) hx hb dX5_searchedFor_9 (by decide) (fun c2 => ?_) (fun c2 => ?_)
      · have b2 : (fI D H_4 5 a0 4).toInt ≤ x3_4.toInt := i_le.mp c2
        refine lv_iload_n hx hb dX5_searchedFor_90 rfl (lv_at hl 1 rfl) ?_
        exact retE_i hQ C S_4 hr dX5_searchedFor_91 (trivial)
      · have b2 : ¬ (fI D H_4 5 a0 4).toInt ≤ x3_4.toInt := fun z9 => c2 (i_le.mpr z9)
        refine lv_aload_n hx hb dX5_searchedFor_12 rfl (lv_at hl 2 rfl) ?_
        refine q_gr (T := TX5) C S_4.1 ga0 1 kF_X5_19 dX5_searchedFor_13 rfl rfl (by decide) rfl (by decide) rfl (fun g4 => ?_)
        refine lv_iload_n hx hb dX5_searchedFor_16 rfl (lv_at hl 0 rfl) ?_
        refine q_aald C S_4.1 g4 (by omega) (by omega) dX5_searchedFor_17 rfl (by decide) rfl rfl (fun g5 => ?_)
        refine lv_astore (lv' := [(4, .ref (eR H_4 (fR D H_4 5 a0 1) x3_4.toInt.toNat)), (3, .int x3_4), (2, .int x2_4), (0, .ref a0), (1, .int x1)]) hx hb dX5_searchedFor_18 hl (by decide) rfl (fun ls hl => ?_)
        refine lv_aload hx hb dX5_searchedFor_20 (lv_at hl 0 rfl) ?_
        refine q_gi (T := TX1) C S_4.1 g5 0 kF_X5_77 dX5_searchedFor_22 rfl rfl (by decide) rfl (by decide) rfl ?_
        have r6 : 0 ≤ (fI D H_4 1 (eR H_4 (fR D H_4 5 a0 1) x3_4.toInt.toNat) 0).toInt ∧ (fI D H_4 1 (eR H_4 (fR D H_4 5 a0 1) x3_4.toInt.toNat) 0).toInt ≤ 5 := S_4.1.rng g5 rfl (by decide) rfl
        refine lv_iload_n hx hb dX5_searchedFor_25 rfl (lv_at hl 4 rfl) ?_
        refine lv_icmp_ne (tgt := 84) hx hb dX5_searchedFor_26 (by decide) (fun c7 => ?_) (fun c7 => ?_)
        · have b7 : ¬ (fI D H_4 1 (eR H_4 (fR D H_4 5 a0 1) x3_4.toInt.toNat) 0).toInt = x1.toInt := fun z9 => c7 (i_eq.mpr z9)
          obtain ⟨v8, ev8⟩ : ∃ y : Int32, y = x3_4 + (1) := ⟨_, rfl⟩
          have k_1 : (1 : Int32).toInt = 1 := by decide
          have f9 : v8.toInt = x3_4.toInt + (1) := by rw [ev8]; exact i_addc k_1 (by omega) (by omega)
          refine lv_iinc (v := v8) (lv' := [(3, .int v8), (4, .ref (eR H_4 (fR D H_4 5 a0 1) x3_4.toInt.toNat)), (2, .int x2_4), (0, .ref a0), (1, .int x1)]) hx hb dX5_searchedFor_84 hl (k := 1) rfl (by rw [ev8]; rfl) (by decide) rfl (fun ls hl => ?_)
          refine lv_goto (tgt := 4) hx hb dX5_searchedFor_87 (by decide) ?_
          exact ih4 v8 x2_4 H_4 L_4 ls S_4 (by omega) (by omega) (lv_sub hl [0, 2, 3, 4] rfl)
        · have b7 : (fI D H_4 1 (eR H_4 (fR D H_4 5 a0 1) x3_4.toInt.toNat) 0).toInt = x1.toInt := i_eq.mp c7
          refine lv_aload hx hb dX5_searchedFor_29 (lv_at hl 0 rfl) ?_
          refine q_gi (T := TX1) C S_4.1 g5 5 kF_X5_80 dX5_searchedFor_31 rfl rfl (by decide) rfl (by decide) rfl ?_
          refine lv_iconst (v := 2) hx hb dX5_searchedFor_34 (by decide) ?_
          have k_2 : (2 : Int32).toInt = 2 := by decide
          refine lv_icmp_ne (tgt := 84) hx hb dX5_searchedFor_35 (by decide) (fun c10 => ?_) (fun c10 => ?_)
          · have b10 : ¬ (fI D H_4 1 (eR H_4 (fR D H_4 5 a0 1) x3_4.toInt.toNat) 5).toInt = (2 : Int32).toInt := fun z9 => c10 (i_eq.mpr z9)
            obtain ⟨v11, ev11⟩ : ∃ y : Int32, y = x3_4 + (1) := ⟨_, rfl⟩
            have k_1 : (1 : Int32).toInt = 1 := by decide
            have f12 : v11.toInt = x3_4.toInt + (1) := by rw [ev11]; exact i_addc k_1 (by omega) (by omega)
            refine lv_iinc (v := v11) (lv' := [(3, .int v11), (4, .ref (eR H_4 (fR D H_4 5 a0 1) x3_4.toInt.toNat)), (2, .int x2_4), (0, .ref a0), (1, .int x1)]) hx hb dX5_searchedFor_84 hl (k := 1) rfl (by rw [ev11]; rfl) (by decide) rfl (fun ls hl => ?_)
            refine lv_goto (tgt := 4) hx hb dX5_searchedFor_87 (by decide) ?_
            exact ih4 v11 x2_4 H_4 L_4 ls S_4 (by omega) (by omega) (lv_sub hl [0, 2, 3, 4] rfl)
          · have b10 : (fI D H_4 1 (eR H_4 (fR D H_4 5 a0 1) x3_4.toInt.toNat) 5).toInt = (2 : Int32).toInt := i_eq.mp c10
            refine lv_aload_n hx hb dX5_searchedFor_38 rfl (lv_at hl 3 rfl) ?_
            refine callV_Ei C S_4 (c_X5_draw l D G a0 ga0) kV_X5_154 ga0 (trivial) (by decide +kernel) dX5_searchedFor_39 hl.1 rfl rfl (by decide) cd_X5_draw ⟨Nat.le_of_ble_eq_true rfl, Nat.le_of_ble_eq_true rfl, Nat.le_of_ble_eq_true rfl, Nat.le_of_ble_eq_true rfl, Nat.le_of_ble_eq_true rfl⟩ (fun v13 H13 L13 S13 K13 q13 => ?_)
            refine lv_bipush (v := 100) hx hb dX5_searchedFor_42 (by decide) ?_
            have k_100 : (100 : Int32).toInt = 100 := by decide
            refine lv_irem hx hb dX5_searchedFor_44 (by first | decide | (intro z9; have := i_eq.mp z9; simp at this; omega) | assumption) ?_
            have r14 := i_rng v13
            refine lv_topi (fun v15 ev15 => ?_)
            have f16 : -100 < v15.toInt ∧ v15.toInt < 100 := by rw [ev15]; exact i_remd k_100 (by decide)
            refine lv_aload_n hx hb dX5_searchedFor_45 rfl (lv_at hl 3 rfl) ?_
            refine lv_iload_n hx hb dX5_searchedFor_46 rfl (lv_at hl 1 rfl) ?_
            refine callV_Ei C S13 (c_X5_foundBy l D G a0 x3_4 ga0 (by omega)) kV_X5_120 ga0 (trivial) (by decide +kernel) dX5_searchedFor_47 hl.1 rfl rfl (by decide) cd_X5_foundBy ⟨Nat.le_of_ble_eq_true rfl, Nat.le_of_ble_eq_true rfl, Nat.le_of_ble_eq_true rfl, Nat.le_of_ble_eq_true rfl, Nat.le_of_ble_eq_true rfl⟩ (fun v17 H17 L17 S17 K17 q17 => ?_)
            have r19 := i_rng v17
            refine lv_icmp_ge (tgt := 84) hx hb dX5_searchedFor_50 (by decide) (fun c18 => ?_) (fun c18 => ?_)
            · have b18 : v17.toInt ≤ v15.toInt := i_le.mp c18
              obtain ⟨v20, ev20⟩ : ∃ y : Int32, y = x3_4 + (1) := ⟨_, rfl⟩
              have k_1 : (1 : Int32).toInt = 1 := by decide
              have f21 : v20.toInt = x3_4.toInt + (1) := by rw [ev20]; exact i_addc k_1 (by omega) (by omega)
              refine lv_iinc (v := v20) (lv' := [(3, .int v20), (4, .ref (eR H_4 (fR D H_4 5 a0 1) x3_4.toInt.toNat)), (2, .int x2_4), (0, .ref a0), (1, .int x1)]) hx hb dX5_searchedFor_84 hl (k := 1) rfl (by rw [ev20]; rfl) (by decide) rfl (fun ls hl => ?_)
              refine lv_goto (tgt := 4) hx hb dX5_searchedFor_87 (by decide) ?_
              exact ih4 v20 x2_4 H17 L17 ls S17 (by omega) (by omega) (lv_sub hl [0, 2, 3, 4] rfl)
            · have b18 : ¬ v17.toInt ≤ v15.toInt := fun z9 => c18 (i_le.mpr z9)
              refine lv_aload hx hb dX5_searchedFor_53 (lv_at hl 0 rfl) ?_
              refine lv_iconst (v := 0) hx hb dX5_searchedFor_55 (by decide) ?_
              have k_0 : (0 : Int32).toInt = 0 := by decide
              refine q_put (T := TX1) C S17 g5 5 kF_X5_80 dX5_searchedFor_56 rfl rfl (by decide) (by decide) rfl rfl rfl rfl rfl (vok_a rfl) (by decide +kernel) (fun H22 L22 S22 P22 => ?_)
              refine lv_iload_n hx hb dX5_searchedFor_59 rfl (lv_at hl 2 rfl) ?_
              refine lv_aload_n hx hb dX5_searchedFor_60 rfl (lv_at hl 3 rfl) ?_
              refine q_gi (T := TX5) C S22.1 ga0 7 kF_X5_43 dX5_searchedFor_61 rfl rfl (by decide) rfl (by decide) rfl ?_
              refine lv_iadd hx hb dX5_searchedFor_64 ?_
              refine lv_topi (fun v23 ev23 => ?_)
              refine lv_istore_n (lv' := [(2, .int v23), (4, .ref (eR H_4 (fR D H_4 5 a0 1) x3_4.toInt.toNat)), (3, .int x3_4), (0, .ref a0), (1, .int x1)]) hx hb dX5_searchedFor_65 rfl hl (by decide) rfl (fun ls hl => ?_)
              refine lv_aload_n hx hb dX5_searchedFor_66 rfl (lv_at hl 3 rfl) ?_
              refine q_gr (T := TX5) C S22.1 ga0 2 kF_X5_26 dX5_searchedFor_67 rfl rfl (by decide) rfl (by decide) rfl (fun g24 => ?_)
              refine lv_aload_n hx hb dX5_searchedFor_70 rfl (lv_at hl 3 rfl) ?_
              refine q_gi (T := TX5) C S22.1 ga0 10 kF_X5_52 dX5_searchedFor_71 rfl rfl (by decide) rfl (by decide) rfl ?_
              refine lv_iload_n hx hb dX5_searchedFor_74 rfl (lv_at hl 2 rfl) ?_
              refine lv_iload_n hx hb dX5_searchedFor_75 rfl (lv_at hl 4 rfl) ?_
              refine lv_aload_n hx hb dX5_searchedFor_76 rfl (lv_at hl 3 rfl) ?_
              refine lv_iload_n hx hb dX5_searchedFor_77 rfl (lv_at hl 2 rfl) ?_
              refine callV_Ei C S22 (c_X5_taxOf l D G a0 x3_4 ga0 (by omega)) kV_X5_123 ga0 (trivial) (by decide +kernel) dX5_searchedFor_78 hl.1 rfl rfl (by decide) cd_X5_taxOf ⟨Nat.le_of_ble_eq_true rfl, Nat.le_of_ble_eq_true rfl, Nat.le_of_ble_eq_true rfl, Nat.le_of_ble_eq_true rfl, Nat.le_of_ble_eq_true rfl⟩ (fun v25 H25 L25 S25 K25 q25 => ?_)
              refine callV_Ev C S25 (c_X0_add l D G (fR D H22 5 a0 2) (fI D H22 5 a0 10) x3_4 x1 v25 g24) kV_X5_161 g24 (trivial) (by decide +kernel) dX5_searchedFor_81 hl.1 rfl rfl (by decide) cd_X0_add ⟨Nat.le_of_ble_eq_true rfl, Nat.le_of_ble_eq_true rfl, Nat.le_of_ble_eq_true rfl, Nat.le_of_ble_eq_true rfl, Nat.le_of_ble_eq_true rfl⟩ (fun H26 L26 S26 K26 q26 => ?_)
              obtain ⟨v27, ev27⟩ : ∃ y : Int32, y = x3_4 + (1) := ⟨_, rfl⟩
              have k_1 : (1 : Int32).toInt = 1 := by decide
              have f28 : v27.toInt = x3_4.toInt + (1) := by rw [ev27]; exact i_addc k_1 (by omega) (by omega)
              refine lv_iinc (v := v27) (lv' := [(3, .int v27), (2, .int v23), (4, .ref (eR H_4 (fR D H_4 5 a0 1) x3_4.toInt.toNat)), (0, .ref a0), (1, .int x1)]) hx hb dX5_searchedFor_84 hl (k := 2) rfl (by rw [ev27]; rfl) (by decide) rfl (fun ls hl => ?_)
              refine lv_goto (tgt := 4) hx hb dX5_searchedFor_87 (by decide) ?_
              exact ih4 v27 v23 H26 L26 ls S26 (by omega) (by omega) (lv_sub hl [0, 1, 3, 4] rfl)
  have k_0 : (0 : Int32).toInt = 0 := by decide
  exact Lp4 2147483648 (0 : Int32) (0 : Int32) s.heap [] ls S (by omega)  (by omega) (lv_sub hl [0, 1, 2, 3] rfl)

set_option maxRecDepth 100000 in
set_option maxHeartbeats 4000000 in
theorem c_X5_passQuarter (l : Launch) (D : DD) (G : Nat → Nat) (a0 : Nat) (x1 : Int32) (ga0 : G a0 = 4) (ix1 : 0 ≤ x1.toInt ∧ x1.toInt ≤ 1) : CE l D G yX5_passQuarter cX5_passQuarter 7 (some .int) 5 [.ref a0, .int x1] (fun _ => True) [(14, 0), (15, 0), (7, 0), (8, 5), (4, 10), (4, 11), (4, 12), (11, 0), (9, 1), (9, 2)] (xI (fun H r H1 => True)) := by
  refine enter (by decide) (Nat.le_of_ble_eq_true rfl) ?_
  intro p e s m args below meth c ls Q hA hQ C hr hO hpre hl
  have hx := C.1
  have hb := C.2.1
  have S : Sd D G [(14, 0), (15, 0), (7, 0), (8, 5), (4, 10), (4, 11), (4, 12), (11, 0), (9, 1), (9, 2)] s.heap s.heap [] := Sd.start hO
  have hl : lv_has ls 7 [(0, .ref a0), (1, .int x1)] := hl
  refine lv_iconst (v := 0) hx hb dX5_passQuarter_0 (by decide) ?_
  refine lv_istore_n (lv' := [(2, .int (0 : Int32)), (0, .ref a0), (1, .int x1)]) hx hb dX5_passQuarter_1 rfl hl (by decide) rfl (fun ls hl => ?_)
  refine lv_iconst (v := 0) hx hb dX5_passQuarter_2 (by decide) ?_
  refine lv_istore_n (lv' := [(3, .int (0 : Int32)), (2, .int (0 : Int32)), (0, .ref a0), (1, .int x1)]) hx hb dX5_passQuarter_3 rfl hl (by decide) rfl (fun ls hl => ?_)
  have Lp4 : ∀ (n : Nat) (x3_4 : Int32) (x2_4 : Int32) (H_4 : Heap) (L_4 : List Loc) (ls : Array Slot), (Sd D G [(14, 0), (15, 0), (7, 0), (8, 5), (4, 10), (4, 11), (4, 12), (11, 0), (9, 1), (9, 2)] s.heap H_4 L_4) → (0 ≤ x3_4.toInt ∧ x3_4.toInt ≤ 2147483647) → 2147483648 - x3_4.toInt ≤ (n : Int) → lv_has ls 7 [(3, .int x3_4), (2, .int x2_4), (0, .ref a0), (1, .int x1)] → W p l e (rmU 5 0 0) s m args below meth c H_4 L_4 0 0 Q (F0 m 4 ls []) := by
    intro n
    induction n with
    | zero =>
      intro x3_4 x2_4 H_4 L_4 ls S_4 j4_0 hn hl
      exact absurd hn (by omega)
    | succ n ih4 =>
      intro x3_4 x2_4 H_4 L_4 ls S_4 j4_0 hn hl
      refine lv_iload_n hx hb dX5_passQuarter_4 rfl (lv_at hl 0 rfl) ?_
      refine lv_aload_n hx hb dX5_passQuarter_5 rfl (lv_at hl 2 rfl) ?_
      refine q_gi (T := TX5) C S_4.1 ga0 3 kF_X5_30 dX5_passQuarter_6 rfl rfl (by decide) rfl (by decide) rfl ?_
      have r1 : 0 ≤ (fI D H_4 5 a0 3).toInt ∧ (fI D H_4 5 a0 3).toInt ≤ 6 := S_4.1.rng ga0 rfl (by decide) rfl
      have r3 := i_rng x3_4
      refine lv_icmp_ge (tgt := 102) hx hb dX5_passQuarter_9 (by decide) (fun c2 => ?_) (fun c2 => ?_)
      · have b2 : (fI D H_4 5 a0 3).toInt ≤ x3_4.toInt := i_le.mp c2
        refine lv_aload_n hx hb dX5_passQuarter_102 rfl (lv_at hl 2 rfl) ?_
        refine lv_sipush (v := 9999) hx hb dX5_passQuarter_103 (by decide) ?_
        refine lv_aload_n hx hb dX5_passQuarter_106 rfl (lv_at hl 2 rfl) ?_
        refine q_gi (T := TX5) C S_4.1 ga0 10 kF_X5_52 dX5_passQuarter_107 rfl rfl (by decide) rfl (by decide) rfl ?_
        refine lv_iconst (v := 1) hx hb dX5_passQuarter_110 (by decide) ?_
        have k_1 : (1 : Int32).toInt = 1 := by decide
        refine lv_iadd hx hb dX5_passQuarter_111 ?_
        refine lv_topi (fun v4 ev4 => ?_)
        have k_9999 : (9999 : Int32).toInt = 9999 := by decide
        refine q_min C kN_X5_115 dX5_passQuarter_112 hl.1 ⟨Nat.le_of_ble_eq_true rfl, Nat.le_of_ble_eq_true rfl, Nat.le_of_ble_eq_true rfl, Nat.le_of_ble_eq_true rfl⟩ (fun v5 fv5 => ?_)
        refine q_put (T := TX5) C S_4 ga0 10 kF_X5_52 dX5_passQuarter_115 rfl rfl (by decide) (by decide) rfl rfl rfl rfl rfl (vok_a rfl) (by decide +kernel) (fun H6 L6 S6 P6 => ?_)
        refine lv_iload_n hx hb dX5_passQuarter_118 rfl (lv_at hl 1 rfl) ?_
        exact retE_i hQ C S6 hr dX5_passQuarter_119 (trivial)
      · have b2 : ¬ (fI D H_4 5 a0 3).toInt ≤ x3_4.toInt := fun z9 => c2 (i_le.mpr z9)
        refine lv_aload_n hx hb dX5_passQuarter_12 rfl (lv_at hl 2 rfl) ?_
        refine q_gr (T := TX5) C S_4.1 ga0 0 kF_X5_11 dX5_passQuarter_13 rfl rfl (by decide) rfl (by decide) rfl (fun g7 => ?_)
        refine lv_iload_n hx hb dX5_passQuarter_16 rfl (lv_at hl 0 rfl) ?_
        refine q_aald C S_4.1 g7 (by omega) (by omega) dX5_passQuarter_17 rfl (by decide) rfl rfl (fun g8 => ?_)
        refine lv_astore (lv' := [(4, .ref (eR H_4 (fR D H_4 5 a0 0) x3_4.toInt.toNat)), (3, .int x3_4), (2, .int x2_4), (0, .ref a0), (1, .int x1)]) hx hb dX5_passQuarter_18 hl (by decide) rfl (fun ls hl => ?_)
        refine lv_iload_n hx hb dX5_passQuarter_20 rfl (lv_at hl 4 rfl) ?_
        have k_0 : (0 : Int32).toInt = 0 := by decide
        refine lv_if_eq (tgt := 41) hx hb dX5_passQuarter_21 (by decide) (fun c9 => ?_) (fun c9 => ?_)
        · have b9 : x1.toInt = (0 : Int32).toInt := i_eq.mp c9
          refine lv_iconst (v := 0) hx hb dX5_passQuarter_41 (by decide) ?_
          refine lv_istore (lv' := [(5, .int (0 : Int32)), (4, .ref (eR H_4 (fR D H_4 5 a0 0) x3_4.toInt.toNat)), (3, .int x3_4), (2, .int x2_4), (0, .ref a0), (1, .int x1)]) hx hb dX5_passQuarter_42 hl (by decide) rfl (fun ls hl => ?_)
          refine lv_aload hx hb dX5_passQuarter_44 (lv_at hl 1 rfl) ?_
          refine q_gi (T := TX2) C S_4.1 g8 0 kF_X5_144 dX5_passQuarter_46 rfl rfl (by decide) rfl (by decide) rfl ?_
          refine lv_aload_n hx hb dX5_passQuarter_49 rfl (lv_at hl 4 rfl) ?_
          refine lv_iload_n hx hb dX5_passQuarter_50 rfl (lv_at hl 2 rfl) ?_
          refine callV_Ei C S_4 (c_X5_paysOf l D G a0 x3_4 ga0) kV_X5_135 ga0 (trivial) (by decide +kernel) dX5_passQuarter_51 hl.1 rfl rfl (by decide) cd_X5_paysOf ⟨Nat.le_of_ble_eq_true rfl, Nat.le_of_ble_eq_true rfl, Nat.le_of_ble_eq_true rfl, Nat.le_of_ble_eq_true rfl, Nat.le_of_ble_eq_true rfl⟩ (fun v10 H10 L10 S10 K10 q10 => ?_)
          refine lv_iload hx hb dX5_passQuarter_54 (lv_at hl 0 rfl) ?_
          refine lv_iadd hx hb dX5_passQuarter_56 ?_
          refine lv_topi (fun v11 ev11 => ?_)
          refine q_min C kN_X5_115 dX5_passQuarter_57 hl.1 ⟨Nat.le_of_ble_eq_true rfl, Nat.le_of_ble_eq_true rfl, Nat.le_of_ble_eq_true rfl, Nat.le_of_ble_eq_true rfl⟩ (fun v12 fv12 => ?_)
          refine lv_istore (lv' := [(6, .int v12), (5, .int (0 : Int32)), (4, .ref (eR H_4 (fR D H_4 5 a0 0) x3_4.toInt.toNat)), (3, .int x3_4), (2, .int x2_4), (0, .ref a0), (1, .int x1)]) hx hb dX5_passQuarter_60 hl (by decide) rfl (fun ls hl => ?_)
          refine lv_aload hx hb dX5_passQuarter_62 (lv_at hl 2 rfl) ?_
          refine lv_dup hx hb dX5_passQuarter_64 rfl ?_
          refine q_gi (T := TX2) C S10.1 g8 0 kF_X5_144 dX5_passQuarter_65 rfl rfl (by decide) rfl (by decide) rfl ?_
          refine lv_iload hx hb dX5_passQuarter_68 (lv_at hl 0 rfl) ?_
          refine lv_isub hx hb dX5_passQuarter_70 ?_
          refine lv_topi (fun v13 ev13 => ?_)
          refine q_put (T := TX2) C S10 g8 0 kF_X5_144 dX5_passQuarter_71 rfl rfl (by decide) (by decide) rfl rfl rfl rfl rfl (vok_a rfl) (by decide +kernel) (fun H14 L14 S14 P14 => ?_)
          refine lv_aload_n hx hb dX5_passQuarter_74 rfl (lv_at hl 5 rfl) ?_
          refine lv_sipush (v := 9999) hx hb dX5_passQuarter_75 (by decide) ?_
          refine lv_aload_n hx hb dX5_passQuarter_78 rfl (lv_at hl 5 rfl) ?_
          refine q_gi (T := TX5) C S14.1 ga0 11 kF_X5_55 dX5_passQuarter_79 rfl rfl (by decide) rfl (by decide) rfl ?_
          refine lv_iload hx hb dX5_passQuarter_82 (lv_at hl 0 rfl) ?_
          refine lv_iadd hx hb dX5_passQuarter_84 ?_
          refine lv_topi (fun v15 ev15 => ?_)
          have k_9999 : (9999 : Int32).toInt = 9999 := by decide
          refine q_min C kN_X5_115 dX5_passQuarter_85 hl.1 ⟨Nat.le_of_ble_eq_true rfl, Nat.le_of_ble_eq_true rfl, Nat.le_of_ble_eq_true rfl, Nat.le_of_ble_eq_true rfl⟩ (fun v16 fv16 => ?_)
          refine q_put (T := TX5) C S14 ga0 11 kF_X5_55 dX5_passQuarter_88 rfl rfl (by decide) (by decide) rfl rfl rfl rfl rfl (vok_a rfl) (by decide +kernel) (fun H17 L17 S17 P17 => ?_)
          refine lv_iload_n hx hb dX5_passQuarter_91 rfl (lv_at hl 4 rfl) ?_
          refine lv_iload hx hb dX5_passQuarter_92 (lv_at hl 0 rfl) ?_
          refine lv_iadd hx hb dX5_passQuarter_94 ?_
          refine lv_topi (fun v18 ev18 => ?_)
          refine lv_istore_n (lv' := [(2, .int v18), (6, .int v12), (5, .int (0 : Int32)), (4, .ref (eR H_4 (fR D H_4 5 a0 0) x3_4.toInt.toNat)), (3, .int x3_4), (0, .ref a0), (1, .int x1)]) hx hb dX5_passQuarter_95 rfl hl (by decide) rfl (fun ls hl => ?_)
          obtain ⟨v19, ev19⟩ : ∃ y : Int32, y = x3_4 + (1) := ⟨_, rfl⟩
          have k_1 : (1 : Int32).toInt = 1 := by decide
          have f20 : v19.toInt = x3_4.toInt + (1) := by rw [ev19]; exact i_addc k_1 (by omega) (by omega)
          refine lv_iinc (v := v19) (lv' := [(3, .int v19), (2, .int v18), (6, .int v12), (5, .int (0 : Int32)), (4, .ref (eR H_4 (fR D H_4 5 a0 0) x3_4.toInt.toNat)), (0, .ref a0), (1, .int x1)]) hx hb dX5_passQuarter_96 hl (k := 4) rfl (by rw [ev19]; rfl) (by decide) rfl (fun ls hl => ?_)
          refine lv_goto (tgt := 4) hx hb dX5_passQuarter_99 (by decide) ?_
          exact ih4 v19 v18 H17 L17 ls S17 (by omega) (by omega) (lv_sub hl [0, 1, 5, 6] rfl)
        · have b9 : ¬ x1.toInt = (0 : Int32).toInt := fun z9 => c9 (i_eq.mpr z9)
          refine lv_aload_n hx hb dX5_passQuarter_24 rfl (lv_at hl 3 rfl) ?_
          refine lv_aload hx hb dX5_passQuarter_25 (lv_at hl 0 rfl) ?_
          refine callV_Ei C S_4 (c_X5_manComes l D G a0 (eR H_4 (fR D H_4 5 a0 0) x3_4.toInt.toNat) ga0 g8) kV_X5_147 ga0 (trivial) (by decide +kernel) dX5_passQuarter_27 hl.1 rfl rfl (by decide) cd_X5_manComes ⟨Nat.le_of_ble_eq_true rfl, Nat.le_of_ble_eq_true rfl, Nat.le_of_ble_eq_true rfl, Nat.le_of_ble_eq_true rfl, Nat.le_of_ble_eq_true rfl⟩ (fun v21 H21 L21 S21 K21 q21 => ?_)
          refine lv_if_eq (tgt := 41) hx hb dX5_passQuarter_30 (by decide) (fun c22 => ?_) (fun c22 => ?_)
          · have b22 : v21.toInt = (0 : Int32).toInt := i_eq.mp c22
            refine lv_iconst (v := 0) hx hb dX5_passQuarter_41 (by decide) ?_
            refine lv_istore (lv' := [(5, .int (0 : Int32)), (4, .ref (eR H_4 (fR D H_4 5 a0 0) x3_4.toInt.toNat)), (3, .int x3_4), (2, .int x2_4), (0, .ref a0), (1, .int x1)]) hx hb dX5_passQuarter_42 hl (by decide) rfl (fun ls hl => ?_)
            refine lv_aload hx hb dX5_passQuarter_44 (lv_at hl 1 rfl) ?_
            refine q_gi (T := TX2) C S21.1 g8 0 kF_X5_144 dX5_passQuarter_46 rfl rfl (by decide) rfl (by decide) rfl ?_
            refine lv_aload_n hx hb dX5_passQuarter_49 rfl (lv_at hl 4 rfl) ?_
            refine lv_iload_n hx hb dX5_passQuarter_50 rfl (lv_at hl 2 rfl) ?_
            refine callV_Ei C S21 (c_X5_paysOf l D G a0 x3_4 ga0) kV_X5_135 ga0 (trivial) (by decide +kernel) dX5_passQuarter_51 hl.1 rfl rfl (by decide) cd_X5_paysOf ⟨Nat.le_of_ble_eq_true rfl, Nat.le_of_ble_eq_true rfl, Nat.le_of_ble_eq_true rfl, Nat.le_of_ble_eq_true rfl, Nat.le_of_ble_eq_true rfl⟩ (fun v23 H23 L23 S23 K23 q23 => ?_)
            refine lv_iload hx hb dX5_passQuarter_54 (lv_at hl 0 rfl) ?_
            refine lv_iadd hx hb dX5_passQuarter_56 ?_
            refine lv_topi (fun v24 ev24 => ?_)
            refine q_min C kN_X5_115 dX5_passQuarter_57 hl.1 ⟨Nat.le_of_ble_eq_true rfl, Nat.le_of_ble_eq_true rfl, Nat.le_of_ble_eq_true rfl, Nat.le_of_ble_eq_true rfl⟩ (fun v25 fv25 => ?_)
            refine lv_istore (lv' := [(6, .int v25), (5, .int (0 : Int32)), (4, .ref (eR H_4 (fR D H_4 5 a0 0) x3_4.toInt.toNat)), (3, .int x3_4), (2, .int x2_4), (0, .ref a0), (1, .int x1)]) hx hb dX5_passQuarter_60 hl (by decide) rfl (fun ls hl => ?_)
            refine lv_aload hx hb dX5_passQuarter_62 (lv_at hl 2 rfl) ?_
            refine lv_dup hx hb dX5_passQuarter_64 rfl ?_
            refine q_gi (T := TX2) C S23.1 g8 0 kF_X5_144 dX5_passQuarter_65 rfl rfl (by decide) rfl (by decide) rfl ?_
            refine lv_iload hx hb dX5_passQuarter_68 (lv_at hl 0 rfl) ?_
            refine lv_isub hx hb dX5_passQuarter_70 ?_
            refine lv_topi (fun v26 ev26 => ?_)
            refine q_put (T := TX2) C S23 g8 0 kF_X5_144 dX5_passQuarter_71 rfl rfl (by decide) (by decide) rfl rfl rfl rfl rfl (vok_a rfl) (by decide +kernel) (fun H27 L27 S27 P27 => ?_)
            refine lv_aload_n hx hb dX5_passQuarter_74 rfl (lv_at hl 5 rfl) ?_
            refine lv_sipush (v := 9999) hx hb dX5_passQuarter_75 (by decide) ?_
            refine lv_aload_n hx hb dX5_passQuarter_78 rfl (lv_at hl 5 rfl) ?_
            refine q_gi (T := TX5) C S27.1 ga0 11 kF_X5_55 dX5_passQuarter_79 rfl rfl (by decide) rfl (by decide) rfl ?_
            refine lv_iload hx hb dX5_passQuarter_82 (lv_at hl 0 rfl) ?_
            refine lv_iadd hx hb dX5_passQuarter_84 ?_
            refine lv_topi (fun v28 ev28 => ?_)
            have k_9999 : (9999 : Int32).toInt = 9999 := by decide
            refine q_min C kN_X5_115 dX5_passQuarter_85 hl.1 ⟨Nat.le_of_ble_eq_true rfl, Nat.le_of_ble_eq_true rfl, Nat.le_of_ble_eq_true rfl, Nat.le_of_ble_eq_true rfl⟩ (fun v29 fv29 => ?_)
            refine q_put (T := TX5) C S27 ga0 11 kF_X5_55 dX5_passQuarter_88 rfl rfl (by decide) (by decide) rfl rfl rfl rfl rfl (vok_a rfl) (by decide +kernel) (fun H30 L30 S30 P30 => ?_)
            refine lv_iload_n hx hb dX5_passQuarter_91 rfl (lv_at hl 4 rfl) ?_
            refine lv_iload hx hb dX5_passQuarter_92 (lv_at hl 0 rfl) ?_
            refine lv_iadd hx hb dX5_passQuarter_94 ?_
            refine lv_topi (fun v31 ev31 => ?_)
            refine lv_istore_n (lv' := [(2, .int v31), (6, .int v25), (5, .int (0 : Int32)), (4, .ref (eR H_4 (fR D H_4 5 a0 0) x3_4.toInt.toNat)), (3, .int x3_4), (0, .ref a0), (1, .int x1)]) hx hb dX5_passQuarter_95 rfl hl (by decide) rfl (fun ls hl => ?_)
            obtain ⟨v32, ev32⟩ : ∃ y : Int32, y = x3_4 + (1) := ⟨_, rfl⟩
            have k_1 : (1 : Int32).toInt = 1 := by decide
            have f33 : v32.toInt = x3_4.toInt + (1) := by rw [ev32]; exact i_addc k_1 (by omega) (by omega)
            refine lv_iinc (v := v32) (lv' := [(3, .int v32), (2, .int v31), (6, .int v25), (5, .int (0 : Int32)), (4, .ref (eR H_4 (fR D H_4 5 a0 0) x3_4.toInt.toNat)), (0, .ref a0), (1, .int x1)]) hx hb dX5_passQuarter_96 hl (k := 4) rfl (by rw [ev32]; rfl) (by decide) rfl (fun ls hl => ?_)
            refine lv_goto (tgt := 4) hx hb dX5_passQuarter_99 (by decide) ?_
            exact ih4 v32 v31 H30 L30 ls S30 (by omega) (by omega) (lv_sub hl [0, 1, 5, 6] rfl)
          · have b22 : ¬ v21.toInt = (0 : Int32).toInt := fun z9 => c22 (i_eq.mpr z9)
            refine lv_aload_n hx hb dX5_passQuarter_33 rfl (lv_at hl 3 rfl) ?_
            refine lv_iload_n hx hb dX5_passQuarter_34 rfl (lv_at hl 1 rfl) ?_
            refine callV_Ei C S21 (c_X5_searchedFor l D G a0 x3_4 ga0) kV_X5_151 ga0 (trivial) (by decide +kernel) dX5_passQuarter_35 hl.1 rfl rfl (by decide) cd_X5_searchedFor ⟨Nat.le_of_ble_eq_true rfl, Nat.le_of_ble_eq_true rfl, Nat.le_of_ble_eq_true rfl, Nat.le_of_ble_eq_true rfl, Nat.le_of_ble_eq_true rfl⟩ (fun v34 H34 L34 S34 K34 q34 => ?_)
            refine lv_goto (tgt := 42) hx hb dX5_passQuarter_38 (by decide) ?_
            refine lv_istore (lv' := [(5, .int v34), (4, .ref (eR H_4 (fR D H_4 5 a0 0) x3_4.toInt.toNat)), (3, .int x3_4), (2, .int x2_4), (0, .ref a0), (1, .int x1)]) hx hb dX5_passQuarter_42 hl (by decide) rfl (fun ls hl => ?_)
            refine lv_aload hx hb dX5_passQuarter_44 (lv_at hl 1 rfl) ?_
            refine q_gi (T := TX2) C S34.1 g8 0 kF_X5_144 dX5_passQuarter_46 rfl rfl (by decide) rfl (by decide) rfl ?_
            refine lv_aload_n hx hb dX5_passQuarter_49 rfl (lv_at hl 4 rfl) ?_
            refine lv_iload_n hx hb dX5_passQuarter_50 rfl (lv_at hl 2 rfl) ?_
            refine callV_Ei C S34 (c_X5_paysOf l D G a0 x3_4 ga0) kV_X5_135 ga0 (trivial) (by decide +kernel) dX5_passQuarter_51 hl.1 rfl rfl (by decide) cd_X5_paysOf ⟨Nat.le_of_ble_eq_true rfl, Nat.le_of_ble_eq_true rfl, Nat.le_of_ble_eq_true rfl, Nat.le_of_ble_eq_true rfl, Nat.le_of_ble_eq_true rfl⟩ (fun v35 H35 L35 S35 K35 q35 => ?_)
            refine lv_iload hx hb dX5_passQuarter_54 (lv_at hl 0 rfl) ?_
            refine lv_iadd hx hb dX5_passQuarter_56 ?_
            refine lv_topi (fun v36 ev36 => ?_)
            refine q_min C kN_X5_115 dX5_passQuarter_57 hl.1 ⟨Nat.le_of_ble_eq_true rfl, Nat.le_of_ble_eq_true rfl, Nat.le_of_ble_eq_true rfl, Nat.le_of_ble_eq_true rfl⟩ (fun v37 fv37 => ?_)
            refine lv_istore (lv' := [(6, .int v37), (5, .int v34), (4, .ref (eR H_4 (fR D H_4 5 a0 0) x3_4.toInt.toNat)), (3, .int x3_4), (2, .int x2_4), (0, .ref a0), (1, .int x1)]) hx hb dX5_passQuarter_60 hl (by decide) rfl (fun ls hl => ?_)
            refine lv_aload hx hb dX5_passQuarter_62 (lv_at hl 2 rfl) ?_
            refine lv_dup hx hb dX5_passQuarter_64 rfl ?_
            refine q_gi (T := TX2) C S35.1 g8 0 kF_X5_144 dX5_passQuarter_65 rfl rfl (by decide) rfl (by decide) rfl ?_
            refine lv_iload hx hb dX5_passQuarter_68 (lv_at hl 0 rfl) ?_
            refine lv_isub hx hb dX5_passQuarter_70 ?_
            refine lv_topi (fun v38 ev38 => ?_)
            refine q_put (T := TX2) C S35 g8 0 kF_X5_144 dX5_passQuarter_71 rfl rfl (by decide) (by decide) rfl rfl rfl rfl rfl (vok_a rfl) (by decide +kernel) (fun H39 L39 S39 P39 => ?_)
            refine lv_aload_n hx hb dX5_passQuarter_74 rfl (lv_at hl 5 rfl) ?_
            refine lv_sipush (v := 9999) hx hb dX5_passQuarter_75 (by decide) ?_
            refine lv_aload_n hx hb dX5_passQuarter_78 rfl (lv_at hl 5 rfl) ?_
            refine q_gi (T := TX5) C S39.1 ga0 11 kF_X5_55 dX5_passQuarter_79 rfl rfl (by decide) rfl (by decide) rfl ?_
            refine lv_iload hx hb dX5_passQuarter_82 (lv_at hl 0 rfl) ?_
            refine lv_iadd hx hb dX5_passQuarter_84 ?_
            refine lv_topi (fun v40 ev40 => ?_)
            have k_9999 : (9999 : Int32).toInt = 9999 := by decide
            refine q_min C kN_X5_115 dX5_passQuarter_85 hl.1 ⟨Nat.le_of_ble_eq_true rfl, Nat.le_of_ble_eq_true rfl, Nat.le_of_ble_eq_true rfl, Nat.le_of_ble_eq_true rfl⟩ (fun v41 fv41 => ?_)
            refine q_put (T := TX5) C S39 ga0 11 kF_X5_55 dX5_passQuarter_88 rfl rfl (by decide) (by decide) rfl rfl rfl rfl rfl (vok_a rfl) (by decide +kernel) (fun H42 L42 S42 P42 => ?_)
            refine lv_iload_n hx hb dX5_passQuarter_91 rfl (lv_at hl 4 rfl) ?_
            refine lv_iload hx hb dX5_passQuarter_92 (lv_at hl 0 rfl) ?_
            refine lv_iadd hx hb dX5_passQuarter_94 ?_
            refine lv_topi (fun v43 ev43 => ?_)
            refine lv_istore_n (lv' := [(2, .int v43), (6, .int v37), (5, .int v34), (4, .ref (eR H_4 (fR D H_4 5 a0 0) x3_4.toInt.toNat)), (3, .int x3_4), (0, .ref a0), (1, .int x1)]) hx hb dX5_passQuarter_95 rfl hl (by decide) rfl (fun ls hl => ?_)
            obtain ⟨v44, ev44⟩ : ∃ y : Int32, y = x3_4 + (1) := ⟨_, rfl⟩
            have k_1 : (1 : Int32).toInt = 1 := by decide
            have f45 : v44.toInt = x3_4.toInt + (1) := by rw [ev44]; exact i_addc k_1 (by omega) (by omega)
            refine lv_iinc (v := v44) (lv' := [(3, .int v44), (2, .int v43), (6, .int v37), (5, .int v34), (4, .ref (eR H_4 (fR D H_4 5 a0 0) x3_4.toInt.toNat)), (0, .ref a0), (1, .int x1)]) hx hb dX5_passQuarter_96 hl (k := 4) rfl (by rw [ev44]; rfl) (by decide) rfl (fun ls hl => ?_)
            refine lv_goto (tgt := 4) hx hb dX5_passQuarter_99 (by decide) ?_
            exact ih4 v44 v43 H42 L42 ls S42 (by omega) (by omega) (lv_sub hl [0, 1, 5, 6] rfl)
  have k_0 : (0 : Int32).toInt = 0 := by decide
  exact Lp4 2147483648 (0 : Int32) (0 : Int32) s.heap [] ls S (by omega)  (by omega) (lv_sub hl [0, 1, 2, 3] rfl)

set_option maxRecDepth 100000 in
set_option maxHeartbeats 4000000 in
theorem c_X5_become (l : Launch) (D : DD) (G : Nat → Nat) (a0 : Nat) (a1 : Nat) (ga0 : G a0 = 4) (ga1 : G a1 = 4) : CE l D G yX5_become cX5_become 3 none 1 [.ref a0, .ref a1] (fun _ => True) [(7, 0), (7, 1), (7, 2), (7, 3), (7, 4), (8, 0), (8, 1), (8, 2), (8, 3), (8, 4), (8, 5), (11, 0), (9, 1), (9, 2), (4, 3), (4, 4), (4, 5), (4, 6), (4, 7), (4, 8), (4, 9), (4, 10), (4, 11), (4, 12), (4, 13)] (xV (fun H H1 => BC D G H H1 a0 a1)) := by
  refine enter (by decide) (Nat.le_of_ble_eq_true rfl) ?_
  intro p e s m args below meth c ls Q hA hQ C hr hO hpre hl
  have hx := C.1
  have hb := C.2.1
  have S : Sd D G [(7, 0), (7, 1), (7, 2), (7, 3), (7, 4), (8, 0), (8, 1), (8, 2), (8, 3), (8, 4), (8, 5), (11, 0), (9, 1), (9, 2), (4, 3), (4, 4), (4, 5), (4, 6), (4, 7), (4, 8), (4, 9), (4, 10), (4, 11), (4, 12), (4, 13)] s.heap s.heap [] := Sd.start hO
  have hl : lv_has ls 3 [(0, .ref a0), (1, .ref a1)] := hl
  refine lv_iconst (v := 0) hx hb dX5_become_0 (by decide) ?_
  refine lv_istore_n (lv' := [(2, .int (0 : Int32)), (0, .ref a0), (1, .ref a1)]) hx hb dX5_become_1 rfl hl (by decide) rfl (fun ls hl => ?_)
  have Lp2 : ∀ (n : Nat) (x2_2 : Int32) (H_2 : Heap) (L_2 : List Loc) (ls : Array Slot), (Sd D G [(7, 0), (7, 1), (7, 2), (7, 3), (7, 4), (8, 0), (8, 1), (8, 2), (8, 3), (8, 4), (8, 5), (11, 0), (9, 1), (9, 2), (4, 3), (4, 4), (4, 5), (4, 6), (4, 7), (4, 8), (4, 9), (4, 10), (4, 11), (4, 12), (4, 13)] s.heap H_2 L_2) → (0 ≤ x2_2.toInt ∧ x2_2.toInt ≤ 6) → (BI D G s.heap H_2 a0 a1 x2_2.toInt 0) → (BF D G s.heap H_2) → 7 - x2_2.toInt ≤ (n : Int) → lv_has ls 3 [(2, .int x2_2), (0, .ref a0), (1, .ref a1)] → W p l e (rmU 1 0 0) s m args below meth c H_2 L_2 0 0 Q (F0 m 2 ls []) := by
    intro n
    induction n with
    | zero =>
      intro x2_2 H_2 L_2 ls S_2 j2_0 u2_0 u2_1 hn hl
      exact absurd hn (by omega)
    | succ n ih2 =>
      intro x2_2 H_2 L_2 ls S_2 j2_0 u2_0 u2_1 hn hl
      refine lv_iload_n hx hb dX5_become_2 rfl (lv_at hl 0 rfl) ?_
      refine lv_bipush (v := 6) hx hb dX5_become_3 (by decide) ?_
      have k_6 : (6 : Int32).toInt = 6 := by decide
      refine lv_icmp_ge (tgt := 29) hx hb dX5_become_5 (by decide) (fun c1 => ?_) (fun c1 => ?_)
      · have b1 : (6 : Int32).toInt ≤ x2_2.toInt := i_le.mp c1
        refine lv_iconst (v := 0) hx hb dX5_become_29 (by decide) ?_
        refine lv_istore_n (lv' := [(2, .int (0 : Int32)), (0, .ref a0), (1, .ref a1)]) hx hb dX5_become_30 rfl hl (by decide) rfl (fun ls hl => ?_)
        have Lp31 : ∀ (n : Nat) (x2_31 : Int32) (H_31 : Heap) (L_31 : List Loc) (ls : Array Slot), (Sd D G [(7, 0), (7, 1), (7, 2), (7, 3), (7, 4), (8, 0), (8, 1), (8, 2), (8, 3), (8, 4), (8, 5), (11, 0), (9, 1), (9, 2), (4, 3), (4, 4), (4, 5), (4, 6), (4, 7), (4, 8), (4, 9), (4, 10), (4, 11), (4, 12), (4, 13)] s.heap H_31 L_31) → (0 ≤ x2_31.toInt ∧ x2_31.toInt ≤ 12) → (BI D G s.heap H_31 a0 a1 6 x2_31.toInt) → (BF D G s.heap H_31) → 13 - x2_31.toInt ≤ (n : Int) → lv_has ls 3 [(2, .int x2_31), (0, .ref a0), (1, .ref a1)] → W p l e (rmU 1 0 0) s m args below meth c H_31 L_31 0 0 Q (F0 m 31 ls []) := by
          intro n
          induction n with
          | zero =>
            intro x2_31 H_31 L_31 ls S_31 j31_0 u31_0 u31_1 hn hl
            exact absurd hn (by omega)
          | succ n ih31 =>
            intro x2_31 H_31 L_31 ls S_31 j31_0 u31_0 u31_1 hn hl
            refine lv_iload_n hx hb dX5_become_31 rfl (lv_at hl 0 rfl) ?_
            refine lv_bipush (v := 12) hx hb dX5_become_32 (by decide) ?_
            have k_12 : (12 : Int32).toInt = 12 := by decide
            refine lv_icmp_ge (tgt := 58) hx hb dX5_become_34 (by decide) (fun c2 => ?_) (fun c2 => ?_)
            · have b2 : (12 : Int32).toInt ≤ x2_31.toInt := i_le.mp c2
              refine lv_aload_n hx hb dX5_become_58 rfl (lv_at hl 1 rfl) ?_
              refine q_gr (T := TX5) C S_31.1 ga0 2 kF_X5_26 dX5_become_59 rfl rfl (by decide) rfl (by decide) rfl (fun g3 => ?_)
              refine lv_aload_n hx hb dX5_become_62 rfl (lv_at hl 2 rfl) ?_
              refine q_gr (T := TX5) C S_31.1 ga1 2 kF_X5_26 dX5_become_63 rfl rfl (by decide) rfl (by decide) rfl (fun g4 => ?_)
              refine callV_Ev C S_31 (c_X0_become l D G (fR D H_31 5 a0 2) (fR D H_31 5 a1 2) g3 g4) kV_X5_74 g3 (trivial) (by decide +kernel) dX5_become_66 hl.1 rfl rfl (by decide) cd_X0_become ⟨Nat.le_of_ble_eq_true rfl, Nat.le_of_ble_eq_true rfl, Nat.le_of_ble_eq_true rfl, Nat.le_of_ble_eq_true rfl, Nat.le_of_ble_eq_true rfl⟩ (fun H5 L5 S5 K5 q5 => ?_)
              have bi0 := (u31_0.cast rfl (show x2_31.toInt = 12 by omega)).keep hO (Or.inl ga0) K5 (by decide) (by decide)
              have bf0 := u31_1.keep K5 (by decide +kernel)
              refine lv_aload_n hx hb dX5_become_69 rfl (lv_at hl 1 rfl) ?_
              refine lv_aload_n hx hb dX5_become_70 rfl (lv_at hl 2 rfl) ?_
              refine q_gi (T := TX5) C S5.1 ga1 3 kF_X5_30 dX5_become_71 rfl rfl (by decide) rfl (by decide) rfl ?_
              have r6 : 0 ≤ (fI D H5 5 a1 3).toInt ∧ (fI D H5 5 a1 3).toInt ≤ 6 := S5.1.rng ga1 rfl (by decide) rfl
              refine q_put (T := TX5) C S5 ga0 3 kF_X5_30 dX5_become_74 rfl rfl (by decide) (by decide) rfl rfl rfl rfl rfl (vok_i rfl (by omega) (by omega)) (by decide +kernel) (fun H7 L7 S7 P7 => ?_)
              refine lv_aload_n hx hb dX5_become_77 rfl (lv_at hl 1 rfl) ?_
              refine lv_aload_n hx hb dX5_become_78 rfl (lv_at hl 2 rfl) ?_
              refine q_gi (T := TX5) C S7.1 ga1 4 kF_X5_34 dX5_become_79 rfl rfl (by decide) rfl (by decide) rfl ?_
              have r8 : 0 ≤ (fI D H7 5 a1 4).toInt ∧ (fI D H7 5 a1 4).toInt ≤ 12 := S7.1.rng ga1 rfl (by decide) rfl
              refine q_put (T := TX5) C S7 ga0 4 kF_X5_34 dX5_become_82 rfl rfl (by decide) (by decide) rfl rfl rfl rfl rfl (vok_i rfl (by omega) (by omega)) (by decide +kernel) (fun H9 L9 S9 P9 => ?_)
              refine lv_aload_n hx hb dX5_become_85 rfl (lv_at hl 1 rfl) ?_
              refine lv_aload_n hx hb dX5_become_86 rfl (lv_at hl 2 rfl) ?_
              refine q_gi (T := TX5) C S9.1 ga1 5 kF_X5_37 dX5_become_87 rfl rfl (by decide) rfl (by decide) rfl ?_
              refine q_put (T := TX5) C S9 ga0 5 kF_X5_37 dX5_become_90 rfl rfl (by decide) (by decide) rfl rfl rfl rfl rfl (vok_a rfl) (by decide +kernel) (fun H10 L10 S10 P10 => ?_)
              refine lv_aload_n hx hb dX5_become_93 rfl (lv_at hl 1 rfl) ?_
              refine lv_aload_n hx hb dX5_become_94 rfl (lv_at hl 2 rfl) ?_
              refine q_gi (T := TX5) C S10.1 ga1 6 kF_X5_40 dX5_become_95 rfl rfl (by decide) rfl (by decide) rfl ?_
              refine q_put (T := TX5) C S10 ga0 6 kF_X5_40 dX5_become_98 rfl rfl (by decide) (by decide) rfl rfl rfl rfl rfl (vok_a rfl) (by decide +kernel) (fun H11 L11 S11 P11 => ?_)
              refine lv_aload_n hx hb dX5_become_101 rfl (lv_at hl 1 rfl) ?_
              refine lv_aload_n hx hb dX5_become_102 rfl (lv_at hl 2 rfl) ?_
              refine q_gi (T := TX5) C S11.1 ga1 7 kF_X5_43 dX5_become_103 rfl rfl (by decide) rfl (by decide) rfl ?_
              refine q_put (T := TX5) C S11 ga0 7 kF_X5_43 dX5_become_106 rfl rfl (by decide) (by decide) rfl rfl rfl rfl rfl (vok_a rfl) (by decide +kernel) (fun H12 L12 S12 P12 => ?_)
              refine lv_aload_n hx hb dX5_become_109 rfl (lv_at hl 1 rfl) ?_
              refine lv_aload_n hx hb dX5_become_110 rfl (lv_at hl 2 rfl) ?_
              refine q_gi (T := TX5) C S12.1 ga1 8 kF_X5_46 dX5_become_111 rfl rfl (by decide) rfl (by decide) rfl ?_
              refine q_put (T := TX5) C S12 ga0 8 kF_X5_46 dX5_become_114 rfl rfl (by decide) (by decide) rfl rfl rfl rfl rfl (vok_a rfl) (by decide +kernel) (fun H13 L13 S13 P13 => ?_)
              refine lv_aload_n hx hb dX5_become_117 rfl (lv_at hl 1 rfl) ?_
              refine lv_aload_n hx hb dX5_become_118 rfl (lv_at hl 2 rfl) ?_
              refine q_gi (T := TX5) C S13.1 ga1 9 kF_X5_49 dX5_become_119 rfl rfl (by decide) rfl (by decide) rfl ?_
              refine q_put (T := TX5) C S13 ga0 9 kF_X5_49 dX5_become_122 rfl rfl (by decide) (by decide) rfl rfl rfl rfl rfl (vok_a rfl) (by decide +kernel) (fun H14 L14 S14 P14 => ?_)
              refine lv_aload_n hx hb dX5_become_125 rfl (lv_at hl 1 rfl) ?_
              refine lv_aload_n hx hb dX5_become_126 rfl (lv_at hl 2 rfl) ?_
              refine q_gi (T := TX5) C S14.1 ga1 10 kF_X5_52 dX5_become_127 rfl rfl (by decide) rfl (by decide) rfl ?_
              refine q_put (T := TX5) C S14 ga0 10 kF_X5_52 dX5_become_130 rfl rfl (by decide) (by decide) rfl rfl rfl rfl rfl (vok_a rfl) (by decide +kernel) (fun H15 L15 S15 P15 => ?_)
              refine lv_aload_n hx hb dX5_become_133 rfl (lv_at hl 1 rfl) ?_
              refine lv_aload_n hx hb dX5_become_134 rfl (lv_at hl 2 rfl) ?_
              refine q_gi (T := TX5) C S15.1 ga1 11 kF_X5_55 dX5_become_135 rfl rfl (by decide) rfl (by decide) rfl ?_
              refine q_put (T := TX5) C S15 ga0 11 kF_X5_55 dX5_become_138 rfl rfl (by decide) (by decide) rfl rfl rfl rfl rfl (vok_a rfl) (by decide +kernel) (fun H16 L16 S16 P16 => ?_)
              refine lv_aload_n hx hb dX5_become_141 rfl (lv_at hl 1 rfl) ?_
              refine lv_aload_n hx hb dX5_become_142 rfl (lv_at hl 2 rfl) ?_
              refine q_gi (T := TX5) C S16.1 ga1 12 kF_X5_58 dX5_become_143 rfl rfl (by decide) rfl (by decide) rfl ?_
              refine q_put (T := TX5) C S16 ga0 12 kF_X5_58 dX5_become_146 rfl rfl (by decide) (by decide) rfl rfl rfl rfl rfl (vok_a rfl) (by decide +kernel) (fun H17 L17 S17 P17 => ?_)
              refine lv_aload_n hx hb dX5_become_149 rfl (lv_at hl 1 rfl) ?_
              refine lv_aload_n hx hb dX5_become_150 rfl (lv_at hl 2 rfl) ?_
              refine q_gn (T := TX5) C S17.1 ga1 13 kF_X5_61 dX5_become_151 rfl rfl (by decide) rfl (by decide) rfl (fun zg18 => ?_) (fun zg18 g18 => ?_)
              · skip
                refine q_put (T := TX5) C S17 ga0 13 kF_X5_61 dX5_become_154 rfl rfl (by decide) (by decide) rfl rfl rfl rfl rfl (vok_n rfl) (by decide +kernel) (fun H19 L19 S19 P19 => ?_)
                have bi1 := bi0.keep hO (Or.inl ga0) (Pt.keep ga0 rfl (by decide) P7) (by decide) (by decide)
                have bi2 := bi1.keep hO (Or.inl ga0) (Pt.keep ga0 rfl (by decide) P9) (by decide) (by decide)
                have bi3 := bi2.keep hO (Or.inl ga0) (Pt.keep ga0 rfl (by decide) P10) (by decide) (by decide)
                have bi4 := bi3.keep hO (Or.inl ga0) (Pt.keep ga0 rfl (by decide) P11) (by decide) (by decide)
                have bi5 := bi4.keep hO (Or.inl ga0) (Pt.keep ga0 rfl (by decide) P12) (by decide) (by decide)
                have bi6 := bi5.keep hO (Or.inl ga0) (Pt.keep ga0 rfl (by decide) P13) (by decide) (by decide)
                have bi7 := bi6.keep hO (Or.inl ga0) (Pt.keep ga0 rfl (by decide) P14) (by decide) (by decide)
                have bi8 := bi7.keep hO (Or.inl ga0) (Pt.keep ga0 rfl (by decide) P15) (by decide) (by decide)
                have bi9 := bi8.keep hO (Or.inl ga0) (Pt.keep ga0 rfl (by decide) P16) (by decide) (by decide)
                have bi10 := bi9.keep hO (Or.inl ga0) (Pt.keep ga0 rfl (by decide) P17) (by decide) (by decide)
                have bi11 := bi10.keep hO (Or.inl ga0) (Pt.keep ga0 rfl (by decide) P19) (by decide) (by decide)
                exact retE_v hQ C S19 hr dX5_become_157 (BC.of bi11 hO (Or.inl ga0) (Or.inl ga1) S19.2.1 (by rw [Pt.any P19 (by decide) (by decide) a0, Pt.any P17 (by decide) (by decide) a0, Pt.any P16 (by decide) (by decide) a0, Pt.any P15 (by decide) (by decide) a0, Pt.any P14 (by decide) (by decide) a0, Pt.any P13 (by decide) (by decide) a0, Pt.any P12 (by decide) (by decide) a0, Pt.any P11 (by decide) (by decide) a0, Pt.any P10 (by decide) (by decide) a0, Pt.any P9 (by decide) (by decide) a0, Pt.i P7, bf0 a1 3 (Or.inl ga1) (by decide)]) (by rw [Pt.any P19 (by decide) (by decide) a0, Pt.any P17 (by decide) (by decide) a0, Pt.any P16 (by decide) (by decide) a0, Pt.any P15 (by decide) (by decide) a0, Pt.any P14 (by decide) (by decide) a0, Pt.any P13 (by decide) (by decide) a0, Pt.any P12 (by decide) (by decide) a0, Pt.any P11 (by decide) (by decide) a0, Pt.any P10 (by decide) (by decide) a0, Pt.i P9, Pt.any P7 (by decide) (by decide) a1, bf0 a1 4 (Or.inl ga1) (by decide)]) (by rw [Pt.any P19 (by decide) (by decide) a0, Pt.any P17 (by decide) (by decide) a0, Pt.any P16 (by decide) (by decide) a0, Pt.any P15 (by decide) (by decide) a0, Pt.any P14 (by decide) (by decide) a0, Pt.any P13 (by decide) (by decide) a0, Pt.any P12 (by decide) (by decide) a0, Pt.any P11 (by decide) (by decide) a0, Pt.i P10, Pt.any P9 (by decide) (by decide) a1, Pt.any P7 (by decide) (by decide) a1, bf0 a1 5 (Or.inl ga1) (by decide)]) (by rw [Pt.any P19 (by decide) (by decide) a0, Pt.any P17 (by decide) (by decide) a0, Pt.any P16 (by decide) (by decide) a0, Pt.any P15 (by decide) (by decide) a0, Pt.any P14 (by decide) (by decide) a0, Pt.i P13, Pt.any P12 (by decide) (by decide) a1, Pt.any P11 (by decide) (by decide) a1, Pt.any P10 (by decide) (by decide) a1, Pt.any P9 (by decide) (by decide) a1, Pt.any P7 (by decide) (by decide) a1, bf0 a1 8 (Or.inl ga1) (by decide)]) (fun q hq hn => ⟨by rw [Pt.f P19 hn, Pt.f P17 hn, Pt.f P16 hn, Pt.f P15 hn, Pt.f P14 hn, Pt.f P13 hn, Pt.f P12 hn, Pt.f P11 hn, Pt.f P10 hn, Pt.f P9 hn, Pt.f P7 hn, bf0 q 3 hq (by decide)], by rw [Pt.f P19 hn, Pt.f P17 hn, Pt.f P16 hn, Pt.f P15 hn, Pt.f P14 hn, Pt.f P13 hn, Pt.f P12 hn, Pt.f P11 hn, Pt.f P10 hn, Pt.f P9 hn, Pt.f P7 hn, bf0 q 4 hq (by decide)], by rw [Pt.f P19 hn, Pt.f P17 hn, Pt.f P16 hn, Pt.f P15 hn, Pt.f P14 hn, Pt.f P13 hn, Pt.f P12 hn, Pt.f P11 hn, Pt.f P10 hn, Pt.f P9 hn, Pt.f P7 hn, bf0 q 5 hq (by decide)], by rw [Pt.f P19 hn, Pt.f P17 hn, Pt.f P16 hn, Pt.f P15 hn, Pt.f P14 hn, Pt.f P13 hn, Pt.f P12 hn, Pt.f P11 hn, Pt.f P10 hn, Pt.f P9 hn, Pt.f P7 hn, bf0 q 8 hq (by decide)]⟩))
              · skip
                refine q_put (T := TX5) C S17 ga0 13 kF_X5_61 dX5_become_154 rfl rfl (by decide) (by decide) rfl rfl rfl rfl rfl (vok_r rfl g18) (by decide +kernel) (fun H20 L20 S20 P20 => ?_)
                have bi1 := bi0.keep hO (Or.inl ga0) (Pt.keep ga0 rfl (by decide) P7) (by decide) (by decide)
                have bi2 := bi1.keep hO (Or.inl ga0) (Pt.keep ga0 rfl (by decide) P9) (by decide) (by decide)
                have bi3 := bi2.keep hO (Or.inl ga0) (Pt.keep ga0 rfl (by decide) P10) (by decide) (by decide)
                have bi4 := bi3.keep hO (Or.inl ga0) (Pt.keep ga0 rfl (by decide) P11) (by decide) (by decide)
                have bi5 := bi4.keep hO (Or.inl ga0) (Pt.keep ga0 rfl (by decide) P12) (by decide) (by decide)
                have bi6 := bi5.keep hO (Or.inl ga0) (Pt.keep ga0 rfl (by decide) P13) (by decide) (by decide)
                have bi7 := bi6.keep hO (Or.inl ga0) (Pt.keep ga0 rfl (by decide) P14) (by decide) (by decide)
                have bi8 := bi7.keep hO (Or.inl ga0) (Pt.keep ga0 rfl (by decide) P15) (by decide) (by decide)
                have bi9 := bi8.keep hO (Or.inl ga0) (Pt.keep ga0 rfl (by decide) P16) (by decide) (by decide)
                have bi10 := bi9.keep hO (Or.inl ga0) (Pt.keep ga0 rfl (by decide) P17) (by decide) (by decide)
                have bi11 := bi10.keep hO (Or.inl ga0) (Pt.keep ga0 rfl (by decide) P20) (by decide) (by decide)
                exact retE_v hQ C S20 hr dX5_become_157 (BC.of bi11 hO (Or.inl ga0) (Or.inl ga1) S20.2.1 (by rw [Pt.any P20 (by decide) (by decide) a0, Pt.any P17 (by decide) (by decide) a0, Pt.any P16 (by decide) (by decide) a0, Pt.any P15 (by decide) (by decide) a0, Pt.any P14 (by decide) (by decide) a0, Pt.any P13 (by decide) (by decide) a0, Pt.any P12 (by decide) (by decide) a0, Pt.any P11 (by decide) (by decide) a0, Pt.any P10 (by decide) (by decide) a0, Pt.any P9 (by decide) (by decide) a0, Pt.i P7, bf0 a1 3 (Or.inl ga1) (by decide)]) (by rw [Pt.any P20 (by decide) (by decide) a0, Pt.any P17 (by decide) (by decide) a0, Pt.any P16 (by decide) (by decide) a0, Pt.any P15 (by decide) (by decide) a0, Pt.any P14 (by decide) (by decide) a0, Pt.any P13 (by decide) (by decide) a0, Pt.any P12 (by decide) (by decide) a0, Pt.any P11 (by decide) (by decide) a0, Pt.any P10 (by decide) (by decide) a0, Pt.i P9, Pt.any P7 (by decide) (by decide) a1, bf0 a1 4 (Or.inl ga1) (by decide)]) (by rw [Pt.any P20 (by decide) (by decide) a0, Pt.any P17 (by decide) (by decide) a0, Pt.any P16 (by decide) (by decide) a0, Pt.any P15 (by decide) (by decide) a0, Pt.any P14 (by decide) (by decide) a0, Pt.any P13 (by decide) (by decide) a0, Pt.any P12 (by decide) (by decide) a0, Pt.any P11 (by decide) (by decide) a0, Pt.i P10, Pt.any P9 (by decide) (by decide) a1, Pt.any P7 (by decide) (by decide) a1, bf0 a1 5 (Or.inl ga1) (by decide)]) (by rw [Pt.any P20 (by decide) (by decide) a0, Pt.any P17 (by decide) (by decide) a0, Pt.any P16 (by decide) (by decide) a0, Pt.any P15 (by decide) (by decide) a0, Pt.any P14 (by decide) (by decide) a0, Pt.i P13, Pt.any P12 (by decide) (by decide) a1, Pt.any P11 (by decide) (by decide) a1, Pt.any P10 (by decide) (by decide) a1, Pt.any P9 (by decide) (by decide) a1, Pt.any P7 (by decide) (by decide) a1, bf0 a1 8 (Or.inl ga1) (by decide)]) (fun q hq hn => ⟨by rw [Pt.f P20 hn, Pt.f P17 hn, Pt.f P16 hn, Pt.f P15 hn, Pt.f P14 hn, Pt.f P13 hn, Pt.f P12 hn, Pt.f P11 hn, Pt.f P10 hn, Pt.f P9 hn, Pt.f P7 hn, bf0 q 3 hq (by decide)], by rw [Pt.f P20 hn, Pt.f P17 hn, Pt.f P16 hn, Pt.f P15 hn, Pt.f P14 hn, Pt.f P13 hn, Pt.f P12 hn, Pt.f P11 hn, Pt.f P10 hn, Pt.f P9 hn, Pt.f P7 hn, bf0 q 4 hq (by decide)], by rw [Pt.f P20 hn, Pt.f P17 hn, Pt.f P16 hn, Pt.f P15 hn, Pt.f P14 hn, Pt.f P13 hn, Pt.f P12 hn, Pt.f P11 hn, Pt.f P10 hn, Pt.f P9 hn, Pt.f P7 hn, bf0 q 5 hq (by decide)], by rw [Pt.f P20 hn, Pt.f P17 hn, Pt.f P16 hn, Pt.f P15 hn, Pt.f P14 hn, Pt.f P13 hn, Pt.f P12 hn, Pt.f P11 hn, Pt.f P10 hn, Pt.f P9 hn, Pt.f P7 hn, bf0 q 8 hq (by decide)]⟩))
            · have b2 : ¬ (12 : Int32).toInt ≤ x2_31.toInt := fun z9 => c2 (i_le.mpr z9)
              refine lv_aload_n hx hb dX5_become_37 rfl (lv_at hl 1 rfl) ?_
              refine q_gr (T := TX5) C S_31.1 ga0 1 kF_X5_19 dX5_become_38 rfl rfl (by decide) rfl (by decide) rfl (fun g21 => ?_)
              refine lv_iload_n hx hb dX5_become_41 rfl (lv_at hl 0 rfl) ?_
              refine q_aald C S_31.1 g21 (by omega) (by omega) dX5_become_42 rfl (by decide) rfl rfl (fun g22 => ?_)
              refine lv_aload_n hx hb dX5_become_43 rfl (lv_at hl 2 rfl) ?_
              refine q_gr (T := TX5) C S_31.1 ga1 1 kF_X5_19 dX5_become_44 rfl rfl (by decide) rfl (by decide) rfl (fun g23 => ?_)
              refine lv_iload_n hx hb dX5_become_47 rfl (lv_at hl 0 rfl) ?_
              refine q_aald C S_31.1 g23 (by omega) (by omega) dX5_become_48 rfl (by decide) rfl rfl (fun g24 => ?_)
              refine callV_Ev C S_31 (c_X1_become l D G (eR H_31 (fR D H_31 5 a0 1) x2_31.toInt.toNat) (eR H_31 (fR D H_31 5 a1 1) x2_31.toInt.toNat) g22 g24) kV_X5_71 g22 (trivial) (by decide +kernel) dX5_become_49 hl.1 rfl rfl (by decide) cd_X1_become ⟨Nat.le_of_ble_eq_true rfl, Nat.le_of_ble_eq_true rfl, Nat.le_of_ble_eq_true rfl, Nat.le_of_ble_eq_true rfl, Nat.le_of_ble_eq_true rfl⟩ (fun H25 L25 S25 K25 q25 => ?_)
              have bq := q25
              obtain ⟨v26, ev26⟩ : ∃ y : Int32, y = x2_31 + (1) := ⟨_, rfl⟩
              have k_1 : (1 : Int32).toInt = 1 := by decide
              have f27 : v26.toInt = x2_31.toInt + (1) := by rw [ev26]; exact i_addc k_1 (by omega) (by omega)
              refine lv_iinc (v := v26) (lv' := [(2, .int v26), (0, .ref a0), (1, .ref a1)]) hx hb dX5_become_52 hl (k := 0) rfl (by rw [ev26]; rfl) (by decide) rfl (fun ls hl => ?_)
              refine lv_goto (tgt := 31) hx hb dX5_become_55 (by decide) ?_
              exact ih31 v26 H25 L25 ls S25 (by omega) (u31_0.hearth hO (Or.inl ga0) (Or.inl ga1) K25 bq.1 bq.2 (hs_keep hO (Or.inl ga0) S_31.2.1 (by decide +kernel) _) (hs_keep hO (Or.inl ga1) S_31.2.1 (by decide +kernel) _) (by omega) (by omega)) (u31_1.keep K25 (by decide +kernel)) (by omega) (lv_sub hl [0, 1, 2] rfl)
        have k_0 : (0 : Int32).toInt = 0 := by decide
        exact Lp31 13 (0 : Int32) H_2 L_2 ls S_2 (by omega) (u2_0.cast (by omega) (by decide)) u2_1  (by omega) (lv_sub hl [0, 1, 2] rfl)
      · have b1 : ¬ (6 : Int32).toInt ≤ x2_2.toInt := fun z9 => c1 (i_le.mpr z9)
        refine lv_aload_n hx hb dX5_become_8 rfl (lv_at hl 1 rfl) ?_
        refine q_gr (T := TX5) C S_2.1 ga0 0 kF_X5_11 dX5_become_9 rfl rfl (by decide) rfl (by decide) rfl (fun g28 => ?_)
        refine lv_iload_n hx hb dX5_become_12 rfl (lv_at hl 0 rfl) ?_
        refine q_aald C S_2.1 g28 (by omega) (by omega) dX5_become_13 rfl (by decide) rfl rfl (fun g29 => ?_)
        refine lv_aload_n hx hb dX5_become_14 rfl (lv_at hl 2 rfl) ?_
        refine q_gr (T := TX5) C S_2.1 ga1 0 kF_X5_11 dX5_become_15 rfl rfl (by decide) rfl (by decide) rfl (fun g30 => ?_)
        refine lv_iload_n hx hb dX5_become_18 rfl (lv_at hl 0 rfl) ?_
        refine q_aald C S_2.1 g30 (by omega) (by omega) dX5_become_19 rfl (by decide) rfl rfl (fun g31 => ?_)
        refine callV_Ev C S_2 (c_X2_become l D G (eR H_2 (fR D H_2 5 a0 0) x2_2.toInt.toNat) (eR H_2 (fR D H_2 5 a1 0) x2_2.toInt.toNat) g29 g31) kV_X5_67 g29 (trivial) (by decide +kernel) dX5_become_20 hl.1 rfl rfl (by decide) cd_X2_become ⟨Nat.le_of_ble_eq_true rfl, Nat.le_of_ble_eq_true rfl, Nat.le_of_ble_eq_true rfl, Nat.le_of_ble_eq_true rfl, Nat.le_of_ble_eq_true rfl⟩ (fun H32 L32 S32 K32 q32 => ?_)
        have bq := q32
        obtain ⟨v33, ev33⟩ : ∃ y : Int32, y = x2_2 + (1) := ⟨_, rfl⟩
        have k_1 : (1 : Int32).toInt = 1 := by decide
        have f34 : v33.toInt = x2_2.toInt + (1) := by rw [ev33]; exact i_addc k_1 (by omega) (by omega)
        refine lv_iinc (v := v33) (lv' := [(2, .int v33), (0, .ref a0), (1, .ref a1)]) hx hb dX5_become_23 hl (k := 0) rfl (by rw [ev33]; rfl) (by decide) rfl (fun ls hl => ?_)
        refine lv_goto (tgt := 2) hx hb dX5_become_26 (by decide) ?_
        exact ih2 v33 H32 L32 ls S32 (by omega) (u2_0.house hO (Or.inl ga0) (Or.inl ga1) K32 bq.1 bq.2 (ho_keep hO (Or.inl ga0) S_2.2.1 (by decide +kernel) _) (ho_keep hO (Or.inl ga1) S_2.2.1 (by decide +kernel) _) (by omega) (by omega)) (u2_1.keep K32 (by decide +kernel)) (by omega) (lv_sub hl [0, 1, 2] rfl)
  have k_0 : (0 : Int32).toInt = 0 := by decide
  exact Lp2 7 (0 : Int32) s.heap [] ls S (by omega) (BI.start.cast (by decide) rfl) BF.start  (by omega) (lv_sub hl [0, 1, 2] rfl)
