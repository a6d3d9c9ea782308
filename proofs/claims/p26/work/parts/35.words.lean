set_option maxRecDepth 100000 in
set_option maxHeartbeats 4000000 in
theorem c_X9_isWord (l : Launch) (D : DD) (G : Nat → Nat) (a0 : Nat) (a1 n1 : Nat) (ga0 : G a0 = 2) (sa1 : D.1.2 99 a1 = n1 + 1) : CP l D G yX9_isWord cX9_isWord 3 (some .boolean) 4 [.ref a0, .ref a1] (fun _ => True) (pI (fun H r => 0 ≤ r.toInt ∧ r.toInt ≤ 1)) := by
  refine enter (by decide) (Nat.le_of_ble_eq_true rfl) ?_
  intro p e s m args below meth c ls Q hA hQ C hr hO hpre hl
  have hx := C.1
  have hb := C.2.1
  have hl : lv_has ls 3 [(0, .ref a0), (1, .ref a1)] := hl
  refine lv_aload_n hx hb dX9_isWord_0 rfl (lv_at hl 0 rfl) ?_
  refine q_gi (T := TX9) C hO ga0 3 kF_X9_22 dX9_isWord_1 rfl rfl (by decide) rfl (by decide) rfl ?_
  refine lv_iconst (v := 1) hx hb dX9_isWord_4 (by decide) ?_
  have k_1 : (1 : Int32).toInt = 1 := by decide
  refine lv_icmp_ne (tgt := 24) hx hb dX9_isWord_5 (by decide) (fun c1 => ?_) (fun c1 => ?_)
  · have b1 : ¬ (fI D s.heap 9 a0 3).toInt = (1 : Int32).toInt := fun z9 => c1 (i_eq.mpr z9)
    refine lv_iconst (v := 0) hx hb dX9_isWord_24 (by decide) ?_
    have k_0 : (0 : Int32).toInt = 0 := by decide
    exact retP_z hQ C hr dX9_isWord_25 (z01 (by omega) (by omega)) (by omega)
  · have b1 : (fI D s.heap 9 a0 3).toInt = (1 : Int32).toInt := i_eq.mp c1
    refine lv_aload_n hx hb dX9_isWord_8 rfl (lv_at hl 0 rfl) ?_
    refine q_gi (T := TX9) C hO ga0 5 kF_X9_28 dX9_isWord_9 rfl rfl (by decide) rfl (by decide) rfl ?_
    have r2 : 0 ≤ (fI D s.heap 9 a0 5).toInt ∧ (fI D s.heap 9 a0 5).toInt ≤ 400 := hO.rng ga0 rfl (by decide) rfl
    refine lv_aload_n hx hb dX9_isWord_12 rfl (lv_at hl 0 rfl) ?_
    refine q_gi (T := TX9) C hO ga0 4 kF_X9_25 dX9_isWord_13 rfl rfl (by decide) rfl (by decide) rfl ?_
    have r3 : 0 ≤ (fI D s.heap 9 a0 4).toInt ∧ (fI D s.heap 9 a0 4).toInt ≤ 400 := hO.rng ga0 rfl (by decide) rfl
    refine lv_isub hx hb dX9_isWord_16 ?_
    refine lv_topi (fun v4 ev4 => ?_)
    have f5 : v4.toInt = (fI D s.heap 9 a0 5).toInt - (fI D s.heap 9 a0 4).toInt := by rw [ev4]; exact i_sub (by omega) (by omega)
    refine lv_aload_n hx hb dX9_isWord_17 rfl (lv_at hl 1 rfl) ?_
    refine callR_Pi C hO (fun _ _ _ => rfl) (c_J0_length_8abf5 l D G a1 n1 sa1) kV_X9_37 (str_recv C (fun _ _ _ => rfl) sa1) (trivial) dX9_isWord_18 hl.1 cd_J0_length_8abf5 ⟨Nat.le_of_ble_eq_true rfl, Nat.le_of_ble_eq_true rfl, Nat.le_of_ble_eq_true rfl, Nat.le_of_ble_eq_true rfl, Nat.le_of_ble_eq_true rfl⟩ (fun v6 q6 => ?_)
    refine lv_icmp_eq (tgt := 26) hx hb dX9_isWord_21 (by decide) (fun c7 => ?_) (fun c7 => ?_)
    · have b7 : v4.toInt = v6.toInt := i_eq.mp c7
      refine lv_iconst (v := 0) hx hb dX9_isWord_26 (by decide) ?_
      refine lv_istore_n (lv' := [(2, .int (0 : Int32)), (0, .ref a0), (1, .ref a1)]) hx hb dX9_isWord_27 rfl hl (by decide) rfl (fun ls hl => ?_)
      have Lp28 : ∀ (n : Nat) (x2_28 : Int32) (ls : Array Slot), (0 ≤ x2_28.toInt ∧ x2_28.toInt ≤ 400) → 401 - x2_28.toInt ≤ (n : Int) → lv_has ls 3 [(2, .int x2_28), (0, .ref a0), (1, .ref a1)] → W p l e (rmU 4 0 0) s m args below meth c s.heap [] 0 0 Q (F0 m 28 ls []) := by
        intro n
        induction n with
        | zero =>
          intro x2_28 ls j28_0 hn hl
          exact absurd hn (by omega)
        | succ n ih28 =>
          intro x2_28 ls j28_0 hn hl
          refine lv_iload_n hx hb dX9_isWord_28 rfl (lv_at hl 0 rfl) ?_
          refine lv_aload_n hx hb dX9_isWord_29 rfl (lv_at hl 2 rfl) ?_
          refine callR_Pi C hO (fun _ _ _ => rfl) (c_J0_length_8abf5 l D G a1 n1 sa1) kV_X9_37 (str_recv C (fun _ _ _ => rfl) sa1) (trivial) dX9_isWord_30 hl.1 cd_J0_length_8abf5 ⟨Nat.le_of_ble_eq_true rfl, Nat.le_of_ble_eq_true rfl, Nat.le_of_ble_eq_true rfl, Nat.le_of_ble_eq_true rfl, Nat.le_of_ble_eq_true rfl⟩ (fun v8 q8 => ?_)
          have r10 := i_rng v8
          refine lv_icmp_ge (tgt := 63) hx hb dX9_isWord_33 (by decide) (fun c9 => ?_) (fun c9 => ?_)
          · have b9 : v8.toInt ≤ x2_28.toInt := i_le.mp c9
            refine lv_iconst (v := 1) hx hb dX9_isWord_63 (by decide) ?_
            exact retP_z hQ C hr dX9_isWord_64 (z01 (by omega) (by omega)) (by omega)
          · have b9 : ¬ v8.toInt ≤ x2_28.toInt := fun z9 => c9 (i_le.mpr z9)
            refine lv_aload_n hx hb dX9_isWord_36 rfl (lv_at hl 1 rfl) ?_
            refine q_gr (T := TX9) C hO ga0 0 kF_X9_11 dX9_isWord_37 rfl rfl (by decide) rfl (by decide) rfl (fun g11 => ?_)
            refine lv_aload_n hx hb dX9_isWord_40 rfl (lv_at hl 1 rfl) ?_
            refine q_gi (T := TX9) C hO ga0 4 kF_X9_25 dX9_isWord_41 rfl rfl (by decide) rfl (by decide) rfl ?_
            refine lv_iload_n hx hb dX9_isWord_44 rfl (lv_at hl 0 rfl) ?_
            refine lv_iadd hx hb dX9_isWord_45 ?_
            refine lv_topi (fun v12 ev12 => ?_)
            have f13 : v12.toInt = (fI D s.heap 9 a0 4).toInt + x2_28.toInt := by rw [ev12]; exact i_add (by omega) (by omega)
            have n14 : aN s.heap (fR D s.heap 9 a0 0) = 400 := len_3 hO g11
            refine q_iald C hO g11 (by omega) (by omega) dX9_isWord_46 rfl (by decide) ?_
            refine lv_topi (fun v15 ev15 => ?_)
            refine lv_aload_n hx hb dX9_isWord_47 rfl (lv_at hl 2 rfl) ?_
            refine lv_iload_n hx hb dX9_isWord_48 rfl (lv_at hl 0 rfl) ?_
            refine callR_Pi C hO (fun _ _ _ => rfl) (c_J0_charAt_5068e l D G a1 n1 x2_28 sa1 (by omega)) kV_X9_42 (str_recv C (fun _ _ _ => rfl) sa1) (trivial) dX9_isWord_49 hl.1 cd_J0_charAt_5068e ⟨Nat.le_of_ble_eq_true rfl, Nat.le_of_ble_eq_true rfl, Nat.le_of_ble_eq_true rfl, Nat.le_of_ble_eq_true rfl, Nat.le_of_ble_eq_true rfl⟩ (fun v16 q16 => ?_)
            refine lv_icmp_eq (tgt := 57) hx hb dX9_isWord_52 (by decide) (fun c17 => ?_) (fun c17 => ?_)
            · have b17 : v15.toInt = v16.toInt := i_eq.mp c17
              obtain ⟨v18, ev18⟩ : ∃ y : Int32, y = x2_28 + (1) := ⟨_, rfl⟩
              have f19 : v18.toInt = x2_28.toInt + (1) := by rw [ev18]; exact i_addc k_1 (by omega) (by omega)
              refine lv_iinc (v := v18) (lv' := [(2, .int v18), (0, .ref a0), (1, .ref a1)]) hx hb dX9_isWord_57 hl (k := 0) rfl (by rw [ev18]; rfl) (by decide) rfl (fun ls hl => ?_)
              refine lv_goto (tgt := 28) hx hb dX9_isWord_60 (by decide) ?_
              exact ih28 v18 ls (by omega) (by omega) (lv_sub hl [0, 1, 2] rfl)
            · have b17 : ¬ v15.toInt = v16.toInt := fun z9 => c17 (i_eq.mpr z9)
              refine lv_iconst (v := 0) hx hb dX9_isWord_55 (by decide) ?_
              have k_0 : (0 : Int32).toInt = 0 := by decide
              exact retP_z hQ C hr dX9_isWord_56 (z01 (by omega) (by omega)) (by omega)
      have k_0 : (0 : Int32).toInt = 0 := by decide
      exact Lp28 401 (0 : Int32) ls (by omega)  (by omega) (lv_sub hl [0, 1, 2] rfl)
    · have b7 : ¬ v4.toInt = v6.toInt := fun z9 => c7 (i_eq.mpr z9)
      refine lv_iconst (v := 0) hx hb dX9_isWord_24 (by decide) ?_
      have k_0 : (0 : Int32).toInt = 0 := by decide
      exact retP_z hQ C hr dX9_isWord_25 (z01 (by omega) (by omega)) (by omega)

set_option maxRecDepth 100000 in
set_option maxHeartbeats 4000000 in
theorem c_X12_isWord (l : Launch) (D : DD) (G : Nat → Nat) (a0 : Nat) (a1 n1 : Nat) (ga0 : G a0 = 30) (sa1 : D.1.2 99 a1 = n1 + 1) : CP l D G yX12_isWord cX12_isWord 4 (some .boolean) 4 [.ref a0, .ref a1] (fun _ => True) (pI (fun H r => 0 ≤ r.toInt ∧ r.toInt ≤ 1)) := by
  refine enter (by decide) (Nat.le_of_ble_eq_true rfl) ?_
  intro p e s m args below meth c ls Q hA hQ C hr hO hpre hl
  have hx := C.1
  have hb := C.2.1
  have hl : lv_has ls 4 [(0, .ref a0), (1, .ref a1)] := hl
  refine lv_aload_n hx hb dX12_isWord_0 rfl (lv_at hl 0 rfl) ?_
  refine q_gi (T := TX12) C hO ga0 10 kF_X12_78 dX12_isWord_1 rfl rfl (by decide) rfl (by decide) rfl ?_
  have r1 : 0 ≤ (fI D s.heap 11 a0 10).toInt ∧ (fI D s.heap 11 a0 10).toInt ≤ 400 := hO.rng ga0 rfl (by decide) rfl
  refine lv_aload_n hx hb dX12_isWord_4 rfl (lv_at hl 0 rfl) ?_
  refine q_gi (T := TX12) C hO ga0 12 kF_X12_87 dX12_isWord_5 rfl rfl (by decide) rfl (by decide) rfl ?_
  have r2 : 0 ≤ (fI D s.heap 11 a0 12).toInt ∧ (fI D s.heap 11 a0 12).toInt ≤ 400 := hO.rng ga0 rfl (by decide) rfl
  refine lv_isub hx hb dX12_isWord_8 ?_
  refine lv_topi (fun v3 ev3 => ?_)
  have f4 : v3.toInt = (fI D s.heap 11 a0 10).toInt - (fI D s.heap 11 a0 12).toInt := by rw [ev3]; exact i_sub (by omega) (by omega)
  refine lv_aload_n hx hb dX12_isWord_9 rfl (lv_at hl 1 rfl) ?_
  refine callR_Pi C hO (fun _ _ _ => rfl) (c_J0_length_8abf5 l D G a1 n1 sa1) kV_X12_93 (str_recv C (fun _ _ _ => rfl) sa1) (trivial) dX12_isWord_10 hl.1 cd_J0_length_8abf5 ⟨Nat.le_of_ble_eq_true rfl, Nat.le_of_ble_eq_true rfl, Nat.le_of_ble_eq_true rfl, Nat.le_of_ble_eq_true rfl, Nat.le_of_ble_eq_true rfl⟩ (fun v5 q5 => ?_)
  refine lv_icmp_ne (tgt := 20) hx hb dX12_isWord_13 (by decide) (fun c6 => ?_) (fun c6 => ?_)
  · have b6 : ¬ v3.toInt = v5.toInt := fun z9 => c6 (i_eq.mpr z9)
    refine lv_iconst (v := 0) hx hb dX12_isWord_20 (by decide) ?_
    refine lv_istore_n (lv' := [(2, .int (0 : Int32)), (0, .ref a0), (1, .ref a1)]) hx hb dX12_isWord_21 rfl hl (by decide) rfl (fun ls hl => ?_)
    refine lv_iconst (v := 0) hx hb dX12_isWord_22 (by decide) ?_
    refine lv_istore_n (lv' := [(3, .int (0 : Int32)), (2, .int (0 : Int32)), (0, .ref a0), (1, .ref a1)]) hx hb dX12_isWord_23 rfl hl (by decide) rfl (fun ls hl => ?_)
    have Lp24 : ∀ (n : Nat) (x3_24 : Int32) (x2_24 : Int32) (ls : Array Slot), (0 ≤ x3_24.toInt ∧ x3_24.toInt ≤ 400) → (0 ≤ x2_24.toInt ∧ x2_24.toInt ≤ 1) → (x2_24.toInt = 1 → (fI D s.heap 11 a0 10).toInt - (fI D s.heap 11 a0 12).toInt = n1) → 401 - x3_24.toInt ≤ (n : Int) → lv_has ls 4 [(3, .int x3_24), (2, .int x2_24), (0, .ref a0), (1, .ref a1)] → W p l e (rmU 4 0 0) s m args below meth c s.heap [] 0 0 Q (F0 m 24 ls []) := by
      intro n
      induction n with
      | zero =>
        intro x3_24 x2_24 ls j24_0 j24_1 u24_0 hn hl
        exact absurd hn (by omega)
      | succ n ih24 =>
        intro x3_24 x2_24 ls j24_0 j24_1 u24_0 hn hl
        refine lv_iload_n hx hb dX12_isWord_24 rfl (lv_at hl 1 rfl) ?_
        have k_0 : (0 : Int32).toInt = 0 := by decide
        refine lv_if_eq (tgt := 67) hx hb dX12_isWord_25 (by decide) (fun c7 => ?_) (fun c7 => ?_)
        · have b7 : x2_24.toInt = (0 : Int32).toInt := i_eq.mp c7
          refine lv_iload_n hx hb dX12_isWord_67 rfl (lv_at hl 1 rfl) ?_
          exact retP_z hQ C hr dX12_isWord_68 (z01 (by omega) (by omega)) (by omega)
        · have b7 : ¬ x2_24.toInt = (0 : Int32).toInt := fun z9 => c7 (i_eq.mpr z9)
          refine lv_iload_n hx hb dX12_isWord_28 rfl (lv_at hl 0 rfl) ?_
          refine lv_aload_n hx hb dX12_isWord_29 rfl (lv_at hl 3 rfl) ?_
          refine callR_Pi C hO (fun _ _ _ => rfl) (c_J0_length_8abf5 l D G a1 n1 sa1) kV_X12_93 (str_recv C (fun _ _ _ => rfl) sa1) (trivial) dX12_isWord_30 hl.1 cd_J0_length_8abf5 ⟨Nat.le_of_ble_eq_true rfl, Nat.le_of_ble_eq_true rfl, Nat.le_of_ble_eq_true rfl, Nat.le_of_ble_eq_true rfl, Nat.le_of_ble_eq_true rfl⟩ (fun v8 q8 => ?_)
          have r10 := i_rng v8
          refine lv_icmp_ge (tgt := 67) hx hb dX12_isWord_33 (by decide) (fun c9 => ?_) (fun c9 => ?_)
          · have b9 : v8.toInt ≤ x3_24.toInt := i_le.mp c9
            refine lv_iload_n hx hb dX12_isWord_67 rfl (lv_at hl 1 rfl) ?_
            exact retP_z hQ C hr dX12_isWord_68 (z01 (by omega) (by omega)) (by omega)
          · have b9 : ¬ v8.toInt ≤ x3_24.toInt := fun z9 => c9 (i_le.mpr z9)
            refine lv_aload_n hx hb dX12_isWord_36 rfl (lv_at hl 2 rfl) ?_
            refine q_gr (T := TX12) C hO ga0 8 kF_X12_29 dX12_isWord_37 rfl rfl (by decide) rfl (by decide) rfl (fun g11 => ?_)
            refine lv_aload_n hx hb dX12_isWord_40 rfl (lv_at hl 2 rfl) ?_
            refine q_gi (T := TX12) C hO ga0 12 kF_X12_87 dX12_isWord_41 rfl rfl (by decide) rfl (by decide) rfl ?_
            refine lv_iload_n hx hb dX12_isWord_44 rfl (lv_at hl 0 rfl) ?_
            refine lv_iadd hx hb dX12_isWord_45 ?_
            refine lv_topi (fun v12 ev12 => ?_)
            have f13 : v12.toInt = (fI D s.heap 11 a0 12).toInt + x3_24.toInt := by rw [ev12]; exact i_add (by omega) (by omega)
            have n14 : aN s.heap (fR D s.heap 11 a0 8) = 400 := len_36 hO g11
            refine q_bald C hO g11 (by omega) (by omega) dX12_isWord_46 rfl (by decide) ?_
            refine lv_topi (fun v15 ev15 => ?_)
            refine lv_aload_n hx hb dX12_isWord_47 rfl (lv_at hl 3 rfl) ?_
            refine lv_iload_n hx hb dX12_isWord_48 rfl (lv_at hl 0 rfl) ?_
            refine callR_Pi C hO (fun _ _ _ => rfl) (c_J0_charAt_5068e l D G a1 n1 x3_24 sa1 (by omega)) kV_X12_98 (str_recv C (fun _ _ _ => rfl) sa1) (trivial) dX12_isWord_49 hl.1 cd_J0_charAt_5068e ⟨Nat.le_of_ble_eq_true rfl, Nat.le_of_ble_eq_true rfl, Nat.le_of_ble_eq_true rfl, Nat.le_of_ble_eq_true rfl, Nat.le_of_ble_eq_true rfl⟩ (fun v16 q16 => ?_)
            refine lv_icmp_ne (tgt := 59) hx hb dX12_isWord_52 (by decide) (fun c17 => ?_) (fun c17 => ?_)
            · have b17 : ¬ v15.toInt = v16.toInt := fun z9 => c17 (i_eq.mpr z9)
              refine lv_iconst (v := 0) hx hb dX12_isWord_59 (by decide) ?_
              refine lv_istore_n (lv' := [(2, .int (0 : Int32)), (3, .int x3_24), (0, .ref a0), (1, .ref a1)]) hx hb dX12_isWord_60 rfl hl (by decide) rfl (fun ls hl => ?_)
              obtain ⟨v18, ev18⟩ : ∃ y : Int32, y = x3_24 + (1) := ⟨_, rfl⟩
              have k_1 : (1 : Int32).toInt = 1 := by decide
              have f19 : v18.toInt = x3_24.toInt + (1) := by rw [ev18]; exact i_addc k_1 (by omega) (by omega)
              refine lv_iinc (v := v18) (lv' := [(3, .int v18), (2, .int (0 : Int32)), (0, .ref a0), (1, .ref a1)]) hx hb dX12_isWord_61 hl (k := 1) rfl (by rw [ev18]; rfl) (by decide) rfl (fun ls hl => ?_)
              refine lv_goto (tgt := 24) hx hb dX12_isWord_64 (by decide) ?_
              exact ih24 v18 (0 : Int32) ls (by omega) (by omega) (by omega) (by omega) (lv_sub hl [0, 1, 2, 3] rfl)
            · have b17 : v15.toInt = v16.toInt := i_eq.mp c17
              refine lv_iconst (v := 1) hx hb dX12_isWord_55 (by decide) ?_
              refine lv_goto (tgt := 60) hx hb dX12_isWord_56 (by decide) ?_
              refine lv_istore_n (lv' := [(2, .int (1 : Int32)), (3, .int x3_24), (0, .ref a0), (1, .ref a1)]) hx hb dX12_isWord_60 rfl hl (by decide) rfl (fun ls hl => ?_)
              obtain ⟨v20, ev20⟩ : ∃ y : Int32, y = x3_24 + (1) := ⟨_, rfl⟩
              have k_1 : (1 : Int32).toInt = 1 := by decide
              have f21 : v20.toInt = x3_24.toInt + (1) := by rw [ev20]; exact i_addc k_1 (by omega) (by omega)
              refine lv_iinc (v := v20) (lv' := [(3, .int v20), (2, .int (1 : Int32)), (0, .ref a0), (1, .ref a1)]) hx hb dX12_isWord_61 hl (k := 1) rfl (by rw [ev20]; rfl) (by decide) rfl (fun ls hl => ?_)
              refine lv_goto (tgt := 24) hx hb dX12_isWord_64 (by decide) ?_
              exact ih24 v20 (1 : Int32) ls (by omega) (by omega) (by omega) (by omega) (lv_sub hl [0, 1, 2, 3] rfl)
    have k_0 : (0 : Int32).toInt = 0 := by decide
    exact Lp24 401 (0 : Int32) (0 : Int32) ls (by omega) (by omega) (by omega)  (by omega) (lv_sub hl [0, 1, 2, 3] rfl)
  · have b6 : v3.toInt = v5.toInt := i_eq.mp c6
    refine lv_iconst (v := 1) hx hb dX12_isWord_16 (by decide) ?_
    refine lv_goto (tgt := 21) hx hb dX12_isWord_17 (by decide) ?_
    refine lv_istore_n (lv' := [(2, .int (1 : Int32)), (0, .ref a0), (1, .ref a1)]) hx hb dX12_isWord_21 rfl hl (by decide) rfl (fun ls hl => ?_)
    refine lv_iconst (v := 0) hx hb dX12_isWord_22 (by decide) ?_
    refine lv_istore_n (lv' := [(3, .int (0 : Int32)), (2, .int (1 : Int32)), (0, .ref a0), (1, .ref a1)]) hx hb dX12_isWord_23 rfl hl (by decide) rfl (fun ls hl => ?_)
    have Lp24 : ∀ (n : Nat) (x3_24 : Int32) (x2_24 : Int32) (ls : Array Slot), (0 ≤ x3_24.toInt ∧ x3_24.toInt ≤ 400) → (0 ≤ x2_24.toInt ∧ x2_24.toInt ≤ 1) → (x2_24.toInt = 1 → (fI D s.heap 11 a0 10).toInt - (fI D s.heap 11 a0 12).toInt = n1) → 401 - x3_24.toInt ≤ (n : Int) → lv_has ls 4 [(3, .int x3_24), (2, .int x2_24), (0, .ref a0), (1, .ref a1)] → W p l e (rmU 4 0 0) s m args below meth c s.heap [] 0 0 Q (F0 m 24 ls []) := by
      intro n
      induction n with
      | zero =>
        intro x3_24 x2_24 ls j24_0 j24_1 u24_0 hn hl
        exact absurd hn (by omega)
      | succ n ih24 =>
        intro x3_24 x2_24 ls j24_0 j24_1 u24_0 hn hl
        refine lv_iload_n hx hb dX12_isWord_24 rfl (lv_at hl 1 rfl) ?_
        have k_0 : (0 : Int32).toInt = 0 := by decide
        refine lv_if_eq (tgt := 67) hx hb dX12_isWord_25 (by decide) (fun c22 => ?_) (fun c22 => ?_)
        · have b22 : x2_24.toInt = (0 : Int32).toInt := i_eq.mp c22
          refine lv_iload_n hx hb dX12_isWord_67 rfl (lv_at hl 1 rfl) ?_
          exact retP_z hQ C hr dX12_isWord_68 (z01 (by omega) (by omega)) (by omega)
        · have b22 : ¬ x2_24.toInt = (0 : Int32).toInt := fun z9 => c22 (i_eq.mpr z9)
          refine lv_iload_n hx hb dX12_isWord_28 rfl (lv_at hl 0 rfl) ?_
          refine lv_aload_n hx hb dX12_isWord_29 rfl (lv_at hl 3 rfl) ?_
          refine callR_Pi C hO (fun _ _ _ => rfl) (c_J0_length_8abf5 l D G a1 n1 sa1) kV_X12_93 (str_recv C (fun _ _ _ => rfl) sa1) (trivial) dX12_isWord_30 hl.1 cd_J0_length_8abf5 ⟨Nat.le_of_ble_eq_true rfl, Nat.le_of_ble_eq_true rfl, Nat.le_of_ble_eq_true rfl, Nat.le_of_ble_eq_true rfl, Nat.le_of_ble_eq_true rfl⟩ (fun v23 q23 => ?_)
          have r25 := i_rng v23
          refine lv_icmp_ge (tgt := 67) hx hb dX12_isWord_33 (by decide) (fun c24 => ?_) (fun c24 => ?_)
          · have b24 : v23.toInt ≤ x3_24.toInt := i_le.mp c24
            refine lv_iload_n hx hb dX12_isWord_67 rfl (lv_at hl 1 rfl) ?_
            exact retP_z hQ C hr dX12_isWord_68 (z01 (by omega) (by omega)) (by omega)
          · have b24 : ¬ v23.toInt ≤ x3_24.toInt := fun z9 => c24 (i_le.mpr z9)
            refine lv_aload_n hx hb dX12_isWord_36 rfl (lv_at hl 2 rfl) ?_
            refine q_gr (T := TX12) C hO ga0 8 kF_X12_29 dX12_isWord_37 rfl rfl (by decide) rfl (by decide) rfl (fun g26 => ?_)
            refine lv_aload_n hx hb dX12_isWord_40 rfl (lv_at hl 2 rfl) ?_
            refine q_gi (T := TX12) C hO ga0 12 kF_X12_87 dX12_isWord_41 rfl rfl (by decide) rfl (by decide) rfl ?_
            refine lv_iload_n hx hb dX12_isWord_44 rfl (lv_at hl 0 rfl) ?_
            refine lv_iadd hx hb dX12_isWord_45 ?_
            refine lv_topi (fun v27 ev27 => ?_)
            have f28 : v27.toInt = (fI D s.heap 11 a0 12).toInt + x3_24.toInt := by rw [ev27]; exact i_add (by omega) (by omega)
            have n29 : aN s.heap (fR D s.heap 11 a0 8) = 400 := len_36 hO g26
            refine q_bald C hO g26 (by omega) (by omega) dX12_isWord_46 rfl (by decide) ?_
            refine lv_topi (fun v30 ev30 => ?_)
            refine lv_aload_n hx hb dX12_isWord_47 rfl (lv_at hl 3 rfl) ?_
            refine lv_iload_n hx hb dX12_isWord_48 rfl (lv_at hl 0 rfl) ?_
            refine callR_Pi C hO (fun _ _ _ => rfl) (c_J0_charAt_5068e l D G a1 n1 x3_24 sa1 (by omega)) kV_X12_98 (str_recv C (fun _ _ _ => rfl) sa1) (trivial) dX12_isWord_49 hl.1 cd_J0_charAt_5068e ⟨Nat.le_of_ble_eq_true rfl, Nat.le_of_ble_eq_true rfl, Nat.le_of_ble_eq_true rfl, Nat.le_of_ble_eq_true rfl, Nat.le_of_ble_eq_true rfl⟩ (fun v31 q31 => ?_)
            refine lv_icmp_ne (tgt := 59) hx hb dX12_isWord_52 (by decide) (fun c32 => ?_) (fun c32 => ?_)
            · have b32 : ¬ v30.toInt = v31.toInt := fun z9 => c32 (i_eq.mpr z9)
              refine lv_iconst (v := 0) hx hb dX12_isWord_59 (by decide) ?_
              refine lv_istore_n (lv' := [(2, .int (0 : Int32)), (3, .int x3_24), (0, .ref a0), (1, .ref a1)]) hx hb dX12_isWord_60 rfl hl (by decide) rfl (fun ls hl => ?_)
              obtain ⟨v33, ev33⟩ : ∃ y : Int32, y = x3_24 + (1) := ⟨_, rfl⟩
              have k_1 : (1 : Int32).toInt = 1 := by decide
              have f34 : v33.toInt = x3_24.toInt + (1) := by rw [ev33]; exact i_addc k_1 (by omega) (by omega)
              refine lv_iinc (v := v33) (lv' := [(3, .int v33), (2, .int (0 : Int32)), (0, .ref a0), (1, .ref a1)]) hx hb dX12_isWord_61 hl (k := 1) rfl (by rw [ev33]; rfl) (by decide) rfl (fun ls hl => ?_)
              refine lv_goto (tgt := 24) hx hb dX12_isWord_64 (by decide) ?_
              exact ih24 v33 (0 : Int32) ls (by omega) (by omega) (by omega) (by omega) (lv_sub hl [0, 1, 2, 3] rfl)
            · have b32 : v30.toInt = v31.toInt := i_eq.mp c32
              refine lv_iconst (v := 1) hx hb dX12_isWord_55 (by decide) ?_
              refine lv_goto (tgt := 60) hx hb dX12_isWord_56 (by decide) ?_
              refine lv_istore_n (lv' := [(2, .int (1 : Int32)), (3, .int x3_24), (0, .ref a0), (1, .ref a1)]) hx hb dX12_isWord_60 rfl hl (by decide) rfl (fun ls hl => ?_)
              obtain ⟨v35, ev35⟩ : ∃ y : Int32, y = x3_24 + (1) := ⟨_, rfl⟩
              have k_1 : (1 : Int32).toInt = 1 := by decide
              have f36 : v35.toInt = x3_24.toInt + (1) := by rw [ev35]; exact i_addc k_1 (by omega) (by omega)
              refine lv_iinc (v := v35) (lv' := [(3, .int v35), (2, .int (1 : Int32)), (0, .ref a0), (1, .ref a1)]) hx hb dX12_isWord_61 hl (k := 1) rfl (by rw [ev35]; rfl) (by decide) rfl (fun ls hl => ?_)
              refine lv_goto (tgt := 24) hx hb dX12_isWord_64 (by decide) ?_
              exact ih24 v35 (1 : Int32) ls (by omega) (by omega) (by omega) (by omega) (lv_sub hl [0, 1, 2, 3] rfl)
    have k_0 : (0 : Int32).toInt = 0 := by decide
    have k_1 : (1 : Int32).toInt = 1 := by decide
    exact Lp24 401 (0 : Int32) (1 : Int32) ls (by omega) (by omega) (by omega)  (by omega) (lv_sub hl [0, 1, 2, 3] rfl)

set_option maxRecDepth 100000 in
set_option maxHeartbeats 4000000 in
theorem c_X9_takeWord (l : Launch) (D : DD) (G : Nat → Nat) (a0 : Nat) (a1 n1 : Nat) (ga0 : G a0 = 2) (sa1 : D.1.2 99 a1 = n1 + 1) : CE l D G yX9_takeWord cX9_takeWord 2 (some .boolean) 5 [.ref a0, .ref a1] (fun _ => True) [(2, 3), (2, 4), (2, 5), (2, 6), (2, 2)] (xI (fun H r H1 => 0 ≤ r.toInt ∧ r.toInt ≤ 1)) := by
  refine enter (by decide) (Nat.le_of_ble_eq_true rfl) ?_
  intro p e s m args below meth c ls Q hA hQ C hr hO hpre hl
  have hx := C.1
  have hb := C.2.1
  have S : Sd D G [(2, 3), (2, 4), (2, 5), (2, 6), (2, 2)] s.heap s.heap [] := Sd.start hO
  have hl : lv_has ls 2 [(0, .ref a0), (1, .ref a1)] := hl
  refine lv_aload_n hx hb dX9_takeWord_0 rfl (lv_at hl 0 rfl) ?_
  refine lv_aload_n hx hb dX9_takeWord_1 rfl (lv_at hl 1 rfl) ?_
  refine callV_Pi C S.1 S.2.1.2.1 (c_X9_isWord l D G a0 a1 n1 ga0 sa1) kV_X9_46 ga0 (trivial) dX9_takeWord_2 hl.1 rfl rfl (by decide) cd_X9_isWord ⟨Nat.le_of_ble_eq_true rfl, Nat.le_of_ble_eq_true rfl, Nat.le_of_ble_eq_true rfl, Nat.le_of_ble_eq_true rfl, Nat.le_of_ble_eq_true rfl⟩ (fun v1 q1 => ?_)
  have k_0 : (0 : Int32).toInt = 0 := by decide
  refine lv_if_ne (tgt := 13) hx hb dX9_takeWord_5 (by decide) (fun c2 => ?_) (fun c2 => ?_)
  · have b2 : ¬ v1.toInt = (0 : Int32).toInt := fun z9 => c2 (i_eq.mpr z9)
    refine lv_aload_n hx hb dX9_takeWord_13 rfl (lv_at hl 0 rfl) ?_
    refine callV_Ev C S (c_X9_next l D G a0 ga0) kV_X9_34 ga0 (trivial) (by decide +kernel) dX9_takeWord_14 hl.1 rfl rfl (by decide) cd_X9_next ⟨Nat.le_of_ble_eq_true rfl, Nat.le_of_ble_eq_true rfl, Nat.le_of_ble_eq_true rfl, Nat.le_of_ble_eq_true rfl, Nat.le_of_ble_eq_true rfl⟩ (fun H3 L3 S3 K3 q3 => ?_)
    refine lv_iconst (v := 1) hx hb dX9_takeWord_17 (by decide) ?_
    have k_1 : (1 : Int32).toInt = 1 := by decide
    exact retE_z hQ C S3 hr dX9_takeWord_18 (z01 (by omega) (by omega)) (by omega)
  · have b2 : v1.toInt = (0 : Int32).toInt := i_eq.mp c2
    refine lv_aload_n hx hb dX9_takeWord_8 rfl (lv_at hl 0 rfl) ?_
    refine callV_Ei C S (c_X9_refuse l D G a0 ga0) kV_X9_50 ga0 (trivial) (by decide +kernel) dX9_takeWord_9 hl.1 rfl rfl (by decide) cd_X9_refuse ⟨Nat.le_of_ble_eq_true rfl, Nat.le_of_ble_eq_true rfl, Nat.le_of_ble_eq_true rfl, Nat.le_of_ble_eq_true rfl, Nat.le_of_ble_eq_true rfl⟩ (fun v4 H4 L4 S4 K4 q4 => ?_)
    exact retE_z hQ C S4 hr dX9_takeWord_12 (z01 (by omega) (by omega)) (by omega)

set_option maxRecDepth 100000 in
set_option maxHeartbeats 4000000 in
theorem c_X12_passes (l : Launch) (D : DD) (G : Nat → Nat) (a0 : Nat) (a1 n1 : Nat) (ga0 : G a0 = 30) (sa1 : D.1.2 99 a1 = n1 + 1) : CE l D G yX12_passes cX12_passes 2 (some .boolean) 5 [.ref a0, .ref a1] (fun _ => True) [(30, 10), (30, 12)] (xI (fun H r H1 => 0 ≤ r.toInt ∧ r.toInt ≤ 1)) := by
  refine enter (by decide) (Nat.le_of_ble_eq_true rfl) ?_
  intro p e s m args below meth c ls Q hA hQ C hr hO hpre hl
  have hx := C.1
  have hb := C.2.1
  have S : Sd D G [(30, 10), (30, 12)] s.heap s.heap [] := Sd.start hO
  have hl : lv_has ls 2 [(0, .ref a0), (1, .ref a1)] := hl
  refine lv_aload_n hx hb dX12_passes_0 rfl (lv_at hl 0 rfl) ?_
  refine callV_Ev C S (c_X12_letters l D G a0 ga0) kV_X12_102 ga0 (trivial) (by decide +kernel) dX12_passes_1 hl.1 rfl rfl (by decide) cd_X12_letters ⟨Nat.le_of_ble_eq_true rfl, Nat.le_of_ble_eq_true rfl, Nat.le_of_ble_eq_true rfl, Nat.le_of_ble_eq_true rfl, Nat.le_of_ble_eq_true rfl⟩ (fun H1 L1 S1 K1 q1 => ?_)
  refine lv_aload_n hx hb dX12_passes_4 rfl (lv_at hl 0 rfl) ?_
  refine lv_aload_n hx hb dX12_passes_5 rfl (lv_at hl 1 rfl) ?_
  refine callV_Pi C S1.1 S1.2.1.2.1 (c_X12_isWord l D G a0 a1 n1 ga0 sa1) kV_X12_105 ga0 (trivial) dX12_passes_6 hl.1 rfl rfl (by decide) cd_X12_isWord ⟨Nat.le_of_ble_eq_true rfl, Nat.le_of_ble_eq_true rfl, Nat.le_of_ble_eq_true rfl, Nat.le_of_ble_eq_true rfl, Nat.le_of_ble_eq_true rfl⟩ (fun v2 q2 => ?_)
  have k_0 : (0 : Int32).toInt = 0 := by decide
  refine lv_if_eq (tgt := 14) hx hb dX12_passes_9 (by decide) (fun c3 => ?_) (fun c3 => ?_)
  · have b3 : v2.toInt = (0 : Int32).toInt := i_eq.mp c3
    refine lv_aload_n hx hb dX12_passes_14 rfl (lv_at hl 0 rfl) ?_
    refine lv_aload_n hx hb dX12_passes_15 rfl (lv_at hl 0 rfl) ?_
    refine q_gi (T := TX12) C S1.1 ga0 12 kF_X12_87 dX12_passes_16 rfl rfl (by decide) rfl (by decide) rfl ?_
    have r4 : 0 ≤ (fI D H1 11 a0 12).toInt ∧ (fI D H1 11 a0 12).toInt ≤ 400 := S1.1.rng ga0 rfl (by decide) rfl
    refine q_put (T := TX12) C S1 ga0 10 kF_X12_78 dX12_passes_19 rfl rfl (by decide) (by decide) rfl rfl rfl rfl rfl (vok_i rfl (by omega) (by omega)) (by decide +kernel) (fun H5 L5 S5 P5 => ?_)
    refine lv_iconst (v := 0) hx hb dX12_passes_22 (by decide) ?_
    exact retE_z hQ C S5 hr dX12_passes_23 (z01 (by omega) (by omega)) (by omega)
  · have b3 : ¬ v2.toInt = (0 : Int32).toInt := fun z9 => c3 (i_eq.mpr z9)
    refine lv_iconst (v := 1) hx hb dX12_passes_12 (by decide) ?_
    have k_1 : (1 : Int32).toInt = 1 := by decide
    exact retE_z hQ C S1 hr dX12_passes_13 (z01 (by omega) (by omega)) (by omega)

set_option maxRecDepth 100000 in
set_option maxHeartbeats 4000000 in
theorem c_X12_after (l : Launch) (D : DD) (G : Nat → Nat) (a0 : Nat) (a1 n1 : Nat) (x2 : Int32) (x3 : Int32) (ga0 : G a0 = 30) (sa1 : D.1.2 99 a1 = n1 + 1) : CE l D G yX12_after cX12_after 4 (some .int) 5 [.ref a0, .ref a1, .int x2, .int x3] (fun _ => True) [(30, 10), (30, 12)] (xI (fun H r H1 => r.toInt = -1 ∨ (x2.toInt ≤ r.toInt ∧ r.toInt ≤ x3.toInt))) := by
  refine enter (by decide) (Nat.le_of_ble_eq_true rfl) ?_
  intro p e s m args below meth c ls Q hA hQ C hr hO hpre hl
  have hx := C.1
  have hb := C.2.1
  have S : Sd D G [(30, 10), (30, 12)] s.heap s.heap [] := Sd.start hO
  have hl : lv_has ls 4 [(0, .ref a0), (1, .ref a1), (2, .int x2), (3, .int x3)] := hl
  refine lv_aload_n hx hb dX12_after_0 rfl (lv_at hl 0 rfl) ?_
  refine callV_Ev C S (c_X12_letters l D G a0 ga0) kV_X12_102 ga0 (trivial) (by decide +kernel) dX12_after_1 hl.1 rfl rfl (by decide) cd_X12_letters ⟨Nat.le_of_ble_eq_true rfl, Nat.le_of_ble_eq_true rfl, Nat.le_of_ble_eq_true rfl, Nat.le_of_ble_eq_true rfl, Nat.le_of_ble_eq_true rfl⟩ (fun H1 L1 S1 K1 q1 => ?_)
  refine lv_aload_n hx hb dX12_after_4 rfl (lv_at hl 0 rfl) ?_
  refine lv_aload_n hx hb dX12_after_5 rfl (lv_at hl 1 rfl) ?_
  refine callV_Pi C S1.1 S1.2.1.2.1 (c_X12_isWord l D G a0 a1 n1 ga0 sa1) kV_X12_105 ga0 (trivial) dX12_after_6 hl.1 rfl rfl (by decide) cd_X12_isWord ⟨Nat.le_of_ble_eq_true rfl, Nat.le_of_ble_eq_true rfl, Nat.le_of_ble_eq_true rfl, Nat.le_of_ble_eq_true rfl, Nat.le_of_ble_eq_true rfl⟩ (fun v2 q2 => ?_)
  have k_0 : (0 : Int32).toInt = 0 := by decide
  refine lv_if_eq (tgt := 21) hx hb dX12_after_9 (by decide) (fun c3 => ?_) (fun c3 => ?_)
  · have b3 : v2.toInt = (0 : Int32).toInt := i_eq.mp c3
    refine lv_iconst (v := -1) hx hb dX12_after_21 (by decide) ?_
    have k_m1 : (-1 : Int32).toInt = -1 := by decide
    exact retE_i hQ C S1 hr dX12_after_22 (by omega)
  · have b3 : ¬ v2.toInt = (0 : Int32).toInt := fun z9 => c3 (i_eq.mpr z9)
    refine lv_aload_n hx hb dX12_after_12 rfl (lv_at hl 0 rfl) ?_
    refine lv_iload_n hx hb dX12_after_13 rfl (lv_at hl 2 rfl) ?_
    refine lv_iload_n hx hb dX12_after_14 rfl (lv_at hl 3 rfl) ?_
    refine callV_Ei C S1 (c_X12_number l D G a0 x2 x3 ga0) kV_X12_109 ga0 (trivial) (by decide +kernel) dX12_after_15 hl.1 rfl rfl (by decide) cd_X12_number ⟨Nat.le_of_ble_eq_true rfl, Nat.le_of_ble_eq_true rfl, Nat.le_of_ble_eq_true rfl, Nat.le_of_ble_eq_true rfl, Nat.le_of_ble_eq_true rfl⟩ (fun v4 H4 L4 S4 K4 q4 => ?_)
    refine lv_goto (tgt := 22) hx hb dX12_after_18 (by decide) ?_
    exact retE_i hQ C S4 hr dX12_after_22 (by omega)

set_option maxRecDepth 100000 in
set_option maxHeartbeats 4000000 in
theorem c_X12_readNumber (l : Launch) (D : DD) (G : Nat → Nat) (a0 : Nat) (x1 : Int32) (x2 : Int32) (x3 : Int32) (ga0 : G a0 = 30) (ix1 : 4 ≤ x1.toInt ∧ x1.toInt ≤ 8) : CE l D G yX12_readNumber cX12_readNumber 5 (some .boolean) 3 [.ref a0, .int x1, .int x2, .int x3] (fun _ => True) [(30, 10), (30, 12), (31, 0), (31, 1)] (xI (fun H r H1 => 0 ≤ r.toInt ∧ r.toInt ≤ 1)) := by
  refine enter (by decide) (Nat.le_of_ble_eq_true rfl) ?_
  intro p e s m args below meth c ls Q hA hQ C hr hO hpre hl
  have hx := C.1
  have hb := C.2.1
  have S : Sd D G [(30, 10), (30, 12), (31, 0), (31, 1)] s.heap s.heap [] := Sd.start hO
  have hl : lv_has ls 5 [(0, .ref a0), (1, .int x1), (2, .int x2), (3, .int x3)] := hl
  refine lv_aload_n hx hb dX12_readNumber_0 rfl (lv_at hl 0 rfl) ?_
  refine lv_iload_n hx hb dX12_readNumber_1 rfl (lv_at hl 2 rfl) ?_
  refine lv_iload_n hx hb dX12_readNumber_2 rfl (lv_at hl 3 rfl) ?_
  refine callV_Ei C S (c_X12_number l D G a0 x2 x3 ga0) kV_X12_109 ga0 (trivial) (by decide +kernel) dX12_readNumber_3 hl.1 rfl rfl (by decide) cd_X12_number ⟨Nat.le_of_ble_eq_true rfl, Nat.le_of_ble_eq_true rfl, Nat.le_of_ble_eq_true rfl, Nat.le_of_ble_eq_true rfl, Nat.le_of_ble_eq_true rfl⟩ (fun v1 H1 L1 S1 K1 q1 => ?_)
  refine lv_istore (lv' := [(4, .int v1), (0, .ref a0), (1, .int x1), (2, .int x2), (3, .int x3)]) hx hb dX12_readNumber_6 hl (by decide) rfl (fun ls hl => ?_)
  refine lv_aload_n hx hb dX12_readNumber_8 rfl (lv_at hl 1 rfl) ?_
  refine q_gr (T := TX12) C S1.1 ga0 1 kF_X12_13 dX12_readNumber_9 rfl rfl (by decide) rfl (by decide) rfl (fun g2 => ?_)
  refine lv_iload_n hx hb dX12_readNumber_12 rfl (lv_at hl 2 rfl) ?_
  refine lv_iload hx hb dX12_readNumber_13 (lv_at hl 0 rfl) ?_
  have k_0 : (0 : Int32).toInt = 0 := by decide
  refine lv_if_ge (tgt := 27) hx hb dX12_readNumber_15 (by decide) (fun c3 => ?_) (fun c3 => ?_)
  · have b3 : (0 : Int32).toInt ≤ v1.toInt := i_le.mp c3
    refine lv_iload hx hb dX12_readNumber_27 (lv_at hl 0 rfl) ?_
    have n4 : aN H1 (fR D H1 11 a0 1) = 2052 := len_31 S1.1 g2
    refine q_iast C S1 g2 (by omega) (by omega) dX12_readNumber_29 rfl (by decide) (by decide +kernel) (fun _ _ h => wk_low _ _ (by omega) (fun h9 => by omega) (fun h9 => by omega) (fun h9 => by omega) (fun j hj h9 => by omega) h) (fun H5 L5 S5 P5 => ?_) (hs := fun _ => Or.inl (by decide +kernel))
    refine lv_iload hx hb dX12_readNumber_30 (lv_at hl 0 rfl) ?_
    refine lv_if_lt (tgt := 39) hx hb dX12_readNumber_32 (by decide) (fun c6 => ?_) (fun c6 => ?_)
    · have b6 : v1.toInt < (0 : Int32).toInt := i_lt.mp c6
      exact absurd b6 (by omega)
    · have b6 : ¬ v1.toInt < (0 : Int32).toInt := fun z9 => c6 (i_lt.mpr z9)
      refine lv_iconst (v := 1) hx hb dX12_readNumber_35 (by decide) ?_
      refine lv_goto (tgt := 40) hx hb dX12_readNumber_36 (by decide) ?_
      have k_1 : (1 : Int32).toInt = 1 := by decide
      exact retE_z hQ C S5 hr dX12_readNumber_40 (z01 (by omega) (by omega)) (by omega)
  · have b3 : ¬ (0 : Int32).toInt ≤ v1.toInt := fun z9 => c3 (i_le.mpr z9)
    refine lv_aload_n hx hb dX12_readNumber_18 rfl (lv_at hl 1 rfl) ?_
    refine q_gr (T := TX12) C S1.1 ga0 1 kF_X12_13 dX12_readNumber_19 rfl rfl (by decide) rfl (by decide) rfl (fun g7 => ?_)
    refine lv_iload_n hx hb dX12_readNumber_22 rfl (lv_at hl 2 rfl) ?_
    have n8 : aN H1 (fR D H1 11 a0 1) = 2052 := len_31 S1.1 g7
    refine q_iald C S1.1 g7 (by omega) (by omega) dX12_readNumber_23 rfl (by decide) ?_
    refine lv_topi (fun v9 ev9 => ?_)
    refine lv_goto (tgt := 29) hx hb dX12_readNumber_24 (by decide) ?_
    refine q_iast C S1 g2 (by omega) (by omega) dX12_readNumber_29 rfl (by decide) (by decide +kernel) (fun _ _ h => wk_low _ _ (by omega) (fun h9 => by omega) (fun h9 => by omega) (fun h9 => by omega) (fun j hj h9 => by omega) h) (fun H10 L10 S10 P10 => ?_) (hs := fun _ => Or.inl (by decide +kernel))
    refine lv_iload hx hb dX12_readNumber_30 (lv_at hl 0 rfl) ?_
    refine lv_if_lt (tgt := 39) hx hb dX12_readNumber_32 (by decide) (fun c11 => ?_) (fun c11 => ?_)
    · have b11 : v1.toInt < (0 : Int32).toInt := i_lt.mp c11
      refine lv_iconst (v := 0) hx hb dX12_readNumber_39 (by decide) ?_
      exact retE_z hQ C S10 hr dX12_readNumber_40 (z01 (by omega) (by omega)) (by omega)
    · have b11 : ¬ v1.toInt < (0 : Int32).toInt := fun z9 => c11 (i_lt.mpr z9)
      exact absurd b11 (by omega)

set_option maxRecDepth 100000 in
set_option maxHeartbeats 4000000 in
theorem c_X4_presentSort (l : Launch) (D : DD) (G : Nat → Nat) (a0 : Nat) (ga0 : G a0 = 21) : CP l D G yX4_presentSort cX4_presentSort 1 (some .int) 5 [.ref a0] (fun _ => True) (pI (fun H r => -1 ≤ r.toInt ∧ r.toInt ≤ 2)) := by
  refine enter (by decide) (Nat.le_of_ble_eq_true rfl) ?_
  intro p e s m args below meth c ls Q hA hQ C hr hO hpre hl
  have hx := C.1
  have hb := C.2.1
  have hl : lv_has ls 1 [(0, .ref a0)] := hl
  refine lv_aload_n hx hb dX4_presentSort_0 rfl (lv_at hl 0 rfl) ?_
  refine q_grS (T := TX4) C hO ga0 0 kF_X4_39 dX4_presentSort_1 rfl rfl (by decide) rfl (by decide) kSF_X4_tape (fun g1 => ?_)
  refine q_lds C ks_X4_69 dX4_presentSort_4 (fun a2 ha2 wa2 => ?_)
  refine callV_Pi C hO (fun _ _ _ => rfl) (c_X9_isWord l D G (fR D s.heap 4 a0 0) a2 3 g1 ha2) kV_X4_61 g1 (trivial) dX4_presentSort_6 hl.1 rfl rfl (by decide) cd_X9_isWord ⟨Nat.le_of_ble_eq_true rfl, Nat.le_of_ble_eq_true rfl, Nat.le_of_ble_eq_true rfl, Nat.le_of_ble_eq_true rfl, Nat.le_of_ble_eq_true rfl⟩ (fun v3 q3 => ?_)
  have k_0 : (0 : Int32).toInt = 0 := by decide
  refine lv_if_eq (tgt := 14) hx hb dX4_presentSort_9 (by decide) (fun c4 => ?_) (fun c4 => ?_)
  · have b4 : v3.toInt = (0 : Int32).toInt := i_eq.mp c4
    refine lv_aload_n hx hb dX4_presentSort_14 rfl (lv_at hl 0 rfl) ?_
    refine q_grS (T := TX4) C hO ga0 0 kF_X4_39 dX4_presentSort_15 rfl rfl (by decide) rfl (by decide) kSF_X4_tape (fun g5 => ?_)
    refine q_lds C ks_X4_71 dX4_presentSort_18 (fun a6 ha6 wa6 => ?_)
    refine callV_Pi C hO (fun _ _ _ => rfl) (c_X9_isWord l D G (fR D s.heap 4 a0 0) a6 4 g5 ha6) kV_X4_61 g5 (trivial) dX4_presentSort_20 hl.1 rfl rfl (by decide) cd_X9_isWord ⟨Nat.le_of_ble_eq_true rfl, Nat.le_of_ble_eq_true rfl, Nat.le_of_ble_eq_true rfl, Nat.le_of_ble_eq_true rfl, Nat.le_of_ble_eq_true rfl⟩ (fun v7 q7 => ?_)
    refine lv_if_eq (tgt := 28) hx hb dX4_presentSort_23 (by decide) (fun c8 => ?_) (fun c8 => ?_)
    · have b8 : v7.toInt = (0 : Int32).toInt := i_eq.mp c8
      refine lv_aload_n hx hb dX4_presentSort_28 rfl (lv_at hl 0 rfl) ?_
      refine q_grS (T := TX4) C hO ga0 0 kF_X4_39 dX4_presentSort_29 rfl rfl (by decide) rfl (by decide) kSF_X4_tape (fun g9 => ?_)
      refine q_lds C ks_X4_73 dX4_presentSort_32 (fun a10 ha10 wa10 => ?_)
      refine callV_Pi C hO (fun _ _ _ => rfl) (c_X9_isWord l D G (fR D s.heap 4 a0 0) a10 4 g9 ha10) kV_X4_61 g9 (trivial) dX4_presentSort_34 hl.1 rfl rfl (by decide) cd_X9_isWord ⟨Nat.le_of_ble_eq_true rfl, Nat.le_of_ble_eq_true rfl, Nat.le_of_ble_eq_true rfl, Nat.le_of_ble_eq_true rfl, Nat.le_of_ble_eq_true rfl⟩ (fun v11 q11 => ?_)
      refine lv_if_eq (tgt := 44) hx hb dX4_presentSort_37 (by decide) (fun c12 => ?_) (fun c12 => ?_)
      · have b12 : v11.toInt = (0 : Int32).toInt := i_eq.mp c12
        refine lv_iconst (v := -1) hx hb dX4_presentSort_44 (by decide) ?_
        have k_m1 : (-1 : Int32).toInt = -1 := by decide
        exact retP_i hQ C hr dX4_presentSort_45 (by omega)
      · have b12 : ¬ v11.toInt = (0 : Int32).toInt := fun z9 => c12 (i_eq.mpr z9)
        refine lv_iconst (v := 2) hx hb dX4_presentSort_40 (by decide) ?_
        refine lv_goto (tgt := 45) hx hb dX4_presentSort_41 (by decide) ?_
        have k_2 : (2 : Int32).toInt = 2 := by decide
        exact retP_i hQ C hr dX4_presentSort_45 (by omega)
    · have b8 : ¬ v7.toInt = (0 : Int32).toInt := fun z9 => c8 (i_eq.mpr z9)
      refine lv_iconst (v := 1) hx hb dX4_presentSort_26 (by decide) ?_
      have k_1 : (1 : Int32).toInt = 1 := by decide
      exact retP_i hQ C hr dX4_presentSort_27 (by omega)
  · have b4 : ¬ v3.toInt = (0 : Int32).toInt := fun z9 => c4 (i_eq.mpr z9)
    refine lv_iconst (v := 0) hx hb dX4_presentSort_12 (by decide) ?_
    exact retP_i hQ C hr dX4_presentSort_13 (by omega)
