set_option maxRecDepth 100000 in
set_option maxHeartbeats 4000000 in
theorem c_X12_isWord_w (l : Launch) (D : DD) (G : Nat → Nat) (a0 : Nat) (a1 n1 : Nat) (ga0 : G a0 = 30) (sa1 : D.1.2 99 a1 = n1 + 1) : CP l D G yX12_isWord cX12_isWord 4 (some .boolean) 4 [.ref a0, .ref a1] (fun _ => True) (pI (fun H r => (0 ≤ r.toInt ∧ r.toInt ≤ 1) ∧ (r.toInt = 1 → (fI D H 11 a0 10).toInt - (fI D H 11 a0 12).toInt = n1))) := by
  refine enter (by decide) (Nat.le_of_ble_eq_true rfl) ?_
  intro p e s m args below meth c ls Q hA hQ C hr hO hpre hl
  have hx := C.1
  have hb := C.2.1
  have hl : lv_has ls 4 [(0, .ref a0), (1, .ref a1)] := hl
  refine lv_aload_n hx hb dX12_isWord_0 rfl (lv_at hl 0 rfl) ?_
  refine q_gi (T := TX12) C hO ga0 10 kF_X12_78 dX12_isWord_1 rfl rfl (by decide) rfl (by decide) rfl ?_
  have r1 : 0 ≤ (fI D s.heap 11 a0 10).toInt ∧ (fI D s.heap 11 a0 10).toInt ≤ 400 := hO.rng ga0 rfl (by decide) rfl
  refine lv_aload_n hx hb dX12_isWord_4 rfl (lv_at hl 0 rfl) ?_
  refine q_gi (T := TX12) C hO ga0 12 kF_X12_87 dX12_isWord_5 rfl rfl (by decide) rfl (by decide) rfl ?_
  have r2 : 0 ≤ (fI D s.heap 11 a0 12).toInt ∧ (fI D s.heap 11 a0 12).toInt ≤ 400 := hO.rng ga0 rfl (by decide) rfl
  refine lv_isub hx hb dX12_isWord_8 ?_
  refine lv_topi (fun v3 ev3 => ?_)
  have f4 : v3.toInt = (fI D s.heap 11 a0 10).toInt - (fI D s.heap 11 a0 12).toInt := by rw [ev3]; exact i_sub (by omega) (by omega)
  refine lv_aload_n hx hb dX12_isWord_9 rfl (lv_at hl 1 rfl) ?_
  refine callR_Pi C hO (fun _ _ _ => rfl) (c_J0_length_8abf5 l D G a1 n1 sa1) kV_X12_93 (str_recv C (fun _ _ _ => rfl) sa1) (trivial) dX12_isWord_10 hl.1 cd_J0_length_8abf5 ⟨Nat.le_of_ble_eq_true rfl, Nat.le_of_ble_eq_true rfl, Nat.le_of_ble_eq_true rfl, Nat.le_of_ble_eq_true rfl, Nat.le_of_ble_eq_true rfl⟩ (fun v5 q5 => ?_)
  refine lv_icmp_ne (tgt := 20) hx hb dX12_isWord_13 (by decide) (fun c6 => ?_) (fun c6 => ?_)
  · have b6 : ¬ v3.toInt = v5.toInt := fun z9 => c6 (i_eq.mpr z9)
    refine lv_iconst (v := 0) hx hb dX12_isWord_20 (by decide) ?_
    refine lv_istore_n (lv' := [(2, .int (0 : Int32)), (0, .ref a0), (1, .ref a1)]) hx hb dX12_isWord_21 rfl hl (by decide) rfl (fun ls hl => ?_)
    refine lv_iconst (v := 0) hx hb dX12_isWord_22 (by decide) ?_
    refine lv_istore_n (lv' := [(3, .int (0 : Int32)), (2, .int (0 : Int32)), (0, .ref a0), (1, .ref a1)]) hx hb dX12_isWord_23 rfl hl (by decide) rfl (fun ls hl => ?_)
    have Lp24 : ∀ (n : Nat) (x3_24 : Int32) (x2_24 : Int32) (ls : Array Slot), (0 ≤ x3_24.toInt ∧ x3_24.toInt ≤ 400) → (0 ≤ x2_24.toInt ∧ x2_24.toInt ≤ 1) → (x2_24.toInt = 1 → (fI D s.heap 11 a0 10).toInt - (fI D s.heap 11 a0 12).toInt = n1) → 401 - x3_24.toInt ≤ (n : Int) → lv_has ls 4 [(3, .int x3_24), (2, .int x2_24), (0, .ref a0), (1, .ref a1)] → W p l e (rmU 4 0 0) s m args below meth c s.heap [] 0 0 Q (F0 m 24 ls []) := by
      intro n
      induction n with
      | zero =>
        intro x3_24 x2_24 ls j24_0 j24_1 u24_0 hn hl
        exact absurd hn (by omega)
      | succ n ih24 =>
        intro x3_24 x2_24 ls j24_0 j24_1 u24_0 hn hl
        refine lv_iload_n hx hb dX12_isWord_24 rfl (lv_at hl 1 rfl) ?_
        have k_0 : (0 : Int32).toInt = 0 := by decide
        refine lv_if_eq (tgt := 67) hx hb dX12_isWord_25 (by decide) (fun c7 => ?_) (fun c7 => ?_)
        · have b7 : x2_24.toInt = (0 : Int32).toInt := i_eq.mp c7
          refine lv_iload_n hx hb dX12_isWord_67 rfl (lv_at hl 1 rfl) ?_
          exact retP_z hQ C hr dX12_isWord_68 (z01 (by omega) (by omega)) (by omega)
        · have b7 : ¬ x2_24.toInt = (0 : Int32).toInt := fun z9 => c7 (i_eq.mpr z9)
          refine lv_iload_n hx hb dX12_isWord_28 rfl (lv_at hl 0 rfl) ?_
          refine lv_aload_n hx hb dX12_isWord_29 rfl (lv_at hl 3 rfl) ?_
          refine callR_Pi C hO (fun _ _ _ => rfl) (c_J0_length_8abf5 l D G a1 n1 sa1) kV_X12_93 (str_recv C (fun _ _ _ => rfl) sa1) (trivial) dX12_isWord_30 hl.1 cd_J0_length_8abf5 ⟨Nat.le_of_ble_eq_true rfl, Nat.le_of_ble_eq_true rfl, Nat.le_of_ble_eq_true rfl, Nat.le_of_ble_eq_true rfl, Nat.le_of_ble_eq_true rfl⟩ (fun v8 q8 => ?_)
          have r10 := i_rng v8
          refine lv_icmp_ge (tgt := 67) hx hb dX12_isWord_33 (by decide) (fun c9 => ?_) (fun c9 => ?_)
          · have b9 : v8.toInt ≤ x3_24.toInt := i_le.mp c9
            refine lv_iload_n hx hb dX12_isWord_67 rfl (lv_at hl 1 rfl) ?_
            exact retP_z hQ C hr dX12_isWord_68 (z01 (by omega) (by omega)) (by omega)
          · have b9 : ¬ v8.toInt ≤ x3_24.toInt := fun z9 => c9 (i_le.mpr z9)
            refine lv_aload_n hx hb dX12_isWord_36 rfl (lv_at hl 2 rfl) ?_
            refine q_gr (T := TX12) C hO ga0 8 kF_X12_29 dX12_isWord_37 rfl rfl (by decide) rfl (by decide) rfl (fun g11 => ?_)
            refine lv_aload_n hx hb dX12_isWord_40 rfl (lv_at hl 2 rfl) ?_
            refine q_gi (T := TX12) C hO ga0 12 kF_X12_87 dX12_isWord_41 rfl rfl (by decide) rfl (by decide) rfl ?_
            refine lv_iload_n hx hb dX12_isWord_44 rfl (lv_at hl 0 rfl) ?_
            refine lv_iadd hx hb dX12_isWord_45 ?_
            refine lv_topi (fun v12 ev12 => ?_)
            have f13 : v12.toInt = (fI D s.heap 11 a0 12).toInt + x3_24.toInt := by rw [ev12]; exact i_add (by omega) (by omega)
            have n14 : aN s.heap (fR D s.heap 11 a0 8) = 400 := len_36 hO g11
            refine q_bald C hO g11 (by omega) (by omega) dX12_isWord_46 rfl (by decide) ?_
            refine lv_topi (fun v15 ev15 => ?_)
            refine lv_aload_n hx hb dX12_isWord_47 rfl (lv_at hl 3 rfl) ?_
            refine lv_iload_n hx hb dX12_isWord_48 rfl (lv_at hl 0 rfl) ?_
            refine callR_Pi C hO (fun _ _ _ => rfl) (c_J0_charAt_5068e l D G a1 n1 x3_24 sa1 (by omega)) kV_X12_98 (str_recv C (fun _ _ _ => rfl) sa1) (trivial) dX12_isWord_49 hl.1 cd_J0_charAt_5068e ⟨Nat.le_of_ble_eq_true rfl, Nat.le_of_ble_eq_true rfl, Nat.le_of_ble_eq_true rfl, Nat.le_of_ble_eq_true rfl, Nat.le_of_ble_eq_true rfl⟩ (fun v16 q16 => ?_)
            refine lv_icmp_ne (tgt := 59) hx hb dX12_isWord_52 (by decide) (fun c17 => ?_) (fun c17 => ?_)
            · have b17 : ¬ v15.toInt = v16.toInt := fun z9 => c17 (i_eq.mpr z9)
              refine lv_iconst (v := 0) hx hb dX12_isWord_59 (by decide) ?_
              refine lv_istore_n (lv' := [(2, .int (0 : Int32)), (3, .int x3_24), (0, .ref a0), (1, .ref a1)]) hx hb dX12_isWord_60 rfl hl (by decide) rfl (fun ls hl => ?_)
              obtain ⟨v18, ev18⟩ : ∃ y : Int32, y = x3_24 + (1) := ⟨_, rfl⟩
              have k_1 : (1 : Int32).toInt = 1 := by decide
              have f19 : v18.toInt = x3_24.toInt + (1) := by rw [ev18]; exact i_addc k_1 (by omega) (by omega)
              refine lv_iinc (v := v18) (lv' := [(3, .int v18), (2, .int (0 : Int32)), (0, .ref a0), (1, .ref a1)]) hx hb dX12_isWord_61 hl (k := 1) rfl (by rw [ev18]; rfl) (by decide) rfl (fun ls hl => ?_)
              refine lv_goto (tgt := 24) hx hb dX12_isWord_64 (by decide) ?_
              exact ih24 v18 (0 : Int32) ls (by omega) (by omega) (by omega) (by omega) (lv_sub hl [0, 1, 2, 3] rfl)
            · have b17 : v15.toInt = v16.toInt := i_eq.mp c17
              refine lv_iconst (v := 1) hx hb dX12_isWord_55 (by decide) ?_
              refine lv_goto (tgt := 60) hx hb dX12_isWord_56 (by decide) ?_
              refine lv_istore_n (lv' := [(2, .int (1 : Int32)), (3, .int x3_24), (0, .ref a0), (1, .ref a1)]) hx hb dX12_isWord_60 rfl hl (by decide) rfl (fun ls hl => ?_)
              obtain ⟨v20, ev20⟩ : ∃ y : Int32, y = x3_24 + (1) := ⟨_, rfl⟩
              have k_1 : (1 : Int32).toInt = 1 := by decide
              have f21 : v20.toInt = x3_24.toInt + (1) := by rw [ev20]; exact i_addc k_1 (by omega) (by omega)
              refine lv_iinc (v := v20) (lv' := [(3, .int v20), (2, .int (1 : Int32)), (0, .ref a0), (1, .ref a1)]) hx hb dX12_isWord_61 hl (k := 1) rfl (by rw [ev20]; rfl) (by decide) rfl (fun ls hl => ?_)
              refine lv_goto (tgt := 24) hx hb dX12_isWord_64 (by decide) ?_
              exact ih24 v20 (1 : Int32) ls (by omega) (by omega) (by omega) (by omega) (lv_sub hl [0, 1, 2, 3] rfl)
    have k_0 : (0 : Int32).toInt = 0 := by decide
    exact Lp24 401 (0 : Int32) (0 : Int32) ls (by omega) (by omega) (by omega)  (by omega) (lv_sub hl [0, 1, 2, 3] rfl)
  · have b6 : v3.toInt = v5.toInt := i_eq.mp c6
    refine lv_iconst (v := 1) hx hb dX12_isWord_16 (by decide) ?_
    refine lv_goto (tgt := 21) hx hb dX12_isWord_17 (by decide) ?_
    refine lv_istore_n (lv' := [(2, .int (1 : Int32)), (0, .ref a0), (1, .ref a1)]) hx hb dX12_isWord_21 rfl hl (by decide) rfl (fun ls hl => ?_)
    refine lv_iconst (v := 0) hx hb dX12_isWord_22 (by decide) ?_
    refine lv_istore_n (lv' := [(3, .int (0 : Int32)), (2, .int (1 : Int32)), (0, .ref a0), (1, .ref a1)]) hx hb dX12_isWord_23 rfl hl (by decide) rfl (fun ls hl => ?_)
    have Lp24 : ∀ (n : Nat) (x3_24 : Int32) (x2_24 : Int32) (ls : Array Slot), (0 ≤ x3_24.toInt ∧ x3_24.toInt ≤ 400) → (0 ≤ x2_24.toInt ∧ x2_24.toInt ≤ 1) → (x2_24.toInt = 1 → (fI D s.heap 11 a0 10).toInt - (fI D s.heap 11 a0 12).toInt = n1) → 401 - x3_24.toInt ≤ (n : Int) → lv_has ls 4 [(3, .int x3_24), (2, .int x2_24), (0, .ref a0), (1, .ref a1)] → W p l e (rmU 4 0 0) s m args below meth c s.heap [] 0 0 Q (F0 m 24 ls []) := by
      intro n
      induction n with
      | zero =>
        intro x3_24 x2_24 ls j24_0 j24_1 u24_0 hn hl
        exact absurd hn (by omega)
      | succ n ih24 =>
        intro x3_24 x2_24 ls j24_0 j24_1 u24_0 hn hl
        refine lv_iload_n hx hb dX12_isWord_24 rfl (lv_at hl 1 rfl) ?_
        have k_0 : (0 : Int32).toInt = 0 := by decide
        refine lv_if_eq (tgt := 67) hx hb dX12_isWord_25 (by decide) (fun c22 => ?_) (fun c22 => ?_)
        · have b22 : x2_24.toInt = (0 : Int32).toInt := i_eq.mp c22
          refine lv_iload_n hx hb dX12_isWord_67 rfl (lv_at hl 1 rfl) ?_
          exact retP_z hQ C hr dX12_isWord_68 (z01 (by omega) (by omega)) (by omega)
        · have b22 : ¬ x2_24.toInt = (0 : Int32).toInt := fun z9 => c22 (i_eq.mpr z9)
          refine lv_iload_n hx hb dX12_isWord_28 rfl (lv_at hl 0 rfl) ?_
          refine lv_aload_n hx hb dX12_isWord_29 rfl (lv_at hl 3 rfl) ?_
          refine callR_Pi C hO (fun _ _ _ => rfl) (c_J0_length_8abf5 l D G a1 n1 sa1) kV_X12_93 (str_recv C (fun _ _ _ => rfl) sa1) (trivial) dX12_isWord_30 hl.1 cd_J0_length_8abf5 ⟨Nat.le_of_ble_eq_true rfl, Nat.le_of_ble_eq_true rfl, Nat.le_of_ble_eq_true rfl, Nat.le_of_ble_eq_true rfl, Nat.le_of_ble_eq_true rfl⟩ (fun v23 q23 => ?_)
          have r25 := i_rng v23
          refine lv_icmp_ge (tgt := 67) hx hb dX12_isWord_33 (by decide) (fun c24 => ?_) (fun c24 => ?_)
          · have b24 : v23.toInt ≤ x3_24.toInt := i_le.mp c24
            refine lv_iload_n hx hb dX12_isWord_67 rfl (lv_at hl 1 rfl) ?_
            exact retP_z hQ C hr dX12_isWord_68 (z01 (by omega) (by omega)) (by omega)
          · have b24 : ¬ v23.toInt ≤ x3_24.toInt := fun z9 => c24 (i_le.mpr z9)
            refine lv_aload_n hx hb dX12_isWord_36 rfl (lv_at hl 2 rfl) ?_
            refine q_gr (T := TX12) C hO ga0 8 kF_X12_29 dX12_isWord_37 rfl rfl (by decide) rfl (by decide) rfl (fun g26 => ?_)
            refine lv_aload_n hx hb dX12_isWord_40 rfl (lv_at hl 2 rfl) ?_
            refine q_gi (T := TX12) C hO ga0 12 kF_X12_87 dX12_isWord_41 rfl rfl (by decide) rfl (by decide) rfl ?_
            refine lv_iload_n hx hb dX12_isWord_44 rfl (lv_at hl 0 rfl) ?_
            refine lv_iadd hx hb dX12_isWord_45 ?_
            refine lv_topi (fun v27 ev27 => ?_)
            have f28 : v27.toInt = (fI D s.heap 11 a0 12).toInt + x3_24.toInt := by rw [ev27]; exact i_add (by omega) (by omega)
            have n29 : aN s.heap (fR D s.heap 11 a0 8) = 400 := len_36 hO g26
            refine q_bald C hO g26 (by omega) (by omega) dX12_isWord_46 rfl (by decide) ?_
            refine lv_topi (fun v30 ev30 => ?_)
            refine lv_aload_n hx hb dX12_isWord_47 rfl (lv_at hl 3 rfl) ?_
            refine lv_iload_n hx hb dX12_isWord_48 rfl (lv_at hl 0 rfl) ?_
            refine callR_Pi C hO (fun _ _ _ => rfl) (c_J0_charAt_5068e l D G a1 n1 x3_24 sa1 (by omega)) kV_X12_98 (str_recv C (fun _ _ _ => rfl) sa1) (trivial) dX12_isWord_49 hl.1 cd_J0_charAt_5068e ⟨Nat.le_of_ble_eq_true rfl, Nat.le_of_ble_eq_true rfl, Nat.le_of_ble_eq_true rfl, Nat.le_of_ble_eq_true rfl, Nat.le_of_ble_eq_true rfl⟩ (fun v31 q31 => ?_)
            refine lv_icmp_ne (tgt := 59) hx hb dX12_isWord_52 (by decide) (fun c32 => ?_) (fun c32 => ?_)
            · have b32 : ¬ v30.toInt = v31.toInt := fun z9 => c32 (i_eq.mpr z9)
              refine lv_iconst (v := 0) hx hb dX12_isWord_59 (by decide) ?_
              refine lv_istore_n (lv' := [(2, .int (0 : Int32)), (3, .int x3_24), (0, .ref a0), (1, .ref a1)]) hx hb dX12_isWord_60 rfl hl (by decide) rfl (fun ls hl => ?_)
              obtain ⟨v33, ev33⟩ : ∃ y : Int32, y = x3_24 + (1) := ⟨_, rfl⟩
              have k_1 : (1 : Int32).toInt = 1 := by decide
              have f34 : v33.toInt = x3_24.toInt + (1) := by rw [ev33]; exact i_addc k_1 (by omega) (by omega)
              refine lv_iinc (v := v33) (lv' := [(3, .int v33), (2, .int (0 : Int32)), (0, .ref a0), (1, .ref a1)]) hx hb dX12_isWord_61 hl (k := 1) rfl (by rw [ev33]; rfl) (by decide) rfl (fun ls hl => ?_)
              refine lv_goto (tgt := 24) hx hb dX12_isWord_64 (by decide) ?_
              exact ih24 v33 (0 : Int32) ls (by omega) (by omega) (by omega) (by omega) (lv_sub hl [0, 1, 2, 3] rfl)
            · have b32 : v30.toInt = v31.toInt := i_eq.mp c32
              refine lv_iconst (v := 1) hx hb dX12_isWord_55 (by decide) ?_
              refine lv_goto (tgt := 60) hx hb dX12_isWord_56 (by decide) ?_
              refine lv_istore_n (lv' := [(2, .int (1 : Int32)), (3, .int x3_24), (0, .ref a0), (1, .ref a1)]) hx hb dX12_isWord_60 rfl hl (by decide) rfl (fun ls hl => ?_)
              obtain ⟨v35, ev35⟩ : ∃ y : Int32, y = x3_24 + (1) := ⟨_, rfl⟩
              have k_1 : (1 : Int32).toInt = 1 := by decide
              have f36 : v35.toInt = x3_24.toInt + (1) := by rw [ev35]; exact i_addc k_1 (by omega) (by omega)
              refine lv_iinc (v := v35) (lv' := [(3, .int v35), (2, .int (1 : Int32)), (0, .ref a0), (1, .ref a1)]) hx hb dX12_isWord_61 hl (k := 1) rfl (by rw [ev35]; rfl) (by decide) rfl (fun ls hl => ?_)
              refine lv_goto (tgt := 24) hx hb dX12_isWord_64 (by decide) ?_
              exact ih24 v35 (1 : Int32) ls (by omega) (by omega) (by omega) (by omega) (lv_sub hl [0, 1, 2, 3] rfl)
    have k_0 : (0 : Int32).toInt = 0 := by decide
    have k_1 : (1 : Int32).toInt = 1 := by decide
    exact Lp24 401 (0 : Int32) (1 : Int32) ls (by omega) (by omega) (by omega)  (by omega) (lv_sub hl [0, 1, 2, 3] rfl)

set_option maxRecDepth 100000 in
set_option maxHeartbeats 4000000 in
theorem c_X12_letters_w (l : Launch) (D : DD) (G : Nat → Nat) (a0 : Nat) (ga0 : G a0 = 30) : CE l D G yX12_letters cX12_letters 1 none 2 [.ref a0] (fun _ => True) [(30, 10), (30, 12)] (xV (fun H H1 => (fI D H 11 a0 10).toInt ≤ (fI D H1 11 a0 12).toInt ∧ (fI D H1 11 a0 12).toInt ≤ (fI D H1 11 a0 10).toInt)) := by
  refine enter (by decide) (Nat.le_of_ble_eq_true rfl) ?_
  intro p e s m args below meth c ls Q hA hQ C hr hO hpre hl
  have hx := C.1
  have hb := C.2.1
  have S : Sd D G [(30, 10), (30, 12)] s.heap s.heap [] := Sd.start hO
  have hl : lv_has ls 1 [(0, .ref a0)] := hl
  refine lv_aload_n hx hb dX12_letters_0 rfl (lv_at hl 0 rfl) ?_
  refine callV_Ev C S (c_X12_blanks l D G a0 ga0) kV_X12_90 ga0 (trivial) (by decide +kernel) dX12_letters_1 hl.1 rfl rfl (by decide) cd_X12_blanks ⟨Nat.le_of_ble_eq_true rfl, Nat.le_of_ble_eq_true rfl, Nat.le_of_ble_eq_true rfl, Nat.le_of_ble_eq_true rfl, Nat.le_of_ble_eq_true rfl⟩ (fun H1 L1 S1 K1 q1 => ?_)
  have Lp4 : ∀ (n : Nat)  (H_4 : Heap) (L_4 : List Loc) (ls : Array Slot), (Sd D G [(30, 10), (30, 12)] s.heap H_4 L_4) → ((fI D s.heap 11 a0 10).toInt ≤ (fI D H_4 11 a0 12).toInt ∧ (fI D H_4 11 a0 12).toInt ≤ (fI D H_4 11 a0 10).toInt) → 401 - (fI D H_4 11 a0 10).toInt ≤ (n : Int) → lv_has ls 1 [(0, .ref a0)] → W p l e (rmU 2 0 0) s m args below meth c H_4 L_4 0 0 Q (F0 m 4 ls []) := by
    intro n
    induction n with
    | zero =>
      intro H_4 L_4 ls S_4 u4_0 hn hl
      have rz : 0 ≤ (fI D H_4 11 a0 10).toInt ∧ (fI D H_4 11 a0 10).toInt ≤ 400 := S_4.1.rng ga0 rfl (by decide) rfl
      exact absurd hn (by omega)
    | succ n ih4 =>
      intro H_4 L_4 ls S_4 u4_0 hn hl
      have re : 0 ≤ (fI D H_4 11 a0 11).toInt ∧ (fI D H_4 11 a0 11).toInt ≤ 400 := S_4.1.rng ga0 rfl (by decide) rfl
      have rp : 0 ≤ (fI D H_4 11 a0 10).toInt ∧ (fI D H_4 11 a0 10).toInt ≤ 400 := S_4.1.rng ga0 rfl (by decide) rfl
      refine lv_aload_n hx hb dX12_letters_4 rfl (lv_at hl 0 rfl) ?_
      refine lv_bipush (v := 97) hx hb dX12_letters_5 (by decide) ?_
      refine lv_bipush (v := 122) hx hb dX12_letters_7 (by decide) ?_
      have k_97 : (97 : Int32).toInt = 97 := by decide
      have k_122 : (122 : Int32).toInt = 122 := by decide
      refine callV_Pi C S_4.1 S_4.2.1.2.1 (c_X12_isAt l D G a0 (97 : Int32) (122 : Int32) ga0) kV_X12_84 ga0 (trivial) dX12_letters_9 hl.1 rfl rfl (by decide) cd_X12_isAt ⟨Nat.le_of_ble_eq_true rfl, Nat.le_of_ble_eq_true rfl, Nat.le_of_ble_eq_true rfl, Nat.le_of_ble_eq_true rfl, Nat.le_of_ble_eq_true rfl⟩ (fun v2 q2 => ?_)
      have re : 0 ≤ (fI D H_4 11 a0 11).toInt ∧ (fI D H_4 11 a0 11).toInt ≤ 400 := S_4.1.rng ga0 rfl (by decide) rfl
      rcases q2 with q2 | q2
      · skip
        have k_0 : (0 : Int32).toInt = 0 := by decide
        refine lv_if_eq (tgt := 28) hx hb dX12_letters_12 (by decide) (fun c3 => ?_) (fun c3 => ?_)
        · have b3 : v2.toInt = (0 : Int32).toInt := i_eq.mp c3
          exact absurd b3 (by omega)
        · have b3 : ¬ v2.toInt = (0 : Int32).toInt := fun z9 => c3 (i_eq.mpr z9)
          refine lv_aload_n hx hb dX12_letters_15 rfl (lv_at hl 0 rfl) ?_
          refine lv_dup hx hb dX12_letters_16 rfl ?_
          refine q_gi (T := TX12) C S_4.1 ga0 10 kF_X12_78 dX12_letters_17 rfl rfl (by decide) rfl (by decide) rfl ?_
          have r4 : 0 ≤ (fI D H_4 11 a0 10).toInt ∧ (fI D H_4 11 a0 10).toInt ≤ 400 := S_4.1.rng ga0 rfl (by decide) rfl
          refine lv_iconst (v := 1) hx hb dX12_letters_20 (by decide) ?_
          have k_1 : (1 : Int32).toInt = 1 := by decide
          refine lv_iadd hx hb dX12_letters_21 ?_
          refine lv_topi (fun v5 ev5 => ?_)
          have f6 : v5.toInt = (fI D H_4 11 a0 10).toInt + (1 : Int32).toInt := by rw [ev5]; exact i_add (by omega) (by omega)
          refine q_put (T := TX12) C S_4 ga0 10 kF_X12_78 dX12_letters_22 rfl rfl (by decide) (by decide) rfl rfl rfl rfl rfl (vok_i rfl (by omega) (by omega)) (by decide +kernel) (fun H7 L7 S7 P7 => ?_)
          have y7_10 : (fI D H7 11 a0 10).toInt = v5.toInt := congrArg Int32.toInt (Pt.i P7)
          have y7_12 : (fI D H7 11 a0 12).toInt = (fI D H_4 11 a0 12).toInt := congrArg Int32.toInt (Pt.o P7 (by decide) (by decide))
          refine lv_goto (tgt := 4) hx hb dX12_letters_25 (by decide) ?_
          exact ih4  H7 L7 ls S7 (by omega) (by omega) (lv_sub hl [0] rfl)
      · skip
        have k_0 : (0 : Int32).toInt = 0 := by decide
        refine lv_if_eq (tgt := 28) hx hb dX12_letters_12 (by decide) (fun c8 => ?_) (fun c8 => ?_)
        · have b8 : v2.toInt = (0 : Int32).toInt := i_eq.mp c8
          exact retE_v hQ C S_4 hr dX12_letters_28 (by omega)
        · have b8 : ¬ v2.toInt = (0 : Int32).toInt := fun z9 => c8 (i_eq.mpr z9)
          exact absurd b8 (by omega)
  have rn : 0 ≤ (fI D H1 11 a0 10).toInt ∧ (fI D H1 11 a0 10).toInt ≤ 400 := S1.1.rng ga0 rfl (by decide) rfl
  exact Lp4 402  H1 L1 ls S1 (by omega)  (by omega) (lv_sub hl [0] rfl)

set_option maxRecDepth 100000 in
set_option maxHeartbeats 4000000 in
theorem c_X12_number_w (l : Launch) (D : DD) (G : Nat → Nat) (a0 : Nat) (x1 : Int32) (x2 : Int32) (ga0 : G a0 = 30) : CE l D G yX12_number cX12_number 4 (some .int) 2 [.ref a0, .int x1, .int x2] (fun _ => True) [(30, 10), (30, 12)] (xI (fun H r H1 => (fI D H 11 a0 10).toInt ≤ (fI D H1 11 a0 10).toInt ∧ (r.toInt = -1 ∨ (x1.toInt ≤ r.toInt ∧ r.toInt ≤ x2.toInt ∧ (fI D H 11 a0 10).toInt < (fI D H1 11 a0 10).toInt)))) := by
  refine enter (by decide) (Nat.le_of_ble_eq_true rfl) ?_
  intro p e s m args below meth c ls Q hA hQ C hr hO hpre hl
  have hx := C.1
  have hb := C.2.1
  have S : Sd D G [(30, 10), (30, 12)] s.heap s.heap [] := Sd.start hO
  have hl : lv_has ls 4 [(0, .ref a0), (1, .int x1), (2, .int x2)] := hl
  refine lv_aload_n hx hb dX12_number_0 rfl (lv_at hl 0 rfl) ?_
  refine callV_Ev C S (c_X12_blanks l D G a0 ga0) kV_X12_90 ga0 (trivial) (by decide +kernel) dX12_number_1 hl.1 rfl rfl (by decide) cd_X12_blanks ⟨Nat.le_of_ble_eq_true rfl, Nat.le_of_ble_eq_true rfl, Nat.le_of_ble_eq_true rfl, Nat.le_of_ble_eq_true rfl, Nat.le_of_ble_eq_true rfl⟩ (fun H1 L1 S1 K1 q1 => ?_)
  refine lv_iconst (v := 0) hx hb dX12_number_4 (by decide) ?_
  refine lv_istore_n (lv' := [(3, .int (0 : Int32)), (0, .ref a0), (1, .int x1), (2, .int x2)]) hx hb dX12_number_5 rfl hl (by decide) rfl (fun ls hl => ?_)
  have Lp6 : ∀ (n : Nat) (x3_6 : Int32) (H_6 : Heap) (L_6 : List Loc) (ls : Array Slot), (Sd D G [(30, 10), (30, 12)] s.heap H_6 L_6) → ((fI D s.heap 11 a0 10).toInt ≤ (fI D H_6 11 a0 12).toInt ∧ (fI D H_6 11 a0 12).toInt ≤ (fI D H_6 11 a0 10).toInt) → 401 - (fI D H_6 11 a0 10).toInt ≤ (n : Int) → lv_has ls 4 [(3, .int x3_6), (0, .ref a0), (1, .int x1), (2, .int x2)] → W p l e (rmU 2 0 0) s m args below meth c H_6 L_6 0 0 Q (F0 m 6 ls []) := by
    intro n
    induction n with
    | zero =>
      intro x3_6 H_6 L_6 ls S_6 u6_0 hn hl
      have rz : 0 ≤ (fI D H_6 11 a0 10).toInt ∧ (fI D H_6 11 a0 10).toInt ≤ 400 := S_6.1.rng ga0 rfl (by decide) rfl
      exact absurd hn (by omega)
    | succ n ih6 =>
      intro x3_6 H_6 L_6 ls S_6 u6_0 hn hl
      have re : 0 ≤ (fI D H_6 11 a0 11).toInt ∧ (fI D H_6 11 a0 11).toInt ≤ 400 := S_6.1.rng ga0 rfl (by decide) rfl
      have rp : 0 ≤ (fI D H_6 11 a0 10).toInt ∧ (fI D H_6 11 a0 10).toInt ≤ 400 := S_6.1.rng ga0 rfl (by decide) rfl
      refine lv_aload_n hx hb dX12_number_6 rfl (lv_at hl 1 rfl) ?_
      refine lv_bipush (v := 48) hx hb dX12_number_7 (by decide) ?_
      refine lv_bipush (v := 57) hx hb dX12_number_9 (by decide) ?_
      have k_48 : (48 : Int32).toInt = 48 := by decide
      have k_57 : (57 : Int32).toInt = 57 := by decide
      refine callV_Pi C S_6.1 S_6.2.1.2.1 (c_X12_isAt l D G a0 (48 : Int32) (57 : Int32) ga0) kV_X12_84 ga0 (trivial) dX12_number_11 hl.1 rfl rfl (by decide) cd_X12_isAt ⟨Nat.le_of_ble_eq_true rfl, Nat.le_of_ble_eq_true rfl, Nat.le_of_ble_eq_true rfl, Nat.le_of_ble_eq_true rfl, Nat.le_of_ble_eq_true rfl⟩ (fun v2 q2 => ?_)
      have re : 0 ≤ (fI D H_6 11 a0 11).toInt ∧ (fI D H_6 11 a0 11).toInt ≤ 400 := S_6.1.rng ga0 rfl (by decide) rfl
      rcases q2 with q2 | q2
      · skip
        have k_0 : (0 : Int32).toInt = 0 := by decide
        refine lv_if_eq (tgt := 65) hx hb dX12_number_14 (by decide) (fun c3 => ?_) (fun c3 => ?_)
        · have b3 : v2.toInt = (0 : Int32).toInt := i_eq.mp c3
          exact absurd b3 (by omega)
        · have b3 : ¬ v2.toInt = (0 : Int32).toInt := fun z9 => c3 (i_eq.mpr z9)
          refine lv_aload_n hx hb dX12_number_17 rfl (lv_at hl 1 rfl) ?_
          refine q_gi (T := TX12) C S_6.1 ga0 10 kF_X12_78 dX12_number_18 rfl rfl (by decide) rfl (by decide) rfl ?_
          have r4 : 0 ≤ (fI D H_6 11 a0 10).toInt ∧ (fI D H_6 11 a0 10).toInt ≤ 400 := S_6.1.rng ga0 rfl (by decide) rfl
          refine lv_aload_n hx hb dX12_number_21 rfl (lv_at hl 1 rfl) ?_
          refine q_gi (T := TX12) C S_6.1 ga0 12 kF_X12_87 dX12_number_22 rfl rfl (by decide) rfl (by decide) rfl ?_
          have r5 : 0 ≤ (fI D H_6 11 a0 12).toInt ∧ (fI D H_6 11 a0 12).toInt ≤ 400 := S_6.1.rng ga0 rfl (by decide) rfl
          refine lv_isub hx hb dX12_number_25 ?_
          refine lv_topi (fun v6 ev6 => ?_)
          have f7 : v6.toInt = (fI D H_6 11 a0 10).toInt - (fI D H_6 11 a0 12).toInt := by rw [ev6]; exact i_sub (by omega) (by omega)
          refine lv_iconst (v := 3) hx hb dX12_number_26 (by decide) ?_
          have k_3 : (3 : Int32).toInt = 3 := by decide
          refine lv_icmp_ge (tgt := 50) hx hb dX12_number_27 (by decide) (fun c8 => ?_) (fun c8 => ?_)
          · have b8 : (3 : Int32).toInt ≤ v6.toInt := i_le.mp c8
            refine lv_iload_n hx hb dX12_number_50 rfl (lv_at hl 0 rfl) ?_
            refine lv_istore_n (lv' := [(3, .int x3_6), (0, .ref a0), (1, .int x1), (2, .int x2)]) hx hb dX12_number_51 rfl hl (by decide) rfl (fun ls hl => ?_)
            refine lv_aload_n hx hb dX12_number_52 rfl (lv_at hl 1 rfl) ?_
            refine lv_dup hx hb dX12_number_53 rfl ?_
            refine q_gi (T := TX12) C S_6.1 ga0 10 kF_X12_78 dX12_number_54 rfl rfl (by decide) rfl (by decide) rfl ?_
            refine lv_iconst (v := 1) hx hb dX12_number_57 (by decide) ?_
            have k_1 : (1 : Int32).toInt = 1 := by decide
            refine lv_iadd hx hb dX12_number_58 ?_
            refine lv_topi (fun v9 ev9 => ?_)
            have f10 : v9.toInt = (fI D H_6 11 a0 10).toInt + (1 : Int32).toInt := by rw [ev9]; exact i_add (by omega) (by omega)
            refine q_put (T := TX12) C S_6 ga0 10 kF_X12_78 dX12_number_59 rfl rfl (by decide) (by decide) rfl rfl rfl rfl rfl (vok_i rfl (by omega) (by omega)) (by decide +kernel) (fun H11 L11 S11 P11 => ?_)
            have y11_10 : (fI D H11 11 a0 10).toInt = v9.toInt := congrArg Int32.toInt (Pt.i P11)
            have y11_12 : (fI D H11 11 a0 12).toInt = (fI D H_6 11 a0 12).toInt := congrArg Int32.toInt (Pt.o P11 (by decide) (by decide))
            refine lv_goto (tgt := 6) hx hb dX12_number_62 (by decide) ?_
            exact ih6 x3_6 H11 L11 ls S11 (by omega) (by omega) (lv_sub hl [0, 1, 2, 3] rfl)
          · have b8 : ¬ (3 : Int32).toInt ≤ v6.toInt := fun z9 => c8 (i_le.mpr z9)
            refine lv_bipush (v := 10) hx hb dX12_number_30 (by decide) ?_
            refine lv_iload_n hx hb dX12_number_32 rfl (lv_at hl 0 rfl) ?_
            have k_10 : (10 : Int32).toInt = 10 := by decide
            refine lv_imul hx hb dX12_number_33 ?_
            refine lv_topi (fun v12 ev12 => ?_)
            refine lv_aload_n hx hb dX12_number_34 rfl (lv_at hl 1 rfl) ?_
            refine q_gr (T := TX12) C S_6.1 ga0 8 kF_X12_29 dX12_number_35 rfl rfl (by decide) rfl (by decide) rfl (fun g13 => ?_)
            refine lv_aload_n hx hb dX12_number_38 rfl (lv_at hl 1 rfl) ?_
            refine q_gi (T := TX12) C S_6.1 ga0 10 kF_X12_78 dX12_number_39 rfl rfl (by decide) rfl (by decide) rfl ?_
            have n14 : aN H_6 (fR D H_6 11 a0 8) = 400 := len_36 S_6.1 g13
            refine q_bald C S_6.1 g13 (by omega) (by omega) dX12_number_42 rfl (by decide) ?_
            refine lv_topi (fun v15 ev15 => ?_)
            refine lv_iadd hx hb dX12_number_43 ?_
            refine lv_topi (fun v16 ev16 => ?_)
            refine lv_bipush (v := 48) hx hb dX12_number_44 (by decide) ?_
            refine lv_isub hx hb dX12_number_46 ?_
            refine lv_topi (fun v17 ev17 => ?_)
            refine lv_goto (tgt := 51) hx hb dX12_number_47 (by decide) ?_
            refine lv_istore_n (lv' := [(3, .int v17), (0, .ref a0), (1, .int x1), (2, .int x2)]) hx hb dX12_number_51 rfl hl (by decide) rfl (fun ls hl => ?_)
            refine lv_aload_n hx hb dX12_number_52 rfl (lv_at hl 1 rfl) ?_
            refine lv_dup hx hb dX12_number_53 rfl ?_
            refine q_gi (T := TX12) C S_6.1 ga0 10 kF_X12_78 dX12_number_54 rfl rfl (by decide) rfl (by decide) rfl ?_
            refine lv_iconst (v := 1) hx hb dX12_number_57 (by decide) ?_
            have k_1 : (1 : Int32).toInt = 1 := by decide
            refine lv_iadd hx hb dX12_number_58 ?_
            refine lv_topi (fun v18 ev18 => ?_)
            have f19 : v18.toInt = (fI D H_6 11 a0 10).toInt + (1 : Int32).toInt := by rw [ev18]; exact i_add (by omega) (by omega)
            refine q_put (T := TX12) C S_6 ga0 10 kF_X12_78 dX12_number_59 rfl rfl (by decide) (by decide) rfl rfl rfl rfl rfl (vok_i rfl (by omega) (by omega)) (by decide +kernel) (fun H20 L20 S20 P20 => ?_)
            have y20_10 : (fI D H20 11 a0 10).toInt = v18.toInt := congrArg Int32.toInt (Pt.i P20)
            have y20_12 : (fI D H20 11 a0 12).toInt = (fI D H_6 11 a0 12).toInt := congrArg Int32.toInt (Pt.o P20 (by decide) (by decide))
            refine lv_goto (tgt := 6) hx hb dX12_number_62 (by decide) ?_
            exact ih6 v17 H20 L20 ls S20 (by omega) (by omega) (lv_sub hl [0, 1, 2, 3] rfl)
      · skip
        have k_0 : (0 : Int32).toInt = 0 := by decide
        refine lv_if_eq (tgt := 65) hx hb dX12_number_14 (by decide) (fun c21 => ?_) (fun c21 => ?_)
        · have b21 : v2.toInt = (0 : Int32).toInt := i_eq.mp c21
          refine lv_aload_n hx hb dX12_number_65 rfl (lv_at hl 1 rfl) ?_
          refine q_gi (T := TX12) C S_6.1 ga0 10 kF_X12_78 dX12_number_66 rfl rfl (by decide) rfl (by decide) rfl ?_
          have r22 : 0 ≤ (fI D H_6 11 a0 10).toInt ∧ (fI D H_6 11 a0 10).toInt ≤ 400 := S_6.1.rng ga0 rfl (by decide) rfl
          refine lv_aload_n hx hb dX12_number_69 rfl (lv_at hl 1 rfl) ?_
          refine q_gi (T := TX12) C S_6.1 ga0 12 kF_X12_87 dX12_number_70 rfl rfl (by decide) rfl (by decide) rfl ?_
          have r23 : 0 ≤ (fI D H_6 11 a0 12).toInt ∧ (fI D H_6 11 a0 12).toInt ≤ 400 := S_6.1.rng ga0 rfl (by decide) rfl
          refine lv_icmp_eq (tgt := 99) hx hb dX12_number_73 (by decide) (fun c24 => ?_) (fun c24 => ?_)
          · have b24 : (fI D H_6 11 a0 10).toInt = (fI D H_6 11 a0 12).toInt := i_eq.mp c24
            refine lv_iconst (v := -1) hx hb dX12_number_99 (by decide) ?_
            refine lv_goto (tgt := 104) hx hb dX12_number_100 (by decide) ?_
            have k_m1 : (-1 : Int32).toInt = -1 := by decide
            exact retE_i hQ C S_6 hr dX12_number_104 (by omega)
          · have b24 : ¬ (fI D H_6 11 a0 10).toInt = (fI D H_6 11 a0 12).toInt := fun z9 => c24 (i_eq.mpr z9)
            refine lv_aload_n hx hb dX12_number_76 rfl (lv_at hl 1 rfl) ?_
            refine q_gi (T := TX12) C S_6.1 ga0 10 kF_X12_78 dX12_number_77 rfl rfl (by decide) rfl (by decide) rfl ?_
            refine lv_aload_n hx hb dX12_number_80 rfl (lv_at hl 1 rfl) ?_
            refine q_gi (T := TX12) C S_6.1 ga0 12 kF_X12_87 dX12_number_81 rfl rfl (by decide) rfl (by decide) rfl ?_
            refine lv_isub hx hb dX12_number_84 ?_
            refine lv_topi (fun v25 ev25 => ?_)
            have f26 : v25.toInt = (fI D H_6 11 a0 10).toInt - (fI D H_6 11 a0 12).toInt := by rw [ev25]; exact i_sub (by omega) (by omega)
            refine lv_iconst (v := 3) hx hb dX12_number_85 (by decide) ?_
            have k_3 : (3 : Int32).toInt = 3 := by decide
            refine lv_icmp_gt (tgt := 99) hx hb dX12_number_86 (by decide) (fun c27 => ?_) (fun c27 => ?_)
            · have b27 : (3 : Int32).toInt < v25.toInt := i_lt.mp c27
              refine lv_iconst (v := -1) hx hb dX12_number_99 (by decide) ?_
              refine lv_goto (tgt := 104) hx hb dX12_number_100 (by decide) ?_
              have k_m1 : (-1 : Int32).toInt = -1 := by decide
              exact retE_i hQ C S_6 hr dX12_number_104 (by omega)
            · have b27 : ¬ (3 : Int32).toInt < v25.toInt := fun z9 => c27 (i_lt.mpr z9)
              refine lv_iload_n hx hb dX12_number_89 rfl (lv_at hl 0 rfl) ?_
              refine lv_iload_n hx hb dX12_number_90 rfl (lv_at hl 2 rfl) ?_
              refine lv_icmp_lt (tgt := 99) hx hb dX12_number_91 (by decide) (fun c28 => ?_) (fun c28 => ?_)
              · have b28 : x3_6.toInt < x1.toInt := i_lt.mp c28
                refine lv_iconst (v := -1) hx hb dX12_number_99 (by decide) ?_
                refine lv_goto (tgt := 104) hx hb dX12_number_100 (by decide) ?_
                have k_m1 : (-1 : Int32).toInt = -1 := by decide
                exact retE_i hQ C S_6 hr dX12_number_104 (by omega)
              · have b28 : ¬ x3_6.toInt < x1.toInt := fun z9 => c28 (i_lt.mpr z9)
                refine lv_iload_n hx hb dX12_number_94 rfl (lv_at hl 0 rfl) ?_
                refine lv_iload_n hx hb dX12_number_95 rfl (lv_at hl 3 rfl) ?_
                refine lv_icmp_le (tgt := 103) hx hb dX12_number_96 (by decide) (fun c29 => ?_) (fun c29 => ?_)
                · have b29 : x3_6.toInt ≤ x2.toInt := i_le.mp c29
                  refine lv_iload_n hx hb dX12_number_103 rfl (lv_at hl 0 rfl) ?_
                  exact retE_i hQ C S_6 hr dX12_number_104 (by omega)
                · have b29 : ¬ x3_6.toInt ≤ x2.toInt := fun z9 => c29 (i_le.mpr z9)
                  refine lv_iconst (v := -1) hx hb dX12_number_99 (by decide) ?_
                  refine lv_goto (tgt := 104) hx hb dX12_number_100 (by decide) ?_
                  have k_m1 : (-1 : Int32).toInt = -1 := by decide
                  exact retE_i hQ C S_6 hr dX12_number_104 (by omega)
        · have b21 : ¬ v2.toInt = (0 : Int32).toInt := fun z9 => c21 (i_eq.mpr z9)
          exact absurd b21 (by omega)
  have k_0 : (0 : Int32).toInt = 0 := by decide
  have rn : 0 ≤ (fI D H1 11 a0 10).toInt ∧ (fI D H1 11 a0 10).toInt ≤ 400 := S1.1.rng ga0 rfl (by decide) rfl
  exact Lp6 402 (0 : Int32) H1 L1 ls S1 (by omega)  (by omega) (lv_sub hl [0, 1, 2, 3] rfl)

set_option maxRecDepth 100000 in
set_option maxHeartbeats 4000000 in
theorem c_X12_passes_w (l : Launch) (D : DD) (G : Nat → Nat) (a0 : Nat) (a1 n1 : Nat) (ga0 : G a0 = 30) (sa1 : D.1.2 99 a1 = n1 + 1) : CE l D G yX12_passes cX12_passes 2 (some .boolean) 5 [.ref a0, .ref a1] (fun _ => True) [(30, 10), (30, 12)] (xI (fun H r H1 => (r.toInt = 1 ∧ (fI D H 11 a0 10).toInt + n1 ≤ (fI D H1 11 a0 10).toInt) ∨ (r.toInt = 0 ∧ (fI D H 11 a0 10).toInt ≤ (fI D H1 11 a0 10).toInt))) := by
  refine enter (by decide) (Nat.le_of_ble_eq_true rfl) ?_
  intro p e s m args below meth c ls Q hA hQ C hr hO hpre hl
  have hx := C.1
  have hb := C.2.1
  have S : Sd D G [(30, 10), (30, 12)] s.heap s.heap [] := Sd.start hO
  have hl : lv_has ls 2 [(0, .ref a0), (1, .ref a1)] := hl
  refine lv_aload_n hx hb dX12_passes_0 rfl (lv_at hl 0 rfl) ?_
  refine callV_Ev C S (c_X12_letters_w l D G a0 ga0) kV_X12_102 ga0 (trivial) (by decide +kernel) dX12_passes_1 hl.1 rfl rfl (by decide) cd_X12_letters ⟨Nat.le_of_ble_eq_true rfl, Nat.le_of_ble_eq_true rfl, Nat.le_of_ble_eq_true rfl, Nat.le_of_ble_eq_true rfl, Nat.le_of_ble_eq_true rfl⟩ (fun H1 L1 S1 K1 q1 => ?_)
  refine lv_aload_n hx hb dX12_passes_4 rfl (lv_at hl 0 rfl) ?_
  refine lv_aload_n hx hb dX12_passes_5 rfl (lv_at hl 1 rfl) ?_
  refine callV_Pi C S1.1 S1.2.1.2.1 (c_X12_isWord_w l D G a0 a1 n1 ga0 sa1) kV_X12_105 ga0 (trivial) dX12_passes_6 hl.1 rfl rfl (by decide) cd_X12_isWord ⟨Nat.le_of_ble_eq_true rfl, Nat.le_of_ble_eq_true rfl, Nat.le_of_ble_eq_true rfl, Nat.le_of_ble_eq_true rfl, Nat.le_of_ble_eq_true rfl⟩ (fun v2 q2 => ?_)
  have k_0 : (0 : Int32).toInt = 0 := by decide
  refine lv_if_eq (tgt := 14) hx hb dX12_passes_9 (by decide) (fun c3 => ?_) (fun c3 => ?_)
  · have b3 : v2.toInt = (0 : Int32).toInt := i_eq.mp c3
    refine lv_aload_n hx hb dX12_passes_14 rfl (lv_at hl 0 rfl) ?_
    refine lv_aload_n hx hb dX12_passes_15 rfl (lv_at hl 0 rfl) ?_
    refine q_gi (T := TX12) C S1.1 ga0 12 kF_X12_87 dX12_passes_16 rfl rfl (by decide) rfl (by decide) rfl ?_
    have r4 : 0 ≤ (fI D H1 11 a0 12).toInt ∧ (fI D H1 11 a0 12).toInt ≤ 400 := S1.1.rng ga0 rfl (by decide) rfl
    refine q_put (T := TX12) C S1 ga0 10 kF_X12_78 dX12_passes_19 rfl rfl (by decide) (by decide) rfl rfl rfl rfl rfl (vok_i rfl (by omega) (by omega)) (by decide +kernel) (fun H5 L5 S5 P5 => ?_)
    have y5_10 : (fI D H5 11 a0 10).toInt = (fI D H1 11 a0 12).toInt := congrArg Int32.toInt (Pt.i P5)
    have y5_12 : (fI D H5 11 a0 12).toInt = (fI D H1 11 a0 12).toInt := congrArg Int32.toInt (Pt.o P5 (by decide) (by decide))
    refine lv_iconst (v := 0) hx hb dX12_passes_22 (by decide) ?_
    exact retE_z hQ C S5 hr dX12_passes_23 (z01 (by omega) (by omega)) (by omega)
  · have b3 : ¬ v2.toInt = (0 : Int32).toInt := fun z9 => c3 (i_eq.mpr z9)
    refine lv_iconst (v := 1) hx hb dX12_passes_12 (by decide) ?_
    have k_1 : (1 : Int32).toInt = 1 := by decide
    exact retE_z hQ C S1 hr dX12_passes_13 (z01 (by omega) (by omega)) (by omega)

set_option maxRecDepth 100000 in
set_option maxHeartbeats 4000000 in
theorem c_X12_houses_w (l : Launch) (D : DD) (G : Nat → Nat) (a0 : Nat) (ga0 : G a0 = 30) : CP l D G yX12_houses cX12_houses 1 (some .int) 0 [.ref a0] (fun _ => True) (pI (fun H r => r.toInt = (eI H (fR D H 11 a0 1) 0).toInt ∧ 0 ≤ r.toInt ∧ r.toInt ≤ 6)) := by
  refine enter (by decide) (Nat.le_of_ble_eq_true rfl) ?_
  intro p e s m args below meth c ls Q hA hQ C hr hO hpre hl
  have hx := C.1
  have hb := C.2.1
  have hl : lv_has ls 1 [(0, .ref a0)] := hl
  refine lv_aload_n hx hb dX12_houses_0 rfl (lv_at hl 0 rfl) ?_
  refine q_gr (T := TX12) C hO ga0 1 kF_X12_13 dX12_houses_1 rfl rfl (by decide) rfl (by decide) rfl (fun g1 => ?_)
  refine lv_iconst (v := 0) hx hb dX12_houses_4 (by decide) ?_
  have n2 : aN s.heap (fR D s.heap 11 a0 1) = 2052 := len_31 hO g1
  have k_0 : (0 : Int32).toInt = 0 := by decide
  refine q_iald C hO g1 (by omega) (by omega) dX12_houses_5 rfl (by decide) ?_
  refine lv_topi (fun v3 ev3 => ?_)
  have ew := ev3
  have wv3 : 0 ≤ v3.toInt ∧ v3.toInt ≤ 6 := by rw [ev3]; exact wl_0 hO g1
  exact retP_i hQ C hr dX12_houses_6 (by rw [ew] at *; exact ⟨rfl, by omega, by omega⟩)

set_option maxRecDepth 100000 in
set_option maxHeartbeats 4000000 in
theorem c_X12_hearths_w (l : Launch) (D : DD) (G : Nat → Nat) (a0 : Nat) (ga0 : G a0 = 30) : CP l D G yX12_hearths cX12_hearths 1 (some .int) 0 [.ref a0] (fun _ => True) (pI (fun H r => r.toInt = (eI H (fR D H 11 a0 1) 1).toInt ∧ 0 ≤ r.toInt ∧ r.toInt ≤ 12)) := by
  refine enter (by decide) (Nat.le_of_ble_eq_true rfl) ?_
  intro p e s m args below meth c ls Q hA hQ C hr hO hpre hl
  have hx := C.1
  have hb := C.2.1
  have hl : lv_has ls 1 [(0, .ref a0)] := hl
  refine lv_aload_n hx hb dX12_hearths_0 rfl (lv_at hl 0 rfl) ?_
  refine q_gr (T := TX12) C hO ga0 1 kF_X12_13 dX12_hearths_1 rfl rfl (by decide) rfl (by decide) rfl (fun g1 => ?_)
  refine lv_iconst (v := 1) hx hb dX12_hearths_4 (by decide) ?_
  have n2 : aN s.heap (fR D s.heap 11 a0 1) = 2052 := len_31 hO g1
  have k_1 : (1 : Int32).toInt = 1 := by decide
  refine q_iald C hO g1 (by omega) (by omega) dX12_hearths_5 rfl (by decide) ?_
  refine lv_topi (fun v3 ev3 => ?_)
  have ew := ev3
  have wv3 : 0 ≤ v3.toInt ∧ v3.toInt ≤ 12 := by rw [ev3]; exact wl_1 hO g1
  exact retP_i hQ C hr dX12_hearths_6 (by rw [ew] at *; exact ⟨rfl, by omega, by omega⟩)

set_option maxRecDepth 100000 in
set_option maxHeartbeats 4000000 in
theorem c_X12_readHouse (l : Launch) (D : DD) (G : Nat → Nat) (a0 : Nat) (ga0 : G a0 = 30) : CE l D G yX12_readHouse cX12_readHouse 6 (some .boolean) 6 [.ref a0] (fun _ => True) [(30, 10), (30, 12), (31, 0), (31, 1)] (xI (fun H r H1 => 0 ≤ r.toInt ∧ r.toInt ≤ 1)) := by
  refine enter (by decide) (Nat.le_of_ble_eq_true rfl) ?_
  intro p e s m args below meth c ls Q hA hQ C hr hO hpre hl
  have hx := C.1
  have hb := C.2.1
  have S : Sd D G [(30, 10), (30, 12), (31, 0), (31, 1)] s.heap s.heap [] := Sd.start hO
  have hl : lv_has ls 6 [(0, .ref a0)] := hl
  refine lv_aload_n hx hb dX12_readHouse_0 rfl (lv_at hl 0 rfl) ?_
  refine callV_Pi C S.1 S.2.1.2.1 (c_X12_houses_w l D G a0 ga0) kV_X12_59 ga0 (trivial) dX12_readHouse_1 hl.1 rfl rfl (by decide) cd_X12_houses ⟨Nat.le_of_ble_eq_true rfl, Nat.le_of_ble_eq_true rfl, Nat.le_of_ble_eq_true rfl, Nat.le_of_ble_eq_true rfl, Nat.le_of_ble_eq_true rfl⟩ (fun v1 q1 => ?_)
  refine lv_istore_n (lv' := [(1, .int v1), (0, .ref a0)]) hx hb dX12_readHouse_4 rfl hl (by decide) rfl (fun ls hl => ?_)
  refine lv_iload_n hx hb dX12_readHouse_5 rfl (lv_at hl 0 rfl) ?_
  refine lv_bipush (v := 6) hx hb dX12_readHouse_6 (by decide) ?_
  have k_6 : (6 : Int32).toInt = 6 := by decide
  refine lv_icmp_ne (tgt := 13) hx hb dX12_readHouse_8 (by decide) (fun c2 => ?_) (fun c2 => ?_)
  · have b2 : ¬ v1.toInt = (6 : Int32).toInt := fun z9 => c2 (i_eq.mpr z9)
    refine lv_aload_n hx hb dX12_readHouse_13 rfl (lv_at hl 1 rfl) ?_
    refine lv_iconst (v := 0) hx hb dX12_readHouse_14 (by decide) ?_
    refine lv_sipush (v := 999) hx hb dX12_readHouse_15 (by decide) ?_
    have k_0 : (0 : Int32).toInt = 0 := by decide
    have k_999 : (999 : Int32).toInt = 999 := by decide
    refine callV_Ei C S (c_X12_number l D G a0 (0 : Int32) (999 : Int32) ga0) kV_X12_109 ga0 (trivial) (by decide +kernel) dX12_readHouse_18 hl.1 rfl rfl (by decide) cd_X12_number ⟨Nat.le_of_ble_eq_true rfl, Nat.le_of_ble_eq_true rfl, Nat.le_of_ble_eq_true rfl, Nat.le_of_ble_eq_true rfl, Nat.le_of_ble_eq_true rfl⟩ (fun v3 H3 L3 S3 K3 q3 => ?_)
    have z3_0 : (eI H3 (fR D H3 11 a0 1) 0).toInt = (eI s.heap (fR D s.heap 11 a0 1) 0).toInt := congrArg Int32.toInt (eK S.1 ga0 K3 (by decide +kernel) (by decide +kernel) 0)
    refine lv_istore_n (lv' := [(2, .int v3), (1, .int v1), (0, .ref a0)]) hx hb dX12_readHouse_21 rfl hl (by decide) rfl (fun ls hl => ?_)
    refine lv_iload_n hx hb dX12_readHouse_22 rfl (lv_at hl 0 rfl) ?_
    refine lv_if_ge (tgt := 30) hx hb dX12_readHouse_23 (by decide) (fun c4 => ?_) (fun c4 => ?_)
    · have b4 : (0 : Int32).toInt ≤ v3.toInt := i_le.mp c4
      refine lv_aload_n hx hb dX12_readHouse_30 rfl (lv_at hl 2 rfl) ?_
      refine q_lds C ks_X12_112 dX12_readHouse_31 (fun a5 ha5 wa5 => ?_)
      refine lv_iconst (v := 0) hx hb dX12_readHouse_33 (by decide) ?_
      refine lv_bipush (v := 30) hx hb dX12_readHouse_34 (by decide) ?_
      have k_30 : (30 : Int32).toInt = 30 := by decide
      refine callV_Ei C S3 (c_X12_after l D G a0 a5 7 (0 : Int32) (30 : Int32) ga0 ha5) kV_X12_114 ga0 (trivial) (by decide +kernel) dX12_readHouse_36 hl.1 rfl rfl (by decide) cd_X12_after ⟨Nat.le_of_ble_eq_true rfl, Nat.le_of_ble_eq_true rfl, Nat.le_of_ble_eq_true rfl, Nat.le_of_ble_eq_true rfl, Nat.le_of_ble_eq_true rfl⟩ (fun v6 H6 L6 S6 K6 q6 => ?_)
      have z6_0 : (eI H6 (fR D H6 11 a0 1) 0).toInt = (eI H3 (fR D H3 11 a0 1) 0).toInt := congrArg Int32.toInt (eK S3.1 ga0 K6 (by decide +kernel) (by decide +kernel) 0)
      refine lv_istore_n (lv' := [(3, .int v6), (2, .int v3), (1, .int v1), (0, .ref a0)]) hx hb dX12_readHouse_39 rfl hl (by decide) rfl (fun ls hl => ?_)
      refine lv_iload_n hx hb dX12_readHouse_40 rfl (lv_at hl 0 rfl) ?_
      refine lv_if_ge (tgt := 46) hx hb dX12_readHouse_41 (by decide) (fun c7 => ?_) (fun c7 => ?_)
      · have b7 : (0 : Int32).toInt ≤ v6.toInt := i_le.mp c7
        refine lv_aload_n hx hb dX12_readHouse_46 rfl (lv_at hl 3 rfl) ?_
        refine q_lds C ks_X12_118 dX12_readHouse_47 (fun a8 ha8 wa8 => ?_)
        refine callV_Ei C S6 (c_X12_passes l D G a0 a8 5 ga0 ha8) kV_X12_120 ga0 (trivial) (by decide +kernel) dX12_readHouse_49 hl.1 rfl rfl (by decide) cd_X12_passes ⟨Nat.le_of_ble_eq_true rfl, Nat.le_of_ble_eq_true rfl, Nat.le_of_ble_eq_true rfl, Nat.le_of_ble_eq_true rfl, Nat.le_of_ble_eq_true rfl⟩ (fun v9 H9 L9 S9 K9 q9 => ?_)
        have z9_0 : (eI H9 (fR D H9 11 a0 1) 0).toInt = (eI H6 (fR D H6 11 a0 1) 0).toInt := congrArg Int32.toInt (eK S6.1 ga0 K9 (by decide +kernel) (by decide +kernel) 0)
        have J11 : ∀ z12 : Int32, (0 ≤ z12.toInt ∧ z12.toInt ≤ 1) → W p l e (rmU 6 0 0) s m args below meth c H9 L9 0 0 Q (F0 m 60 ls [.int z12]) := by
          intro z12 jz12
          refine lv_istore (lv' := [(4, .int z12), (3, .int v6), (2, .int v3), (1, .int v1), (0, .ref a0)]) hx hb dX12_readHouse_60 hl (by decide) rfl (fun ls hl => ?_)
          refine lv_aload_n hx hb dX12_readHouse_62 rfl (lv_at hl 4 rfl) ?_
          refine q_lds C ks_X12_123 dX12_readHouse_63 (fun a13 ha13 wa13 => ?_)
          refine callV_Ei C S9 (c_X12_passes l D G a0 a13 5 ga0 ha13) kV_X12_120 ga0 (trivial) (by decide +kernel) dX12_readHouse_65 hl.1 rfl rfl (by decide) cd_X12_passes ⟨Nat.le_of_ble_eq_true rfl, Nat.le_of_ble_eq_true rfl, Nat.le_of_ble_eq_true rfl, Nat.le_of_ble_eq_true rfl, Nat.le_of_ble_eq_true rfl⟩ (fun v14 H14 L14 S14 K14 q14 => ?_)
          have z14_0 : (eI H14 (fR D H14 11 a0 1) 0).toInt = (eI H9 (fR D H9 11 a0 1) 0).toInt := congrArg Int32.toInt (eK S9.1 ga0 K14 (by decide +kernel) (by decide +kernel) 0)
          refine lv_if_eq (tgt := 81) hx hb dX12_readHouse_68 (by decide) (fun c15 => ?_) (fun c15 => ?_)
          · have b15 : v14.toInt = (0 : Int32).toInt := i_eq.mp c15
            refine lv_iconst (v := 0) hx hb dX12_readHouse_81 (by decide) ?_
            refine lv_istore (lv' := [(5, .int (0 : Int32)), (4, .int z12), (3, .int v6), (2, .int v3), (1, .int v1), (0, .ref a0)]) hx hb dX12_readHouse_82 hl (by decide) rfl (fun ls hl => ?_)
            refine lv_iload hx hb dX12_readHouse_84 (lv_at hl 0 rfl) ?_
            refine lv_if_ge (tgt := 91) hx hb dX12_readHouse_86 (by decide) (fun c16 => ?_) (fun c16 => ?_)
            · have b16 : (0 : Int32).toInt ≤ (0 : Int32).toInt := i_le.mp c16
              refine lv_aload_n hx hb dX12_readHouse_91 rfl (lv_at hl 5 rfl) ?_
              refine q_gr (T := TX12) C S14.1 ga0 1 kF_X12_13 dX12_readHouse_92 rfl rfl (by decide) rfl (by decide) rfl (fun g17 => ?_)
              refine lv_iload_n hx hb dX12_readHouse_95 rfl (lv_at hl 4 rfl) ?_
              refine lv_iconst (v := 0) hx hb dX12_readHouse_96 (by decide) ?_
              refine callS_Pi C S14.1 S14.2.1.2.1 (c_X12_houseAt l D G v1 (0 : Int32) (by omega) (by omega)) kS_X12_49 (trivial) dX12_readHouse_97 hl.1 cd_X12_houseAt ⟨Nat.le_of_ble_eq_true rfl, Nat.le_of_ble_eq_true rfl, Nat.le_of_ble_eq_true rfl, Nat.le_of_ble_eq_true rfl, Nat.le_of_ble_eq_true rfl⟩ (fun v18 q18 => ?_)
              refine lv_iload_n hx hb dX12_readHouse_100 rfl (lv_at hl 3 rfl) ?_
              have n19 : aN H14 (fR D H14 11 a0 1) = 2052 := len_31 S14.1 g17
              refine q_iast C S14 g17 (by omega) (by omega) dX12_readHouse_101 rfl (by decide) (by decide +kernel) (fun _ _ h => wk_low _ _ (by omega) (fun h9 => by omega) (fun h9 => by omega) (fun h9 => by omega) (fun j hj h9 => by omega) h) (fun H20 L20 S20 P20 => ?_) (hs := fun _ => Or.inl (by decide +kernel))
              try have z20_0 : (eI H20 (fR D H20 11 a0 1) 0).toInt = (eI H14 (fR D H14 11 a0 1) 0).toInt := congrArg Int32.toInt (eA S14.1 ga0 P20 (by omega) (by decide))
              refine lv_aload_n hx hb dX12_readHouse_102 rfl (lv_at hl 5 rfl) ?_
              refine q_gr (T := TX12) C S20.1 ga0 1 kF_X12_13 dX12_readHouse_103 rfl rfl (by decide) rfl (by decide) rfl (fun g21 => ?_)
              refine lv_iload_n hx hb dX12_readHouse_106 rfl (lv_at hl 4 rfl) ?_
              refine lv_iconst (v := 1) hx hb dX12_readHouse_107 (by decide) ?_
              have k_1 : (1 : Int32).toInt = 1 := by decide
              refine callS_Pi C S20.1 S20.2.1.2.1 (c_X12_houseAt l D G v1 (1 : Int32) (by omega) (by omega)) kS_X12_49 (trivial) dX12_readHouse_108 hl.1 cd_X12_houseAt ⟨Nat.le_of_ble_eq_true rfl, Nat.le_of_ble_eq_true rfl, Nat.le_of_ble_eq_true rfl, Nat.le_of_ble_eq_true rfl, Nat.le_of_ble_eq_true rfl⟩ (fun v22 q22 => ?_)
              refine lv_iload hx hb dX12_readHouse_111 (lv_at hl 1 rfl) ?_
              have n23 : aN H20 (fR D H20 11 a0 1) = 2052 := len_31 S20.1 g21
              refine q_iast C S20 g21 (by omega) (by omega) dX12_readHouse_113 rfl (by decide) (by decide +kernel) (fun _ _ h => wk_low _ _ (by omega) (fun h9 => by omega) (fun h9 => by omega) (fun h9 => by omega) (fun j hj h9 => by omega) h) (fun H24 L24 S24 P24 => ?_) (hs := fun _ => Or.inl (by decide +kernel))
              try have z24_0 : (eI H24 (fR D H24 11 a0 1) 0).toInt = (eI H20 (fR D H20 11 a0 1) 0).toInt := congrArg Int32.toInt (eA S20.1 ga0 P24 (by omega) (by decide))
              refine lv_aload_n hx hb dX12_readHouse_114 rfl (lv_at hl 5 rfl) ?_
              refine q_gr (T := TX12) C S24.1 ga0 1 kF_X12_13 dX12_readHouse_115 rfl rfl (by decide) rfl (by decide) rfl (fun g25 => ?_)
              refine lv_iload_n hx hb dX12_readHouse_118 rfl (lv_at hl 4 rfl) ?_
              refine lv_iconst (v := 2) hx hb dX12_readHouse_119 (by decide) ?_
              have k_2 : (2 : Int32).toInt = 2 := by decide
              refine callS_Pi C S24.1 S24.2.1.2.1 (c_X12_houseAt l D G v1 (2 : Int32) (by omega) (by omega)) kS_X12_49 (trivial) dX12_readHouse_120 hl.1 cd_X12_houseAt ⟨Nat.le_of_ble_eq_true rfl, Nat.le_of_ble_eq_true rfl, Nat.le_of_ble_eq_true rfl, Nat.le_of_ble_eq_true rfl, Nat.le_of_ble_eq_true rfl⟩ (fun v26 q26 => ?_)
              refine lv_iload_n hx hb dX12_readHouse_123 rfl (lv_at hl 2 rfl) ?_
              have n27 : aN H24 (fR D H24 11 a0 1) = 2052 := len_31 S24.1 g25
              refine q_iast C S24 g25 (by omega) (by omega) dX12_readHouse_124 rfl (by decide) (by decide +kernel) (fun _ _ h => wk_low _ _ (by omega) (fun h9 => by omega) (fun h9 => by omega) (fun h9 => by omega) (fun j hj h9 => by omega) h) (fun H28 L28 S28 P28 => ?_) (hs := fun _ => Or.inl (by decide +kernel))
              try have z28_0 : (eI H28 (fR D H28 11 a0 1) 0).toInt = (eI H24 (fR D H24 11 a0 1) 0).toInt := congrArg Int32.toInt (eA S24.1 ga0 P28 (by omega) (by decide))
              refine lv_aload_n hx hb dX12_readHouse_125 rfl (lv_at hl 5 rfl) ?_
              refine q_gr (T := TX12) C S28.1 ga0 1 kF_X12_13 dX12_readHouse_126 rfl rfl (by decide) rfl (by decide) rfl (fun g29 => ?_)
              refine lv_iload_n hx hb dX12_readHouse_129 rfl (lv_at hl 4 rfl) ?_
              refine lv_iconst (v := 3) hx hb dX12_readHouse_130 (by decide) ?_
              have k_3 : (3 : Int32).toInt = 3 := by decide
              refine callS_Pi C S28.1 S28.2.1.2.1 (c_X12_houseAt l D G v1 (3 : Int32) (by omega) (by omega)) kS_X12_49 (trivial) dX12_readHouse_131 hl.1 cd_X12_houseAt ⟨Nat.le_of_ble_eq_true rfl, Nat.le_of_ble_eq_true rfl, Nat.le_of_ble_eq_true rfl, Nat.le_of_ble_eq_true rfl, Nat.le_of_ble_eq_true rfl⟩ (fun v30 q30 => ?_)
              refine lv_iconst (v := 0) hx hb dX12_readHouse_134 (by decide) ?_
              have n31 : aN H28 (fR D H28 11 a0 1) = 2052 := len_31 S28.1 g29
              refine q_iast C S28 g29 (by omega) (by omega) dX12_readHouse_135 rfl (by decide) (by decide +kernel) (fun _ _ h => wk_low _ _ (by omega) (fun h9 => by omega) (fun h9 => by omega) (fun h9 => by omega) (fun j hj h9 => by omega) h) (fun H32 L32 S32 P32 => ?_) (hs := fun _ => Or.inl (by decide +kernel))
              try have z32_0 : (eI H32 (fR D H32 11 a0 1) 0).toInt = (eI H28 (fR D H28 11 a0 1) 0).toInt := congrArg Int32.toInt (eA S28.1 ga0 P32 (by omega) (by decide))
              refine lv_aload_n hx hb dX12_readHouse_136 rfl (lv_at hl 5 rfl) ?_
              refine q_gr (T := TX12) C S32.1 ga0 1 kF_X12_13 dX12_readHouse_137 rfl rfl (by decide) rfl (by decide) rfl (fun g33 => ?_)
              refine lv_iload_n hx hb dX12_readHouse_140 rfl (lv_at hl 4 rfl) ?_
              refine lv_iconst (v := 4) hx hb dX12_readHouse_141 (by decide) ?_
              have k_4 : (4 : Int32).toInt = 4 := by decide
              refine callS_Pi C S32.1 S32.2.1.2.1 (c_X12_houseAt l D G v1 (4 : Int32) (by omega) (by omega)) kS_X12_49 (trivial) dX12_readHouse_142 hl.1 cd_X12_houseAt ⟨Nat.le_of_ble_eq_true rfl, Nat.le_of_ble_eq_true rfl, Nat.le_of_ble_eq_true rfl, Nat.le_of_ble_eq_true rfl, Nat.le_of_ble_eq_true rfl⟩ (fun v34 q34 => ?_)
              refine lv_iload hx hb dX12_readHouse_145 (lv_at hl 0 rfl) ?_
              have n35 : aN H32 (fR D H32 11 a0 1) = 2052 := len_31 S32.1 g33
              refine q_iast C S32 g33 (by omega) (by omega) dX12_readHouse_147 rfl (by decide) (by decide +kernel) (fun _ _ h => wk_low _ _ (by omega) (fun h9 => by omega) (fun h9 => by omega) (fun h9 => by omega) (fun j hj h9 => by omega) h) (fun H36 L36 S36 P36 => ?_) (hs := fun _ => Or.inl (by decide +kernel))
              try have z36_0 : (eI H36 (fR D H36 11 a0 1) 0).toInt = (eI H32 (fR D H32 11 a0 1) 0).toInt := congrArg Int32.toInt (eA S32.1 ga0 P36 (by omega) (by decide))
              refine lv_aload_n hx hb dX12_readHouse_148 rfl (lv_at hl 5 rfl) ?_
              refine q_gr (T := TX12) C S36.1 ga0 1 kF_X12_13 dX12_readHouse_149 rfl rfl (by decide) rfl (by decide) rfl (fun g37 => ?_)
              refine lv_iconst (v := 0) hx hb dX12_readHouse_152 (by decide) ?_
              refine lv_dup2_11 hx hb dX12_readHouse_153 rfl rfl ?_
              have n38 : aN H36 (fR D H36 11 a0 1) = 2052 := len_31 S36.1 g37
              refine q_iald C S36.1 g37 (by omega) (by omega) dX12_readHouse_154 rfl (by decide) ?_
              refine lv_topi (fun v39 ev39 => ?_)
              have wv39 : v39.toInt = (eI H36 (fR D H36 11 a0 1) 0).toInt := by rw [ev39]; rfl
              refine lv_iconst (v := 1) hx hb dX12_readHouse_155 (by decide) ?_
              refine lv_iadd hx hb dX12_readHouse_156 ?_
              refine lv_topi (fun v40 ev40 => ?_)
              have f41 : v40.toInt = v39.toInt + (1 : Int32).toInt := by rw [ev40]; exact i_add (by omega) (by omega)
              refine q_iast C S36 g37 (by omega) (by omega) dX12_readHouse_157 rfl (by decide) (by decide +kernel) (fun _ _ h => wk_low _ _ (by omega) (fun h9 => by omega) (fun h9 => by omega) (fun h9 => by omega) (fun j hj h9 => by omega) h) (fun H42 L42 S42 P42 => ?_) (hs := fun _ => Or.inl (by decide +kernel))
              try have z42_0 : (eI H42 (fR D H42 11 a0 1) 0).toInt = (eI H36 (fR D H36 11 a0 1) 0).toInt := congrArg Int32.toInt (eA S36.1 ga0 P42 (by omega) (by decide))
              refine lv_iconst (v := 1) hx hb dX12_readHouse_158 (by decide) ?_
              exact retE_z hQ C S42 hr dX12_readHouse_159 (z01 (by omega) (by omega)) (by omega)
            · have b16 : ¬ (0 : Int32).toInt ≤ (0 : Int32).toInt := fun z9 => c16 (i_le.mpr z9)
              exact absurd b16 (by omega)
          · have b15 : ¬ v14.toInt = (0 : Int32).toInt := fun z9 => c15 (i_eq.mpr z9)
            refine lv_aload_n hx hb dX12_readHouse_71 rfl (lv_at hl 4 rfl) ?_
            refine lv_iconst (v := 0) hx hb dX12_readHouse_72 (by decide) ?_
            refine lv_bipush (v := 100) hx hb dX12_readHouse_73 (by decide) ?_
            have k_100 : (100 : Int32).toInt = 100 := by decide
            refine callV_Ei C S14 (c_X12_number l D G a0 (0 : Int32) (100 : Int32) ga0) kV_X12_109 ga0 (trivial) (by decide +kernel) dX12_readHouse_75 hl.1 rfl rfl (by decide) cd_X12_number ⟨Nat.le_of_ble_eq_true rfl, Nat.le_of_ble_eq_true rfl, Nat.le_of_ble_eq_true rfl, Nat.le_of_ble_eq_true rfl, Nat.le_of_ble_eq_true rfl⟩ (fun v43 H43 L43 S43 K43 q43 => ?_)
            have z43_0 : (eI H43 (fR D H43 11 a0 1) 0).toInt = (eI H14 (fR D H14 11 a0 1) 0).toInt := congrArg Int32.toInt (eK S14.1 ga0 K43 (by decide +kernel) (by decide +kernel) 0)
            refine lv_goto (tgt := 82) hx hb dX12_readHouse_78 (by decide) ?_
            refine lv_istore (lv' := [(5, .int v43), (4, .int z12), (3, .int v6), (2, .int v3), (1, .int v1), (0, .ref a0)]) hx hb dX12_readHouse_82 hl (by decide) rfl (fun ls hl => ?_)
            refine lv_iload hx hb dX12_readHouse_84 (lv_at hl 0 rfl) ?_
            refine lv_if_ge (tgt := 91) hx hb dX12_readHouse_86 (by decide) (fun c44 => ?_) (fun c44 => ?_)
            · have b44 : (0 : Int32).toInt ≤ v43.toInt := i_le.mp c44
              refine lv_aload_n hx hb dX12_readHouse_91 rfl (lv_at hl 5 rfl) ?_
              refine q_gr (T := TX12) C S43.1 ga0 1 kF_X12_13 dX12_readHouse_92 rfl rfl (by decide) rfl (by decide) rfl (fun g45 => ?_)
              refine lv_iload_n hx hb dX12_readHouse_95 rfl (lv_at hl 4 rfl) ?_
              refine lv_iconst (v := 0) hx hb dX12_readHouse_96 (by decide) ?_
              refine callS_Pi C S43.1 S43.2.1.2.1 (c_X12_houseAt l D G v1 (0 : Int32) (by omega) (by omega)) kS_X12_49 (trivial) dX12_readHouse_97 hl.1 cd_X12_houseAt ⟨Nat.le_of_ble_eq_true rfl, Nat.le_of_ble_eq_true rfl, Nat.le_of_ble_eq_true rfl, Nat.le_of_ble_eq_true rfl, Nat.le_of_ble_eq_true rfl⟩ (fun v46 q46 => ?_)
              refine lv_iload_n hx hb dX12_readHouse_100 rfl (lv_at hl 3 rfl) ?_
              have n47 : aN H43 (fR D H43 11 a0 1) = 2052 := len_31 S43.1 g45
              refine q_iast C S43 g45 (by omega) (by omega) dX12_readHouse_101 rfl (by decide) (by decide +kernel) (fun _ _ h => wk_low _ _ (by omega) (fun h9 => by omega) (fun h9 => by omega) (fun h9 => by omega) (fun j hj h9 => by omega) h) (fun H48 L48 S48 P48 => ?_) (hs := fun _ => Or.inl (by decide +kernel))
              try have z48_0 : (eI H48 (fR D H48 11 a0 1) 0).toInt = (eI H43 (fR D H43 11 a0 1) 0).toInt := congrArg Int32.toInt (eA S43.1 ga0 P48 (by omega) (by decide))
              refine lv_aload_n hx hb dX12_readHouse_102 rfl (lv_at hl 5 rfl) ?_
              refine q_gr (T := TX12) C S48.1 ga0 1 kF_X12_13 dX12_readHouse_103 rfl rfl (by decide) rfl (by decide) rfl (fun g49 => ?_)
              refine lv_iload_n hx hb dX12_readHouse_106 rfl (lv_at hl 4 rfl) ?_
              refine lv_iconst (v := 1) hx hb dX12_readHouse_107 (by decide) ?_
              have k_1 : (1 : Int32).toInt = 1 := by decide
              refine callS_Pi C S48.1 S48.2.1.2.1 (c_X12_houseAt l D G v1 (1 : Int32) (by omega) (by omega)) kS_X12_49 (trivial) dX12_readHouse_108 hl.1 cd_X12_houseAt ⟨Nat.le_of_ble_eq_true rfl, Nat.le_of_ble_eq_true rfl, Nat.le_of_ble_eq_true rfl, Nat.le_of_ble_eq_true rfl, Nat.le_of_ble_eq_true rfl⟩ (fun v50 q50 => ?_)
              refine lv_iload hx hb dX12_readHouse_111 (lv_at hl 1 rfl) ?_
              have n51 : aN H48 (fR D H48 11 a0 1) = 2052 := len_31 S48.1 g49
              refine q_iast C S48 g49 (by omega) (by omega) dX12_readHouse_113 rfl (by decide) (by decide +kernel) (fun _ _ h => wk_low _ _ (by omega) (fun h9 => by omega) (fun h9 => by omega) (fun h9 => by omega) (fun j hj h9 => by omega) h) (fun H52 L52 S52 P52 => ?_) (hs := fun _ => Or.inl (by decide +kernel))
              try have z52_0 : (eI H52 (fR D H52 11 a0 1) 0).toInt = (eI H48 (fR D H48 11 a0 1) 0).toInt := congrArg Int32.toInt (eA S48.1 ga0 P52 (by omega) (by decide))
              refine lv_aload_n hx hb dX12_readHouse_114 rfl (lv_at hl 5 rfl) ?_
              refine q_gr (T := TX12) C S52.1 ga0 1 kF_X12_13 dX12_readHouse_115 rfl rfl (by decide) rfl (by decide) rfl (fun g53 => ?_)
              refine lv_iload_n hx hb dX12_readHouse_118 rfl (lv_at hl 4 rfl) ?_
              refine lv_iconst (v := 2) hx hb dX12_readHouse_119 (by decide) ?_
              have k_2 : (2 : Int32).toInt = 2 := by decide
              refine callS_Pi C S52.1 S52.2.1.2.1 (c_X12_houseAt l D G v1 (2 : Int32) (by omega) (by omega)) kS_X12_49 (trivial) dX12_readHouse_120 hl.1 cd_X12_houseAt ⟨Nat.le_of_ble_eq_true rfl, Nat.le_of_ble_eq_true rfl, Nat.le_of_ble_eq_true rfl, Nat.le_of_ble_eq_true rfl, Nat.le_of_ble_eq_true rfl⟩ (fun v54 q54 => ?_)
              refine lv_iload_n hx hb dX12_readHouse_123 rfl (lv_at hl 2 rfl) ?_
              have n55 : aN H52 (fR D H52 11 a0 1) = 2052 := len_31 S52.1 g53
              refine q_iast C S52 g53 (by omega) (by omega) dX12_readHouse_124 rfl (by decide) (by decide +kernel) (fun _ _ h => wk_low _ _ (by omega) (fun h9 => by omega) (fun h9 => by omega) (fun h9 => by omega) (fun j hj h9 => by omega) h) (fun H56 L56 S56 P56 => ?_) (hs := fun _ => Or.inl (by decide +kernel))
              try have z56_0 : (eI H56 (fR D H56 11 a0 1) 0).toInt = (eI H52 (fR D H52 11 a0 1) 0).toInt := congrArg Int32.toInt (eA S52.1 ga0 P56 (by omega) (by decide))
              refine lv_aload_n hx hb dX12_readHouse_125 rfl (lv_at hl 5 rfl) ?_
              refine q_gr (T := TX12) C S56.1 ga0 1 kF_X12_13 dX12_readHouse_126 rfl rfl (by decide) rfl (by decide) rfl (fun g57 => ?_)
              refine lv_iload_n hx hb dX12_readHouse_129 rfl (lv_at hl 4 rfl) ?_
              refine lv_iconst (v := 3) hx hb dX12_readHouse_130 (by decide) ?_
              have k_3 : (3 : Int32).toInt = 3 := by decide
              refine callS_Pi C S56.1 S56.2.1.2.1 (c_X12_houseAt l D G v1 (3 : Int32) (by omega) (by omega)) kS_X12_49 (trivial) dX12_readHouse_131 hl.1 cd_X12_houseAt ⟨Nat.le_of_ble_eq_true rfl, Nat.le_of_ble_eq_true rfl, Nat.le_of_ble_eq_true rfl, Nat.le_of_ble_eq_true rfl, Nat.le_of_ble_eq_true rfl⟩ (fun v58 q58 => ?_)
              refine lv_iconst (v := 0) hx hb dX12_readHouse_134 (by decide) ?_
              have n59 : aN H56 (fR D H56 11 a0 1) = 2052 := len_31 S56.1 g57
              refine q_iast C S56 g57 (by omega) (by omega) dX12_readHouse_135 rfl (by decide) (by decide +kernel) (fun _ _ h => wk_low _ _ (by omega) (fun h9 => by omega) (fun h9 => by omega) (fun h9 => by omega) (fun j hj h9 => by omega) h) (fun H60 L60 S60 P60 => ?_) (hs := fun _ => Or.inl (by decide +kernel))
              try have z60_0 : (eI H60 (fR D H60 11 a0 1) 0).toInt = (eI H56 (fR D H56 11 a0 1) 0).toInt := congrArg Int32.toInt (eA S56.1 ga0 P60 (by omega) (by decide))
              refine lv_aload_n hx hb dX12_readHouse_136 rfl (lv_at hl 5 rfl) ?_
              refine q_gr (T := TX12) C S60.1 ga0 1 kF_X12_13 dX12_readHouse_137 rfl rfl (by decide) rfl (by decide) rfl (fun g61 => ?_)
              refine lv_iload_n hx hb dX12_readHouse_140 rfl (lv_at hl 4 rfl) ?_
              refine lv_iconst (v := 4) hx hb dX12_readHouse_141 (by decide) ?_
              have k_4 : (4 : Int32).toInt = 4 := by decide
              refine callS_Pi C S60.1 S60.2.1.2.1 (c_X12_houseAt l D G v1 (4 : Int32) (by omega) (by omega)) kS_X12_49 (trivial) dX12_readHouse_142 hl.1 cd_X12_houseAt ⟨Nat.le_of_ble_eq_true rfl, Nat.le_of_ble_eq_true rfl, Nat.le_of_ble_eq_true rfl, Nat.le_of_ble_eq_true rfl, Nat.le_of_ble_eq_true rfl⟩ (fun v62 q62 => ?_)
              refine lv_iload hx hb dX12_readHouse_145 (lv_at hl 0 rfl) ?_
              have n63 : aN H60 (fR D H60 11 a0 1) = 2052 := len_31 S60.1 g61
              refine q_iast C S60 g61 (by omega) (by omega) dX12_readHouse_147 rfl (by decide) (by decide +kernel) (fun _ _ h => wk_low _ _ (by omega) (fun h9 => by omega) (fun h9 => by omega) (fun h9 => by omega) (fun j hj h9 => by omega) h) (fun H64 L64 S64 P64 => ?_) (hs := fun _ => Or.inl (by decide +kernel))
              try have z64_0 : (eI H64 (fR D H64 11 a0 1) 0).toInt = (eI H60 (fR D H60 11 a0 1) 0).toInt := congrArg Int32.toInt (eA S60.1 ga0 P64 (by omega) (by decide))
              refine lv_aload_n hx hb dX12_readHouse_148 rfl (lv_at hl 5 rfl) ?_
              refine q_gr (T := TX12) C S64.1 ga0 1 kF_X12_13 dX12_readHouse_149 rfl rfl (by decide) rfl (by decide) rfl (fun g65 => ?_)
              refine lv_iconst (v := 0) hx hb dX12_readHouse_152 (by decide) ?_
              refine lv_dup2_11 hx hb dX12_readHouse_153 rfl rfl ?_
              have n66 : aN H64 (fR D H64 11 a0 1) = 2052 := len_31 S64.1 g65
              refine q_iald C S64.1 g65 (by omega) (by omega) dX12_readHouse_154 rfl (by decide) ?_
              refine lv_topi (fun v67 ev67 => ?_)
              have wv67 : v67.toInt = (eI H64 (fR D H64 11 a0 1) 0).toInt := by rw [ev67]; rfl
              refine lv_iconst (v := 1) hx hb dX12_readHouse_155 (by decide) ?_
              refine lv_iadd hx hb dX12_readHouse_156 ?_
              refine lv_topi (fun v68 ev68 => ?_)
              have f69 : v68.toInt = v67.toInt + (1 : Int32).toInt := by rw [ev68]; exact i_add (by omega) (by omega)
              refine q_iast C S64 g65 (by omega) (by omega) dX12_readHouse_157 rfl (by decide) (by decide +kernel) (fun _ _ h => wk_low _ _ (by omega) (fun h9 => by omega) (fun h9 => by omega) (fun h9 => by omega) (fun j hj h9 => by omega) h) (fun H70 L70 S70 P70 => ?_) (hs := fun _ => Or.inl (by decide +kernel))
              try have z70_0 : (eI H70 (fR D H70 11 a0 1) 0).toInt = (eI H64 (fR D H64 11 a0 1) 0).toInt := congrArg Int32.toInt (eA S64.1 ga0 P70 (by omega) (by decide))
              refine lv_iconst (v := 1) hx hb dX12_readHouse_158 (by decide) ?_
              exact retE_z hQ C S70 hr dX12_readHouse_159 (z01 (by omega) (by omega)) (by omega)
            · have b44 : ¬ (0 : Int32).toInt ≤ v43.toInt := fun z9 => c44 (i_le.mpr z9)
              refine lv_iconst (v := 0) hx hb dX12_readHouse_89 (by decide) ?_
              exact retE_z hQ C S43 hr dX12_readHouse_90 (z01 (by omega) (by omega)) (by omega)
        refine lv_if_eq (tgt := 59) hx hb dX12_readHouse_52 (by decide) (fun c10 => ?_) (fun c10 => ?_)
        · have b10 : v9.toInt = (0 : Int32).toInt := i_eq.mp c10
          refine lv_iconst (v := 0) hx hb dX12_readHouse_59 (by decide) ?_
          exact J11 (0 : Int32) (by omega)
        · have b10 : ¬ v9.toInt = (0 : Int32).toInt := fun z9 => c10 (i_eq.mpr z9)
          refine lv_iconst (v := 1) hx hb dX12_readHouse_55 (by decide) ?_
          refine lv_goto (tgt := 60) hx hb dX12_readHouse_56 (by decide) ?_
          have k_1 : (1 : Int32).toInt = 1 := by decide
          exact J11 (1 : Int32) (by omega)
      · have b7 : ¬ (0 : Int32).toInt ≤ v6.toInt := fun z9 => c7 (i_le.mpr z9)
        refine lv_iconst (v := 0) hx hb dX12_readHouse_44 (by decide) ?_
        exact retE_z hQ C S6 hr dX12_readHouse_45 (z01 (by omega) (by omega)) (by omega)
    · have b4 : ¬ (0 : Int32).toInt ≤ v3.toInt := fun z9 => c4 (i_le.mpr z9)
      refine lv_iconst (v := -1) hx hb dX12_readHouse_26 (by decide) ?_
      refine lv_goto (tgt := 39) hx hb dX12_readHouse_27 (by decide) ?_
      refine lv_istore_n (lv' := [(3, .int (-1 : Int32)), (2, .int v3), (1, .int v1), (0, .ref a0)]) hx hb dX12_readHouse_39 rfl hl (by decide) rfl (fun ls hl => ?_)
      refine lv_iload_n hx hb dX12_readHouse_40 rfl (lv_at hl 0 rfl) ?_
      have k_m1 : (-1 : Int32).toInt = -1 := by decide
      refine lv_if_ge (tgt := 46) hx hb dX12_readHouse_41 (by decide) (fun c71 => ?_) (fun c71 => ?_)
      · have b71 : (0 : Int32).toInt ≤ (-1 : Int32).toInt := i_le.mp c71
        exact absurd b71 (by omega)
      · have b71 : ¬ (0 : Int32).toInt ≤ (-1 : Int32).toInt := fun z9 => c71 (i_le.mpr z9)
        refine lv_iconst (v := 0) hx hb dX12_readHouse_44 (by decide) ?_
        exact retE_z hQ C S3 hr dX12_readHouse_45 (z01 (by omega) (by omega)) (by omega)
  · have b2 : v1.toInt = (6 : Int32).toInt := i_eq.mp c2
    refine lv_iconst (v := 0) hx hb dX12_readHouse_11 (by decide) ?_
    have k_0 : (0 : Int32).toInt = 0 := by decide
    exact retE_z hQ C S hr dX12_readHouse_12 (z01 (by omega) (by omega)) (by omega)

set_option maxRecDepth 100000 in
set_option maxHeartbeats 4000000 in
theorem c_X12_readSees (l : Launch) (D : DD) (G : Nat → Nat) (a0 : Nat) (ga0 : G a0 = 30) : CE l D G yX12_readSees cX12_readSees 3 (some .boolean) 3 [.ref a0] (fun _ => True) [(30, 10), (30, 12), (31, 0)] (xI (fun H r H1 => 0 ≤ r.toInt ∧ r.toInt ≤ 1)) := by
  refine enter (by decide) (Nat.le_of_ble_eq_true rfl) ?_
  intro p e s m args below meth c ls Q hA hQ C hr hO hpre hl
  have hx := C.1
  have hb := C.2.1
  have S : Sd D G [(30, 10), (30, 12), (31, 0)] s.heap s.heap [] := Sd.start hO
  have hl : lv_has ls 3 [(0, .ref a0)] := hl
  refine lv_aload_n hx hb dX12_readSees_0 rfl (lv_at hl 0 rfl) ?_
  refine lv_iconst (v := 0) hx hb dX12_readSees_1 (by decide) ?_
  refine lv_iconst (v := 4) hx hb dX12_readSees_2 (by decide) ?_
  have k_0 : (0 : Int32).toInt = 0 := by decide
  have k_4 : (4 : Int32).toInt = 4 := by decide
  refine callV_Ei C S (c_X12_number l D G a0 (0 : Int32) (4 : Int32) ga0) kV_X12_109 ga0 (trivial) (by decide +kernel) dX12_readSees_3 hl.1 rfl rfl (by decide) cd_X12_number ⟨Nat.le_of_ble_eq_true rfl, Nat.le_of_ble_eq_true rfl, Nat.le_of_ble_eq_true rfl, Nat.le_of_ble_eq_true rfl, Nat.le_of_ble_eq_true rfl⟩ (fun v1 H1 L1 S1 K1 q1 => ?_)
  refine lv_istore_n (lv' := [(1, .int v1), (0, .ref a0)]) hx hb dX12_readSees_6 rfl hl (by decide) rfl (fun ls hl => ?_)
  refine lv_iload_n hx hb dX12_readSees_7 rfl (lv_at hl 0 rfl) ?_
  refine lv_if_ge (tgt := 15) hx hb dX12_readSees_8 (by decide) (fun c2 => ?_) (fun c2 => ?_)
  · have b2 : (0 : Int32).toInt ≤ v1.toInt := i_le.mp c2
    refine lv_aload_n hx hb dX12_readSees_15 rfl (lv_at hl 1 rfl) ?_
    refine lv_iconst (v := 0) hx hb dX12_readSees_16 (by decide) ?_
    refine lv_aload_n hx hb dX12_readSees_17 rfl (lv_at hl 1 rfl) ?_
    refine callV_Pi C S1.1 S1.2.1.2.1 (c_X12_houses l D G a0 ga0) kV_X12_59 ga0 (trivial) dX12_readSees_18 hl.1 rfl rfl (by decide) cd_X12_houses ⟨Nat.le_of_ble_eq_true rfl, Nat.le_of_ble_eq_true rfl, Nat.le_of_ble_eq_true rfl, Nat.le_of_ble_eq_true rfl, Nat.le_of_ble_eq_true rfl⟩ (fun v3 q3 => ?_)
    refine lv_iconst (v := 1) hx hb dX12_readSees_21 (by decide) ?_
    have k_1 : (1 : Int32).toInt = 1 := by decide
    refine lv_isub hx hb dX12_readSees_22 ?_
    refine lv_topi (fun v4 ev4 => ?_)
    have f5 : v4.toInt = v3.toInt - (1 : Int32).toInt := by rw [ev4]; exact i_sub (by omega) (by omega)
    refine callV_Ei C S1 (c_X12_number l D G a0 (0 : Int32) v4 ga0) kV_X12_109 ga0 (trivial) (by decide +kernel) dX12_readSees_23 hl.1 rfl rfl (by decide) cd_X12_number ⟨Nat.le_of_ble_eq_true rfl, Nat.le_of_ble_eq_true rfl, Nat.le_of_ble_eq_true rfl, Nat.le_of_ble_eq_true rfl, Nat.le_of_ble_eq_true rfl⟩ (fun v6 H6 L6 S6 K6 q6 => ?_)
    refine lv_istore_n (lv' := [(2, .int v6), (1, .int v1), (0, .ref a0)]) hx hb dX12_readSees_26 rfl hl (by decide) rfl (fun ls hl => ?_)
    refine lv_iload_n hx hb dX12_readSees_27 rfl (lv_at hl 0 rfl) ?_
    refine lv_if_lt (tgt := 47) hx hb dX12_readSees_28 (by decide) (fun c7 => ?_) (fun c7 => ?_)
    · have b7 : v6.toInt < (0 : Int32).toInt := i_lt.mp c7
      refine lv_iload_n hx hb dX12_readSees_47 rfl (lv_at hl 0 rfl) ?_
      refine lv_if_lt (tgt := 55) hx hb dX12_readSees_48 (by decide) (fun c8 => ?_) (fun c8 => ?_)
      · have b8 : v6.toInt < (0 : Int32).toInt := i_lt.mp c8
        refine lv_iconst (v := 0) hx hb dX12_readSees_55 (by decide) ?_
        exact retE_z hQ C S6 hr dX12_readSees_56 (z01 (by omega) (by omega)) (by omega)
      · have b8 : ¬ v6.toInt < (0 : Int32).toInt := fun z9 => c8 (i_lt.mpr z9)
        exact absurd b8 (by omega)
    · have b7 : ¬ v6.toInt < (0 : Int32).toInt := fun z9 => c7 (i_lt.mpr z9)
      refine lv_aload_n hx hb dX12_readSees_31 rfl (lv_at hl 2 rfl) ?_
      refine q_gr (T := TX12) C S6.1 ga0 1 kF_X12_13 dX12_readSees_32 rfl rfl (by decide) rfl (by decide) rfl (fun g9 => ?_)
      refine lv_iload_n hx hb dX12_readSees_35 rfl (lv_at hl 0 rfl) ?_
      refine lv_iconst (v := 3) hx hb dX12_readSees_36 (by decide) ?_
      have k_3 : (3 : Int32).toInt = 3 := by decide
      refine callS_Pi C S6.1 S6.2.1.2.1 (c_X12_houseAt l D G v6 (3 : Int32) (by omega) (by omega)) kS_X12_49 (trivial) dX12_readSees_37 hl.1 cd_X12_houseAt ⟨Nat.le_of_ble_eq_true rfl, Nat.le_of_ble_eq_true rfl, Nat.le_of_ble_eq_true rfl, Nat.le_of_ble_eq_true rfl, Nat.le_of_ble_eq_true rfl⟩ (fun v10 q10 => ?_)
      refine lv_dup2_11 hx hb dX12_readSees_40 rfl rfl ?_
      have n11 : aN H6 (fR D H6 11 a0 1) = 2052 := len_31 S6.1 g9
      refine q_iald C S6.1 g9 (by omega) (by omega) dX12_readSees_41 rfl (by decide) ?_
      refine lv_topi (fun v12 ev12 => ?_)
      refine lv_iconst (v := 1) hx hb dX12_readSees_42 (by decide) ?_
      refine lv_iload_n hx hb dX12_readSees_43 rfl (lv_at hl 1 rfl) ?_
      refine lv_ishl hx hb dX12_readSees_44 ?_
      refine lv_topi (fun v13 ev13 => ?_)
      refine lv_ior hx hb dX12_readSees_45 ?_
      refine lv_topi (fun v14 ev14 => ?_)
      refine q_iast C S6 g9 (by omega) (by omega) dX12_readSees_46 rfl (by decide) (by decide +kernel) (fun _ _ h => wk_low _ _ (by omega) (fun h9 => by omega) (fun h9 => by omega) (fun h9 => by omega) (fun j hj h9 => by omega) h) (fun H15 L15 S15 P15 => ?_) (hs := fun _ => Or.inr (vy_no (by omega) (by omega) (by omega) (by omega) (fun h9 hh9 => by omega) (fun j9 hj9 => by omega)))
      refine lv_iload_n hx hb dX12_readSees_47 rfl (lv_at hl 0 rfl) ?_
      refine lv_if_lt (tgt := 55) hx hb dX12_readSees_48 (by decide) (fun c16 => ?_) (fun c16 => ?_)
      · have b16 : v6.toInt < (0 : Int32).toInt := i_lt.mp c16
        exact absurd b16 (by omega)
      · have b16 : ¬ v6.toInt < (0 : Int32).toInt := fun z9 => c16 (i_lt.mpr z9)
        refine lv_iconst (v := 1) hx hb dX12_readSees_51 (by decide) ?_
        refine lv_goto (tgt := 56) hx hb dX12_readSees_52 (by decide) ?_
        exact retE_z hQ C S15 hr dX12_readSees_56 (z01 (by omega) (by omega)) (by omega)
  · have b2 : ¬ (0 : Int32).toInt ≤ v1.toInt := fun z9 => c2 (i_le.mpr z9)
    refine lv_iconst (v := -1) hx hb dX12_readSees_11 (by decide) ?_
    refine lv_goto (tgt := 26) hx hb dX12_readSees_12 (by decide) ?_
    refine lv_istore_n (lv' := [(2, .int (-1 : Int32)), (1, .int v1), (0, .ref a0)]) hx hb dX12_readSees_26 rfl hl (by decide) rfl (fun ls hl => ?_)
    refine lv_iload_n hx hb dX12_readSees_27 rfl (lv_at hl 0 rfl) ?_
    have k_m1 : (-1 : Int32).toInt = -1 := by decide
    refine lv_if_lt (tgt := 47) hx hb dX12_readSees_28 (by decide) (fun c17 => ?_) (fun c17 => ?_)
    · have b17 : (-1 : Int32).toInt < (0 : Int32).toInt := i_lt.mp c17
      refine lv_iload_n hx hb dX12_readSees_47 rfl (lv_at hl 0 rfl) ?_
      refine lv_if_lt (tgt := 55) hx hb dX12_readSees_48 (by decide) (fun c18 => ?_) (fun c18 => ?_)
      · have b18 : (-1 : Int32).toInt < (0 : Int32).toInt := i_lt.mp c18
        refine lv_iconst (v := 0) hx hb dX12_readSees_55 (by decide) ?_
        exact retE_z hQ C S1 hr dX12_readSees_56 (z01 (by omega) (by omega)) (by omega)
      · have b18 : ¬ (-1 : Int32).toInt < (0 : Int32).toInt := fun z9 => c18 (i_lt.mpr z9)
        exact absurd b18 (by omega)
    · have b17 : ¬ (-1 : Int32).toInt < (0 : Int32).toInt := fun z9 => c17 (i_lt.mpr z9)
      exact absurd b17 (by omega)

set_option maxRecDepth 100000 in
set_option maxHeartbeats 4000000 in
theorem c_X12_kindTold (l : Launch) (D : DD) (G : Nat → Nat) (a0 : Nat) (ga0 : G a0 = 30) : CE l D G yX12_kindTold cX12_kindTold 1 (some .int) 5 [.ref a0] (fun _ => True) [(30, 10), (30, 12)] (xI (fun H r H1 => -1 ≤ r.toInt ∧ r.toInt ≤ 3)) := by
  refine enter (by decide) (Nat.le_of_ble_eq_true rfl) ?_
  intro p e s m args below meth c ls Q hA hQ C hr hO hpre hl
  have hx := C.1
  have hb := C.2.1
  have S : Sd D G [(30, 10), (30, 12)] s.heap s.heap [] := Sd.start hO
  have hl : lv_has ls 1 [(0, .ref a0)] := hl
  refine lv_aload_n hx hb dX12_kindTold_0 rfl (lv_at hl 0 rfl) ?_
  refine callV_Ev C S (c_X12_letters l D G a0 ga0) kV_X12_102 ga0 (trivial) (by decide +kernel) dX12_kindTold_1 hl.1 rfl rfl (by decide) cd_X12_letters ⟨Nat.le_of_ble_eq_true rfl, Nat.le_of_ble_eq_true rfl, Nat.le_of_ble_eq_true rfl, Nat.le_of_ble_eq_true rfl, Nat.le_of_ble_eq_true rfl⟩ (fun H1 L1 S1 K1 q1 => ?_)
  refine lv_aload_n hx hb dX12_kindTold_4 rfl (lv_at hl 0 rfl) ?_
  refine q_lds C ks_X12_125 dX12_kindTold_5 (fun a2 ha2 wa2 => ?_)
  refine callV_Pi C S1.1 S1.2.1.2.1 (c_X12_isWord l D G a0 a2 4 ga0 ha2) kV_X12_105 ga0 (trivial) dX12_kindTold_7 hl.1 rfl rfl (by decide) cd_X12_isWord ⟨Nat.le_of_ble_eq_true rfl, Nat.le_of_ble_eq_true rfl, Nat.le_of_ble_eq_true rfl, Nat.le_of_ble_eq_true rfl, Nat.le_of_ble_eq_true rfl⟩ (fun v3 q3 => ?_)
  have k_0 : (0 : Int32).toInt = 0 := by decide
  refine lv_if_eq (tgt := 17) hx hb dX12_kindTold_10 (by decide) (fun c4 => ?_) (fun c4 => ?_)
  · have b4 : v3.toInt = (0 : Int32).toInt := i_eq.mp c4
    refine lv_aload_n hx hb dX12_kindTold_17 rfl (lv_at hl 0 rfl) ?_
    refine q_lds C ks_X12_127 dX12_kindTold_18 (fun a5 ha5 wa5 => ?_)
    refine callV_Pi C S1.1 S1.2.1.2.1 (c_X12_isWord l D G a0 a5 4 ga0 ha5) kV_X12_105 ga0 (trivial) dX12_kindTold_20 hl.1 rfl rfl (by decide) cd_X12_isWord ⟨Nat.le_of_ble_eq_true rfl, Nat.le_of_ble_eq_true rfl, Nat.le_of_ble_eq_true rfl, Nat.le_of_ble_eq_true rfl, Nat.le_of_ble_eq_true rfl⟩ (fun v6 q6 => ?_)
    refine lv_if_eq (tgt := 30) hx hb dX12_kindTold_23 (by decide) (fun c7 => ?_) (fun c7 => ?_)
    · have b7 : v6.toInt = (0 : Int32).toInt := i_eq.mp c7
      refine lv_aload_n hx hb dX12_kindTold_30 rfl (lv_at hl 0 rfl) ?_
      refine q_lds C ks_X12_129 dX12_kindTold_31 (fun a8 ha8 wa8 => ?_)
      refine callV_Pi C S1.1 S1.2.1.2.1 (c_X12_isWord l D G a0 a8 5 ga0 ha8) kV_X12_105 ga0 (trivial) dX12_kindTold_33 hl.1 rfl rfl (by decide) cd_X12_isWord ⟨Nat.le_of_ble_eq_true rfl, Nat.le_of_ble_eq_true rfl, Nat.le_of_ble_eq_true rfl, Nat.le_of_ble_eq_true rfl, Nat.le_of_ble_eq_true rfl⟩ (fun v9 q9 => ?_)
      refine lv_if_eq (tgt := 43) hx hb dX12_kindTold_36 (by decide) (fun c10 => ?_) (fun c10 => ?_)
      · have b10 : v9.toInt = (0 : Int32).toInt := i_eq.mp c10
        refine lv_aload_n hx hb dX12_kindTold_43 rfl (lv_at hl 0 rfl) ?_
        refine q_lds C ks_X12_131 dX12_kindTold_44 (fun a11 ha11 wa11 => ?_)
        refine callV_Pi C S1.1 S1.2.1.2.1 (c_X12_isWord l D G a0 a11 3 ga0 ha11) kV_X12_105 ga0 (trivial) dX12_kindTold_46 hl.1 rfl rfl (by decide) cd_X12_isWord ⟨Nat.le_of_ble_eq_true rfl, Nat.le_of_ble_eq_true rfl, Nat.le_of_ble_eq_true rfl, Nat.le_of_ble_eq_true rfl, Nat.le_of_ble_eq_true rfl⟩ (fun v12 q12 => ?_)
        refine lv_if_eq (tgt := 56) hx hb dX12_kindTold_49 (by decide) (fun c13 => ?_) (fun c13 => ?_)
        · have b13 : v12.toInt = (0 : Int32).toInt := i_eq.mp c13
          refine lv_iconst (v := -1) hx hb dX12_kindTold_56 (by decide) ?_
          have k_m1 : (-1 : Int32).toInt = -1 := by decide
          exact retE_i hQ C S1 hr dX12_kindTold_57 (by omega)
        · have b13 : ¬ v12.toInt = (0 : Int32).toInt := fun z9 => c13 (i_eq.mpr z9)
          refine lv_iconst (v := 3) hx hb dX12_kindTold_52 (by decide) ?_
          refine lv_goto (tgt := 57) hx hb dX12_kindTold_53 (by decide) ?_
          have k_3 : (3 : Int32).toInt = 3 := by decide
          exact retE_i hQ C S1 hr dX12_kindTold_57 (by omega)
      · have b10 : ¬ v9.toInt = (0 : Int32).toInt := fun z9 => c10 (i_eq.mpr z9)
        refine lv_iconst (v := 2) hx hb dX12_kindTold_39 (by decide) ?_
        refine lv_goto (tgt := 57) hx hb dX12_kindTold_40 (by decide) ?_
        have k_2 : (2 : Int32).toInt = 2 := by decide
        exact retE_i hQ C S1 hr dX12_kindTold_57 (by omega)
    · have b7 : ¬ v6.toInt = (0 : Int32).toInt := fun z9 => c7 (i_eq.mpr z9)
      refine lv_iconst (v := 1) hx hb dX12_kindTold_26 (by decide) ?_
      refine lv_goto (tgt := 57) hx hb dX12_kindTold_27 (by decide) ?_
      have k_1 : (1 : Int32).toInt = 1 := by decide
      exact retE_i hQ C S1 hr dX12_kindTold_57 (by omega)
  · have b4 : ¬ v3.toInt = (0 : Int32).toInt := fun z9 => c4 (i_eq.mpr z9)
    refine lv_iconst (v := 0) hx hb dX12_kindTold_13 (by decide) ?_
    refine lv_goto (tgt := 57) hx hb dX12_kindTold_14 (by decide) ?_
    exact retE_i hQ C S1 hr dX12_kindTold_57 (by omega)

set_option maxRecDepth 100000 in
set_option maxHeartbeats 4000000 in
theorem c_X12_readHearth (l : Launch) (D : DD) (G : Nat → Nat) (a0 : Nat) (ga0 : G a0 = 30) : CE l D G yX12_readHearth cX12_readHearth 7 (some .boolean) 6 [.ref a0] (fun _ => True) [(30, 10), (30, 12), (31, 0), (31, 1)] (xI (fun H r H1 => 0 ≤ r.toInt ∧ r.toInt ≤ 1)) := by
  refine enter (by decide) (Nat.le_of_ble_eq_true rfl) ?_
  intro p e s m args below meth c ls Q hA hQ C hr hO hpre hl
  have hx := C.1
  have hb := C.2.1
  have S : Sd D G [(30, 10), (30, 12), (31, 0), (31, 1)] s.heap s.heap [] := Sd.start hO
  have hl : lv_has ls 7 [(0, .ref a0)] := hl
  refine lv_aload_n hx hb dX12_readHearth_0 rfl (lv_at hl 0 rfl) ?_
  refine callV_Pi C S.1 S.2.1.2.1 (c_X12_hearths_w l D G a0 ga0) kV_X12_67 ga0 (trivial) dX12_readHearth_1 hl.1 rfl rfl (by decide) cd_X12_hearths ⟨Nat.le_of_ble_eq_true rfl, Nat.le_of_ble_eq_true rfl, Nat.le_of_ble_eq_true rfl, Nat.le_of_ble_eq_true rfl, Nat.le_of_ble_eq_true rfl⟩ (fun v1 q1 => ?_)
  refine lv_istore_n (lv' := [(1, .int v1), (0, .ref a0)]) hx hb dX12_readHearth_4 rfl hl (by decide) rfl (fun ls hl => ?_)
  refine lv_iload_n hx hb dX12_readHearth_5 rfl (lv_at hl 0 rfl) ?_
  refine lv_bipush (v := 12) hx hb dX12_readHearth_6 (by decide) ?_
  have k_12 : (12 : Int32).toInt = 12 := by decide
  refine lv_icmp_ne (tgt := 13) hx hb dX12_readHearth_8 (by decide) (fun c2 => ?_) (fun c2 => ?_)
  · have b2 : ¬ v1.toInt = (12 : Int32).toInt := fun z9 => c2 (i_eq.mpr z9)
    refine lv_aload_n hx hb dX12_readHearth_13 rfl (lv_at hl 1 rfl) ?_
    refine callV_Ei C S (c_X12_kindTold l D G a0 ga0) kV_X12_133 ga0 (trivial) (by decide +kernel) dX12_readHearth_14 hl.1 rfl rfl (by decide) cd_X12_kindTold ⟨Nat.le_of_ble_eq_true rfl, Nat.le_of_ble_eq_true rfl, Nat.le_of_ble_eq_true rfl, Nat.le_of_ble_eq_true rfl, Nat.le_of_ble_eq_true rfl⟩ (fun v3 H3 L3 S3 K3 q3 => ?_)
    have z3_1 : (eI H3 (fR D H3 11 a0 1) 1).toInt = (eI s.heap (fR D s.heap 11 a0 1) 1).toInt := congrArg Int32.toInt (eK S.1 ga0 K3 (by decide +kernel) (by decide +kernel) 1)
    refine lv_istore_n (lv' := [(2, .int v3), (1, .int v1), (0, .ref a0)]) hx hb dX12_readHearth_17 rfl hl (by decide) rfl (fun ls hl => ?_)
    refine lv_iload_n hx hb dX12_readHearth_18 rfl (lv_at hl 0 rfl) ?_
    have k_0 : (0 : Int32).toInt = 0 := by decide
    refine lv_if_ge (tgt := 26) hx hb dX12_readHearth_19 (by decide) (fun c4 => ?_) (fun c4 => ?_)
    · have b4 : (0 : Int32).toInt ≤ v3.toInt := i_le.mp c4
      refine lv_aload_n hx hb dX12_readHearth_26 rfl (lv_at hl 2 rfl) ?_
      refine q_lds C ks_X12_136 dX12_readHearth_27 (fun a5 ha5 wa5 => ?_)
      refine lv_iconst (v := 0) hx hb dX12_readHearth_29 (by decide) ?_
      refine lv_aload_n hx hb dX12_readHearth_30 rfl (lv_at hl 2 rfl) ?_
      refine callV_Pi C S3.1 S3.2.1.2.1 (c_X12_houses l D G a0 ga0) kV_X12_59 ga0 (trivial) dX12_readHearth_31 hl.1 rfl rfl (by decide) cd_X12_houses ⟨Nat.le_of_ble_eq_true rfl, Nat.le_of_ble_eq_true rfl, Nat.le_of_ble_eq_true rfl, Nat.le_of_ble_eq_true rfl, Nat.le_of_ble_eq_true rfl⟩ (fun v6 q6 => ?_)
      refine lv_iconst (v := 1) hx hb dX12_readHearth_34 (by decide) ?_
      have k_1 : (1 : Int32).toInt = 1 := by decide
      refine lv_isub hx hb dX12_readHearth_35 ?_
      refine lv_topi (fun v7 ev7 => ?_)
      have f8 : v7.toInt = v6.toInt - (1 : Int32).toInt := by rw [ev7]; exact i_sub (by omega) (by omega)
      refine callV_Ei C S3 (c_X12_after l D G a0 a5 2 (0 : Int32) v7 ga0 ha5) kV_X12_114 ga0 (trivial) (by decide +kernel) dX12_readHearth_36 hl.1 rfl rfl (by decide) cd_X12_after ⟨Nat.le_of_ble_eq_true rfl, Nat.le_of_ble_eq_true rfl, Nat.le_of_ble_eq_true rfl, Nat.le_of_ble_eq_true rfl, Nat.le_of_ble_eq_true rfl⟩ (fun v9 H9 L9 S9 K9 q9 => ?_)
      have z9_1 : (eI H9 (fR D H9 11 a0 1) 1).toInt = (eI H3 (fR D H3 11 a0 1) 1).toInt := congrArg Int32.toInt (eK S3.1 ga0 K9 (by decide +kernel) (by decide +kernel) 1)
      refine lv_istore_n (lv' := [(3, .int v9), (2, .int v3), (1, .int v1), (0, .ref a0)]) hx hb dX12_readHearth_39 rfl hl (by decide) rfl (fun ls hl => ?_)
      refine lv_iload_n hx hb dX12_readHearth_40 rfl (lv_at hl 0 rfl) ?_
      refine lv_if_lt (tgt := 57) hx hb dX12_readHearth_41 (by decide) (fun c10 => ?_) (fun c10 => ?_)
      · have b10 : v9.toInt < (0 : Int32).toInt := i_lt.mp c10
        refine lv_iconst (v := 0) hx hb dX12_readHearth_57 (by decide) ?_
        exact retE_z hQ C S9 hr dX12_readHearth_58 (z01 (by omega) (by omega)) (by omega)
      · have b10 : ¬ v9.toInt < (0 : Int32).toInt := fun z9 => c10 (i_lt.mpr z9)
        refine lv_aload_n hx hb dX12_readHearth_44 rfl (lv_at hl 3 rfl) ?_
        refine lv_iload_n hx hb dX12_readHearth_45 rfl (lv_at hl 0 rfl) ?_
        refine callV_Pi C S9.1 S9.2.1.2.1 (c_X12_hearthsOf l D G a0 v9 ga0) kV_X12_138 ga0 (trivial) dX12_readHearth_46 hl.1 rfl rfl (by decide) cd_X12_hearthsOf ⟨Nat.le_of_ble_eq_true rfl, Nat.le_of_ble_eq_true rfl, Nat.le_of_ble_eq_true rfl, Nat.le_of_ble_eq_true rfl, Nat.le_of_ble_eq_true rfl⟩ (fun v11 q11 => ?_)
        refine callS_Pi C S9.1 S9.2.1.2.1 (c_J6_bitCount_0f7a4 l D G v11) kS_X12_142 (trivial) dX12_readHearth_49 hl.1 cd_J6_bitCount_0f7a4 ⟨Nat.le_of_ble_eq_true rfl, Nat.le_of_ble_eq_true rfl, Nat.le_of_ble_eq_true rfl, Nat.le_of_ble_eq_true rfl, Nat.le_of_ble_eq_true rfl⟩ (fun v12 q12 => ?_)
        refine lv_bipush (v := 6) hx hb dX12_readHearth_52 (by decide) ?_
        have k_6 : (6 : Int32).toInt = 6 := by decide
        refine lv_icmp_ne (tgt := 59) hx hb dX12_readHearth_54 (by decide) (fun c13 => ?_) (fun c13 => ?_)
        · have b13 : ¬ v12.toInt = (6 : Int32).toInt := fun z9 => c13 (i_eq.mpr z9)
          refine lv_aload_n hx hb dX12_readHearth_59 rfl (lv_at hl 3 rfl) ?_
          refine q_lds C ks_X12_147 dX12_readHearth_60 (fun a14 ha14 wa14 => ?_)
          refine lv_iconst (v := 0) hx hb dX12_readHearth_62 (by decide) ?_
          refine lv_bipush (v := 9) hx hb dX12_readHearth_63 (by decide) ?_
          have k_9 : (9 : Int32).toInt = 9 := by decide
          refine callV_Ei C S9 (c_X12_after l D G a0 a14 4 (0 : Int32) (9 : Int32) ga0 ha14) kV_X12_114 ga0 (trivial) (by decide +kernel) dX12_readHearth_65 hl.1 rfl rfl (by decide) cd_X12_after ⟨Nat.le_of_ble_eq_true rfl, Nat.le_of_ble_eq_true rfl, Nat.le_of_ble_eq_true rfl, Nat.le_of_ble_eq_true rfl, Nat.le_of_ble_eq_true rfl⟩ (fun v15 H15 L15 S15 K15 q15 => ?_)
          have z15_1 : (eI H15 (fR D H15 11 a0 1) 1).toInt = (eI H9 (fR D H9 11 a0 1) 1).toInt := congrArg Int32.toInt (eK S9.1 ga0 K15 (by decide +kernel) (by decide +kernel) 1)
          refine lv_istore (lv' := [(4, .int v15), (3, .int v9), (2, .int v3), (1, .int v1), (0, .ref a0)]) hx hb dX12_readHearth_68 hl (by decide) rfl (fun ls hl => ?_)
          refine lv_iload hx hb dX12_readHearth_70 (lv_at hl 0 rfl) ?_
          refine lv_if_ge (tgt := 79) hx hb dX12_readHearth_72 (by decide) (fun c16 => ?_) (fun c16 => ?_)
          · have b16 : (0 : Int32).toInt ≤ v15.toInt := i_le.mp c16
            refine lv_aload_n hx hb dX12_readHearth_79 rfl (lv_at hl 4 rfl) ?_
            refine q_lds C ks_X12_149 dX12_readHearth_80 (fun a17 ha17 wa17 => ?_)
            refine lv_iconst (v := 1) hx hb dX12_readHearth_82 (by decide) ?_
            refine lv_bipush (v := 9) hx hb dX12_readHearth_83 (by decide) ?_
            refine callV_Ei C S15 (c_X12_after l D G a0 a17 4 (1 : Int32) (9 : Int32) ga0 ha17) kV_X12_114 ga0 (trivial) (by decide +kernel) dX12_readHearth_85 hl.1 rfl rfl (by decide) cd_X12_after ⟨Nat.le_of_ble_eq_true rfl, Nat.le_of_ble_eq_true rfl, Nat.le_of_ble_eq_true rfl, Nat.le_of_ble_eq_true rfl, Nat.le_of_ble_eq_true rfl⟩ (fun v18 H18 L18 S18 K18 q18 => ?_)
            have z18_1 : (eI H18 (fR D H18 11 a0 1) 1).toInt = (eI H15 (fR D H15 11 a0 1) 1).toInt := congrArg Int32.toInt (eK S15.1 ga0 K18 (by decide +kernel) (by decide +kernel) 1)
            refine lv_istore (lv' := [(5, .int v18), (4, .int v15), (3, .int v9), (2, .int v3), (1, .int v1), (0, .ref a0)]) hx hb dX12_readHearth_88 hl (by decide) rfl (fun ls hl => ?_)
            refine lv_iload hx hb dX12_readHearth_90 (lv_at hl 0 rfl) ?_
            refine lv_if_ge (tgt := 99) hx hb dX12_readHearth_92 (by decide) (fun c19 => ?_) (fun c19 => ?_)
            · have b19 : (0 : Int32).toInt ≤ v18.toInt := i_le.mp c19
              refine lv_aload_n hx hb dX12_readHearth_99 rfl (lv_at hl 5 rfl) ?_
              refine q_lds C ks_X12_151 dX12_readHearth_100 (fun a20 ha20 wa20 => ?_)
              refine lv_iconst (v := 1) hx hb dX12_readHearth_102 (by decide) ?_
              refine lv_bipush (v := 30) hx hb dX12_readHearth_103 (by decide) ?_
              have k_30 : (30 : Int32).toInt = 30 := by decide
              refine callV_Ei C S18 (c_X12_after l D G a0 a20 4 (1 : Int32) (30 : Int32) ga0 ha20) kV_X12_114 ga0 (trivial) (by decide +kernel) dX12_readHearth_105 hl.1 rfl rfl (by decide) cd_X12_after ⟨Nat.le_of_ble_eq_true rfl, Nat.le_of_ble_eq_true rfl, Nat.le_of_ble_eq_true rfl, Nat.le_of_ble_eq_true rfl, Nat.le_of_ble_eq_true rfl⟩ (fun v21 H21 L21 S21 K21 q21 => ?_)
              have z21_1 : (eI H21 (fR D H21 11 a0 1) 1).toInt = (eI H18 (fR D H18 11 a0 1) 1).toInt := congrArg Int32.toInt (eK S18.1 ga0 K21 (by decide +kernel) (by decide +kernel) 1)
              refine lv_istore (lv' := [(6, .int v21), (5, .int v18), (4, .int v15), (3, .int v9), (2, .int v3), (1, .int v1), (0, .ref a0)]) hx hb dX12_readHearth_108 hl (by decide) rfl (fun ls hl => ?_)
              refine lv_iload hx hb dX12_readHearth_110 (lv_at hl 0 rfl) ?_
              refine lv_if_ge (tgt := 117) hx hb dX12_readHearth_112 (by decide) (fun c22 => ?_) (fun c22 => ?_)
              · have b22 : (0 : Int32).toInt ≤ v21.toInt := i_le.mp c22
                refine lv_aload_n hx hb dX12_readHearth_117 rfl (lv_at hl 6 rfl) ?_
                refine q_gr (T := TX12) C S21.1 ga0 1 kF_X12_13 dX12_readHearth_118 rfl rfl (by decide) rfl (by decide) rfl (fun g23 => ?_)
                refine lv_iload_n hx hb dX12_readHearth_121 rfl (lv_at hl 5 rfl) ?_
                refine lv_iconst (v := 0) hx hb dX12_readHearth_122 (by decide) ?_
                refine callS_Pi C S21.1 S21.2.1.2.1 (c_X12_hearthAt l D G v1 (0 : Int32) (by omega) (by omega)) kS_X12_53 (trivial) dX12_readHearth_123 hl.1 cd_X12_hearthAt ⟨Nat.le_of_ble_eq_true rfl, Nat.le_of_ble_eq_true rfl, Nat.le_of_ble_eq_true rfl, Nat.le_of_ble_eq_true rfl, Nat.le_of_ble_eq_true rfl⟩ (fun v24 q24 => ?_)
                refine lv_iload_n hx hb dX12_readHearth_126 rfl (lv_at hl 3 rfl) ?_
                have n25 : aN H21 (fR D H21 11 a0 1) = 2052 := len_31 S21.1 g23
                refine q_iast C S21 g23 (by omega) (by omega) dX12_readHearth_127 rfl (by decide) (by decide +kernel) (fun _ _ h => wk_low _ _ (by omega) (fun h9 => by omega) (fun h9 => by omega) (fun h9 => by omega) (fun j hj h9 => by omega) h) (fun H26 L26 S26 P26 => ?_) (hs := fun _ => Or.inl (by decide +kernel))
                try have z26_1 : (eI H26 (fR D H26 11 a0 1) 1).toInt = (eI H21 (fR D H21 11 a0 1) 1).toInt := congrArg Int32.toInt (eA S21.1 ga0 P26 (by omega) (by decide))
                refine lv_aload_n hx hb dX12_readHearth_128 rfl (lv_at hl 6 rfl) ?_
                refine q_gr (T := TX12) C S26.1 ga0 1 kF_X12_13 dX12_readHearth_129 rfl rfl (by decide) rfl (by decide) rfl (fun g27 => ?_)
                refine lv_iload_n hx hb dX12_readHearth_132 rfl (lv_at hl 5 rfl) ?_
                refine lv_iconst (v := 1) hx hb dX12_readHearth_133 (by decide) ?_
                refine callS_Pi C S26.1 S26.2.1.2.1 (c_X12_hearthAt l D G v1 (1 : Int32) (by omega) (by omega)) kS_X12_53 (trivial) dX12_readHearth_134 hl.1 cd_X12_hearthAt ⟨Nat.le_of_ble_eq_true rfl, Nat.le_of_ble_eq_true rfl, Nat.le_of_ble_eq_true rfl, Nat.le_of_ble_eq_true rfl, Nat.le_of_ble_eq_true rfl⟩ (fun v28 q28 => ?_)
                refine lv_iload_n hx hb dX12_readHearth_137 rfl (lv_at hl 4 rfl) ?_
                have n29 : aN H26 (fR D H26 11 a0 1) = 2052 := len_31 S26.1 g27
                refine q_iast C S26 g27 (by omega) (by omega) dX12_readHearth_138 rfl (by decide) (by decide +kernel) (fun _ _ h => wk_low _ _ (by omega) (fun h9 => by omega) (fun h9 => by omega) (fun h9 => by omega) (fun j hj h9 => by omega) h) (fun H30 L30 S30 P30 => ?_) (hs := fun _ => Or.inl (by decide +kernel))
                try have z30_1 : (eI H30 (fR D H30 11 a0 1) 1).toInt = (eI H26 (fR D H26 11 a0 1) 1).toInt := congrArg Int32.toInt (eA S26.1 ga0 P30 (by omega) (by decide))
                refine lv_aload_n hx hb dX12_readHearth_139 rfl (lv_at hl 6 rfl) ?_
                refine q_gr (T := TX12) C S30.1 ga0 1 kF_X12_13 dX12_readHearth_140 rfl rfl (by decide) rfl (by decide) rfl (fun g31 => ?_)
                refine lv_iload_n hx hb dX12_readHearth_143 rfl (lv_at hl 5 rfl) ?_
                refine lv_iconst (v := 2) hx hb dX12_readHearth_144 (by decide) ?_
                have k_2 : (2 : Int32).toInt = 2 := by decide
                refine callS_Pi C S30.1 S30.2.1.2.1 (c_X12_hearthAt l D G v1 (2 : Int32) (by omega) (by omega)) kS_X12_53 (trivial) dX12_readHearth_145 hl.1 cd_X12_hearthAt ⟨Nat.le_of_ble_eq_true rfl, Nat.le_of_ble_eq_true rfl, Nat.le_of_ble_eq_true rfl, Nat.le_of_ble_eq_true rfl, Nat.le_of_ble_eq_true rfl⟩ (fun v32 q32 => ?_)
                refine lv_iload hx hb dX12_readHearth_148 (lv_at hl 2 rfl) ?_
                have n33 : aN H30 (fR D H30 11 a0 1) = 2052 := len_31 S30.1 g31
                refine q_iast C S30 g31 (by omega) (by omega) dX12_readHearth_150 rfl (by decide) (by decide +kernel) (fun _ _ h => wk_low _ _ (by omega) (fun h9 => by omega) (fun h9 => by omega) (fun h9 => by omega) (fun j hj h9 => by omega) h) (fun H34 L34 S34 P34 => ?_) (hs := fun _ => Or.inl (by decide +kernel))
                try have z34_1 : (eI H34 (fR D H34 11 a0 1) 1).toInt = (eI H30 (fR D H30 11 a0 1) 1).toInt := congrArg Int32.toInt (eA S30.1 ga0 P34 (by omega) (by decide))
                refine lv_aload_n hx hb dX12_readHearth_151 rfl (lv_at hl 6 rfl) ?_
                refine q_gr (T := TX12) C S34.1 ga0 1 kF_X12_13 dX12_readHearth_152 rfl rfl (by decide) rfl (by decide) rfl (fun g35 => ?_)
                refine lv_iload_n hx hb dX12_readHearth_155 rfl (lv_at hl 5 rfl) ?_
                refine lv_iconst (v := 3) hx hb dX12_readHearth_156 (by decide) ?_
                have k_3 : (3 : Int32).toInt = 3 := by decide
                refine callS_Pi C S34.1 S34.2.1.2.1 (c_X12_hearthAt l D G v1 (3 : Int32) (by omega) (by omega)) kS_X12_53 (trivial) dX12_readHearth_157 hl.1 cd_X12_hearthAt ⟨Nat.le_of_ble_eq_true rfl, Nat.le_of_ble_eq_true rfl, Nat.le_of_ble_eq_true rfl, Nat.le_of_ble_eq_true rfl, Nat.le_of_ble_eq_true rfl⟩ (fun v36 q36 => ?_)
                refine lv_iload hx hb dX12_readHearth_160 (lv_at hl 1 rfl) ?_
                have n37 : aN H34 (fR D H34 11 a0 1) = 2052 := len_31 S34.1 g35
                refine q_iast C S34 g35 (by omega) (by omega) dX12_readHearth_162 rfl (by decide) (by decide +kernel) (fun _ _ h => wk_low _ _ (by omega) (fun h9 => by omega) (fun h9 => by omega) (fun h9 => by omega) (fun j hj h9 => by omega) h) (fun H38 L38 S38 P38 => ?_) (hs := fun _ => Or.inl (by decide +kernel))
                try have z38_1 : (eI H38 (fR D H38 11 a0 1) 1).toInt = (eI H34 (fR D H34 11 a0 1) 1).toInt := congrArg Int32.toInt (eA S34.1 ga0 P38 (by omega) (by decide))
                refine lv_aload_n hx hb dX12_readHearth_163 rfl (lv_at hl 6 rfl) ?_
                refine q_gr (T := TX12) C S38.1 ga0 1 kF_X12_13 dX12_readHearth_164 rfl rfl (by decide) rfl (by decide) rfl (fun g39 => ?_)
                refine lv_iload_n hx hb dX12_readHearth_167 rfl (lv_at hl 5 rfl) ?_
                refine lv_iconst (v := 4) hx hb dX12_readHearth_168 (by decide) ?_
                have k_4 : (4 : Int32).toInt = 4 := by decide
                refine callS_Pi C S38.1 S38.2.1.2.1 (c_X12_hearthAt l D G v1 (4 : Int32) (by omega) (by omega)) kS_X12_53 (trivial) dX12_readHearth_169 hl.1 cd_X12_hearthAt ⟨Nat.le_of_ble_eq_true rfl, Nat.le_of_ble_eq_true rfl, Nat.le_of_ble_eq_true rfl, Nat.le_of_ble_eq_true rfl, Nat.le_of_ble_eq_true rfl⟩ (fun v40 q40 => ?_)
                refine lv_iload hx hb dX12_readHearth_172 (lv_at hl 0 rfl) ?_
                have n41 : aN H38 (fR D H38 11 a0 1) = 2052 := len_31 S38.1 g39
                refine q_iast C S38 g39 (by omega) (by omega) dX12_readHearth_174 rfl (by decide) (by decide +kernel) (fun _ _ h => wk_low _ _ (by omega) (fun h9 => by omega) (fun h9 => by omega) (fun h9 => by omega) (fun j hj h9 => by omega) h) (fun H42 L42 S42 P42 => ?_) (hs := fun _ => Or.inl (by decide +kernel))
                try have z42_1 : (eI H42 (fR D H42 11 a0 1) 1).toInt = (eI H38 (fR D H38 11 a0 1) 1).toInt := congrArg Int32.toInt (eA S38.1 ga0 P42 (by omega) (by decide))
                refine lv_aload_n hx hb dX12_readHearth_175 rfl (lv_at hl 6 rfl) ?_
                refine q_gr (T := TX12) C S42.1 ga0 1 kF_X12_13 dX12_readHearth_176 rfl rfl (by decide) rfl (by decide) rfl (fun g43 => ?_)
                refine lv_iload_n hx hb dX12_readHearth_179 rfl (lv_at hl 5 rfl) ?_
                refine lv_iconst (v := 5) hx hb dX12_readHearth_180 (by decide) ?_
                have k_5 : (5 : Int32).toInt = 5 := by decide
                refine callS_Pi C S42.1 S42.2.1.2.1 (c_X12_hearthAt l D G v1 (5 : Int32) (by omega) (by omega)) kS_X12_53 (trivial) dX12_readHearth_181 hl.1 cd_X12_hearthAt ⟨Nat.le_of_ble_eq_true rfl, Nat.le_of_ble_eq_true rfl, Nat.le_of_ble_eq_true rfl, Nat.le_of_ble_eq_true rfl, Nat.le_of_ble_eq_true rfl⟩ (fun v44 q44 => ?_)
                refine lv_iconst (v := 0) hx hb dX12_readHearth_184 (by decide) ?_
                have n45 : aN H42 (fR D H42 11 a0 1) = 2052 := len_31 S42.1 g43
                refine q_iast C S42 g43 (by omega) (by omega) dX12_readHearth_185 rfl (by decide) (by decide +kernel) (fun _ _ h => wk_low _ _ (by omega) (fun h9 => by omega) (fun h9 => by omega) (fun h9 => by omega) (fun j hj h9 => by omega) h) (fun H46 L46 S46 P46 => ?_) (hs := fun _ => Or.inl (by decide +kernel))
                try have z46_1 : (eI H46 (fR D H46 11 a0 1) 1).toInt = (eI H42 (fR D H42 11 a0 1) 1).toInt := congrArg Int32.toInt (eA S42.1 ga0 P46 (by omega) (by decide))
                refine lv_aload_n hx hb dX12_readHearth_186 rfl (lv_at hl 6 rfl) ?_
                refine q_gr (T := TX12) C S46.1 ga0 1 kF_X12_13 dX12_readHearth_187 rfl rfl (by decide) rfl (by decide) rfl (fun g47 => ?_)
                refine lv_iconst (v := 1) hx hb dX12_readHearth_190 (by decide) ?_
                refine lv_dup2_11 hx hb dX12_readHearth_191 rfl rfl ?_
                have n48 : aN H46 (fR D H46 11 a0 1) = 2052 := len_31 S46.1 g47
                refine q_iald C S46.1 g47 (by omega) (by omega) dX12_readHearth_192 rfl (by decide) ?_
                refine lv_topi (fun v49 ev49 => ?_)
                have wv49 : v49.toInt = (eI H46 (fR D H46 11 a0 1) 1).toInt := by rw [ev49]; rfl
                refine lv_iconst (v := 1) hx hb dX12_readHearth_193 (by decide) ?_
                refine lv_iadd hx hb dX12_readHearth_194 ?_
                refine lv_topi (fun v50 ev50 => ?_)
                have f51 : v50.toInt = v49.toInt + (1 : Int32).toInt := by rw [ev50]; exact i_add (by omega) (by omega)
                refine q_iast C S46 g47 (by omega) (by omega) dX12_readHearth_195 rfl (by decide) (by decide +kernel) (fun _ _ h => wk_low _ _ (by omega) (fun h9 => by omega) (fun h9 => by omega) (fun h9 => by omega) (fun j hj h9 => by omega) h) (fun H52 L52 S52 P52 => ?_) (hs := fun _ => Or.inl (by decide +kernel))
                try have z52_1 : (eI H52 (fR D H52 11 a0 1) 1).toInt = (eI H46 (fR D H46 11 a0 1) 1).toInt := congrArg Int32.toInt (eA S46.1 ga0 P52 (by omega) (by decide))
                refine lv_iconst (v := 1) hx hb dX12_readHearth_196 (by decide) ?_
                exact retE_z hQ C S52 hr dX12_readHearth_197 (z01 (by omega) (by omega)) (by omega)
              · have b22 : ¬ (0 : Int32).toInt ≤ v21.toInt := fun z9 => c22 (i_le.mpr z9)
                refine lv_iconst (v := 0) hx hb dX12_readHearth_115 (by decide) ?_
                exact retE_z hQ C S21 hr dX12_readHearth_116 (z01 (by omega) (by omega)) (by omega)
            · have b19 : ¬ (0 : Int32).toInt ≤ v18.toInt := fun z9 => c19 (i_le.mpr z9)
              refine lv_iconst (v := -1) hx hb dX12_readHearth_95 (by decide) ?_
              refine lv_goto (tgt := 108) hx hb dX12_readHearth_96 (by decide) ?_
              refine lv_istore (lv' := [(6, .int (-1 : Int32)), (5, .int v18), (4, .int v15), (3, .int v9), (2, .int v3), (1, .int v1), (0, .ref a0)]) hx hb dX12_readHearth_108 hl (by decide) rfl (fun ls hl => ?_)
              refine lv_iload hx hb dX12_readHearth_110 (lv_at hl 0 rfl) ?_
              have k_m1 : (-1 : Int32).toInt = -1 := by decide
              refine lv_if_ge (tgt := 117) hx hb dX12_readHearth_112 (by decide) (fun c53 => ?_) (fun c53 => ?_)
              · have b53 : (0 : Int32).toInt ≤ (-1 : Int32).toInt := i_le.mp c53
                exact absurd b53 (by omega)
              · have b53 : ¬ (0 : Int32).toInt ≤ (-1 : Int32).toInt := fun z9 => c53 (i_le.mpr z9)
                refine lv_iconst (v := 0) hx hb dX12_readHearth_115 (by decide) ?_
                exact retE_z hQ C S18 hr dX12_readHearth_116 (z01 (by omega) (by omega)) (by omega)
          · have b16 : ¬ (0 : Int32).toInt ≤ v15.toInt := fun z9 => c16 (i_le.mpr z9)
            refine lv_iconst (v := -1) hx hb dX12_readHearth_75 (by decide) ?_
            refine lv_goto (tgt := 88) hx hb dX12_readHearth_76 (by decide) ?_
            refine lv_istore (lv' := [(5, .int (-1 : Int32)), (4, .int v15), (3, .int v9), (2, .int v3), (1, .int v1), (0, .ref a0)]) hx hb dX12_readHearth_88 hl (by decide) rfl (fun ls hl => ?_)
            refine lv_iload hx hb dX12_readHearth_90 (lv_at hl 0 rfl) ?_
            have k_m1 : (-1 : Int32).toInt = -1 := by decide
            refine lv_if_ge (tgt := 99) hx hb dX12_readHearth_92 (by decide) (fun c54 => ?_) (fun c54 => ?_)
            · have b54 : (0 : Int32).toInt ≤ (-1 : Int32).toInt := i_le.mp c54
              exact absurd b54 (by omega)
            · have b54 : ¬ (0 : Int32).toInt ≤ (-1 : Int32).toInt := fun z9 => c54 (i_le.mpr z9)
              refine lv_iconst (v := -1) hx hb dX12_readHearth_95 (by decide) ?_
              refine lv_goto (tgt := 108) hx hb dX12_readHearth_96 (by decide) ?_
              refine lv_istore (lv' := [(6, .int (-1 : Int32)), (5, .int (-1 : Int32)), (4, .int v15), (3, .int v9), (2, .int v3), (1, .int v1), (0, .ref a0)]) hx hb dX12_readHearth_108 hl (by decide) rfl (fun ls hl => ?_)
              refine lv_iload hx hb dX12_readHearth_110 (lv_at hl 0 rfl) ?_
              refine lv_if_ge (tgt := 117) hx hb dX12_readHearth_112 (by decide) (fun c55 => ?_) (fun c55 => ?_)
              · have b55 : (0 : Int32).toInt ≤ (-1 : Int32).toInt := i_le.mp c55
                exact absurd b55 (by omega)
              · have b55 : ¬ (0 : Int32).toInt ≤ (-1 : Int32).toInt := fun z9 => c55 (i_le.mpr z9)
                refine lv_iconst (v := 0) hx hb dX12_readHearth_115 (by decide) ?_
                exact retE_z hQ C S15 hr dX12_readHearth_116 (z01 (by omega) (by omega)) (by omega)
        · have b13 : v12.toInt = (6 : Int32).toInt := i_eq.mp c13
          refine lv_iconst (v := 0) hx hb dX12_readHearth_57 (by decide) ?_
          exact retE_z hQ C S9 hr dX12_readHearth_58 (z01 (by omega) (by omega)) (by omega)
    · have b4 : ¬ (0 : Int32).toInt ≤ v3.toInt := fun z9 => c4 (i_le.mpr z9)
      refine lv_iconst (v := -1) hx hb dX12_readHearth_22 (by decide) ?_
      refine lv_goto (tgt := 39) hx hb dX12_readHearth_23 (by decide) ?_
      refine lv_istore_n (lv' := [(3, .int (-1 : Int32)), (2, .int v3), (1, .int v1), (0, .ref a0)]) hx hb dX12_readHearth_39 rfl hl (by decide) rfl (fun ls hl => ?_)
      refine lv_iload_n hx hb dX12_readHearth_40 rfl (lv_at hl 0 rfl) ?_
      have k_m1 : (-1 : Int32).toInt = -1 := by decide
      refine lv_if_lt (tgt := 57) hx hb dX12_readHearth_41 (by decide) (fun c56 => ?_) (fun c56 => ?_)
      · have b56 : (-1 : Int32).toInt < (0 : Int32).toInt := i_lt.mp c56
        refine lv_iconst (v := 0) hx hb dX12_readHearth_57 (by decide) ?_
        exact retE_z hQ C S3 hr dX12_readHearth_58 (z01 (by omega) (by omega)) (by omega)
      · have b56 : ¬ (-1 : Int32).toInt < (0 : Int32).toInt := fun z9 => c56 (i_lt.mpr z9)
        exact absurd b56 (by omega)
  · have b2 : v1.toInt = (12 : Int32).toInt := i_eq.mp c2
    refine lv_iconst (v := 0) hx hb dX12_readHearth_11 (by decide) ?_
    have k_0 : (0 : Int32).toInt = 0 := by decide
    exact retE_z hQ C S hr dX12_readHearth_12 (z01 (by omega) (by omega)) (by omega)

set_option maxRecDepth 100000 in
set_option maxHeartbeats 4000000 in
theorem c_X12_readParishLine (l : Launch) (D : DD) (G : Nat → Nat) (a0 : Nat) (ga0 : G a0 = 30) : CE l D G yX12_readParishLine cX12_readParishLine 1 (some .boolean) 7 [.ref a0] (fun _ => True) [(30, 10), (30, 12), (31, 0), (31, 1)] (xI (fun H r H1 => 0 ≤ r.toInt ∧ r.toInt ≤ 1)) := by
  refine enter (by decide) (Nat.le_of_ble_eq_true rfl) ?_
  intro p e s m args below meth c ls Q hA hQ C hr hO hpre hl
  have hx := C.1
  have hb := C.2.1
  have S : Sd D G [(30, 10), (30, 12), (31, 0), (31, 1)] s.heap s.heap [] := Sd.start hO
  have hl : lv_has ls 1 [(0, .ref a0)] := hl
  refine lv_aload_n hx hb dX12_readParishLine_0 rfl (lv_at hl 0 rfl) ?_
  refine q_lds C ks_X12_153 dX12_readParishLine_1 (fun a1 ha1 wa1 => ?_)
  refine callV_Pi C S.1 S.2.1.2.1 (c_X12_isWord l D G a0 a1 5 ga0 ha1) kV_X12_105 ga0 (trivial) dX12_readParishLine_3 hl.1 rfl rfl (by decide) cd_X12_isWord ⟨Nat.le_of_ble_eq_true rfl, Nat.le_of_ble_eq_true rfl, Nat.le_of_ble_eq_true rfl, Nat.le_of_ble_eq_true rfl, Nat.le_of_ble_eq_true rfl⟩ (fun v2 q2 => ?_)
  have k_0 : (0 : Int32).toInt = 0 := by decide
  refine lv_if_eq (tgt := 14) hx hb dX12_readParishLine_6 (by decide) (fun c3 => ?_) (fun c3 => ?_)
  · have b3 : v2.toInt = (0 : Int32).toInt := i_eq.mp c3
    refine lv_aload_n hx hb dX12_readParishLine_14 rfl (lv_at hl 0 rfl) ?_
    refine q_lds C ks_X12_159 dX12_readParishLine_15 (fun a4 ha4 wa4 => ?_)
    refine callV_Pi C S.1 S.2.1.2.1 (c_X12_isWord l D G a0 a4 4 ga0 ha4) kV_X12_105 ga0 (trivial) dX12_readParishLine_17 hl.1 rfl rfl (by decide) cd_X12_isWord ⟨Nat.le_of_ble_eq_true rfl, Nat.le_of_ble_eq_true rfl, Nat.le_of_ble_eq_true rfl, Nat.le_of_ble_eq_true rfl, Nat.le_of_ble_eq_true rfl⟩ (fun v5 q5 => ?_)
    refine lv_if_eq (tgt := 28) hx hb dX12_readParishLine_20 (by decide) (fun c6 => ?_) (fun c6 => ?_)
    · have b6 : v5.toInt = (0 : Int32).toInt := i_eq.mp c6
      refine lv_aload_n hx hb dX12_readParishLine_28 rfl (lv_at hl 0 rfl) ?_
      refine q_lds C ks_X12_164 dX12_readParishLine_29 (fun a7 ha7 wa7 => ?_)
      refine callV_Pi C S.1 S.2.1.2.1 (c_X12_isWord l D G a0 a7 6 ga0 ha7) kV_X12_105 ga0 (trivial) dX12_readParishLine_31 hl.1 rfl rfl (by decide) cd_X12_isWord ⟨Nat.le_of_ble_eq_true rfl, Nat.le_of_ble_eq_true rfl, Nat.le_of_ble_eq_true rfl, Nat.le_of_ble_eq_true rfl, Nat.le_of_ble_eq_true rfl⟩ (fun v8 q8 => ?_)
      refine lv_if_eq (tgt := 42) hx hb dX12_readParishLine_34 (by decide) (fun c9 => ?_) (fun c9 => ?_)
      · have b9 : v8.toInt = (0 : Int32).toInt := i_eq.mp c9
        refine lv_aload_n hx hb dX12_readParishLine_42 rfl (lv_at hl 0 rfl) ?_
        refine q_lds C ks_X12_169 dX12_readParishLine_43 (fun a10 ha10 wa10 => ?_)
        refine callV_Pi C S.1 S.2.1.2.1 (c_X12_isWord l D G a0 a10 4 ga0 ha10) kV_X12_105 ga0 (trivial) dX12_readParishLine_45 hl.1 rfl rfl (by decide) cd_X12_isWord ⟨Nat.le_of_ble_eq_true rfl, Nat.le_of_ble_eq_true rfl, Nat.le_of_ble_eq_true rfl, Nat.le_of_ble_eq_true rfl, Nat.le_of_ble_eq_true rfl⟩ (fun v11 q11 => ?_)
        refine lv_if_eq (tgt := 60) hx hb dX12_readParishLine_48 (by decide) (fun c12 => ?_) (fun c12 => ?_)
        · have b12 : v11.toInt = (0 : Int32).toInt := i_eq.mp c12
          refine lv_aload_n hx hb dX12_readParishLine_60 rfl (lv_at hl 0 rfl) ?_
          refine q_lds C ks_X12_174 dX12_readParishLine_61 (fun a13 ha13 wa13 => ?_)
          refine callV_Pi C S.1 S.2.1.2.1 (c_X12_isWord l D G a0 a13 4 ga0 ha13) kV_X12_105 ga0 (trivial) dX12_readParishLine_63 hl.1 rfl rfl (by decide) cd_X12_isWord ⟨Nat.le_of_ble_eq_true rfl, Nat.le_of_ble_eq_true rfl, Nat.le_of_ble_eq_true rfl, Nat.le_of_ble_eq_true rfl, Nat.le_of_ble_eq_true rfl⟩ (fun v14 q14 => ?_)
          refine lv_if_eq (tgt := 79) hx hb dX12_readParishLine_66 (by decide) (fun c15 => ?_) (fun c15 => ?_)
          · have b15 : v14.toInt = (0 : Int32).toInt := i_eq.mp c15
            refine lv_aload_n hx hb dX12_readParishLine_79 rfl (lv_at hl 0 rfl) ?_
            refine q_lds C ks_X12_176 dX12_readParishLine_80 (fun a16 ha16 wa16 => ?_)
            refine callV_Pi C S.1 S.2.1.2.1 (c_X12_isWord l D G a0 a16 5 ga0 ha16) kV_X12_105 ga0 (trivial) dX12_readParishLine_82 hl.1 rfl rfl (by decide) cd_X12_isWord ⟨Nat.le_of_ble_eq_true rfl, Nat.le_of_ble_eq_true rfl, Nat.le_of_ble_eq_true rfl, Nat.le_of_ble_eq_true rfl, Nat.le_of_ble_eq_true rfl⟩ (fun v17 q17 => ?_)
            refine lv_if_eq (tgt := 98) hx hb dX12_readParishLine_85 (by decide) (fun c18 => ?_) (fun c18 => ?_)
            · have b18 : v17.toInt = (0 : Int32).toInt := i_eq.mp c18
              refine lv_aload_n hx hb dX12_readParishLine_98 rfl (lv_at hl 0 rfl) ?_
              refine q_lds C ks_X12_178 dX12_readParishLine_99 (fun a19 ha19 wa19 => ?_)
              refine callV_Pi C S.1 S.2.1.2.1 (c_X12_isWord l D G a0 a19 3 ga0 ha19) kV_X12_105 ga0 (trivial) dX12_readParishLine_101 hl.1 rfl rfl (by decide) cd_X12_isWord ⟨Nat.le_of_ble_eq_true rfl, Nat.le_of_ble_eq_true rfl, Nat.le_of_ble_eq_true rfl, Nat.le_of_ble_eq_true rfl, Nat.le_of_ble_eq_true rfl⟩ (fun v20 q20 => ?_)
              refine lv_if_eq (tgt := 117) hx hb dX12_readParishLine_104 (by decide) (fun c21 => ?_) (fun c21 => ?_)
              · have b21 : v20.toInt = (0 : Int32).toInt := i_eq.mp c21
                refine lv_aload_n hx hb dX12_readParishLine_117 rfl (lv_at hl 0 rfl) ?_
                refine q_lds C ks_X12_180 dX12_readParishLine_118 (fun a22 ha22 wa22 => ?_)
                refine callV_Pi C S.1 S.2.1.2.1 (c_X12_isWord l D G a0 a22 7 ga0 ha22) kV_X12_105 ga0 (trivial) dX12_readParishLine_120 hl.1 rfl rfl (by decide) cd_X12_isWord ⟨Nat.le_of_ble_eq_true rfl, Nat.le_of_ble_eq_true rfl, Nat.le_of_ble_eq_true rfl, Nat.le_of_ble_eq_true rfl, Nat.le_of_ble_eq_true rfl⟩ (fun v23 q23 => ?_)
                refine lv_if_eq (tgt := 142) hx hb dX12_readParishLine_123 (by decide) (fun c24 => ?_) (fun c24 => ?_)
                · have b24 : v23.toInt = (0 : Int32).toInt := i_eq.mp c24
                  refine lv_iconst (v := 0) hx hb dX12_readParishLine_142 (by decide) ?_
                  exact retE_z hQ C S hr dX12_readParishLine_143 (z01 (by omega) (by omega)) (by omega)
                · have b24 : ¬ v23.toInt = (0 : Int32).toInt := fun z9 => c24 (i_eq.mpr z9)
                  refine lv_aload_n hx hb dX12_readParishLine_126 rfl (lv_at hl 0 rfl) ?_
                  refine lv_iconst (v := 4) hx hb dX12_readParishLine_127 (by decide) ?_
                  refine lv_iconst (v := 0) hx hb dX12_readParishLine_128 (by decide) ?_
                  refine lv_sipush (v := 999) hx hb dX12_readParishLine_129 (by decide) ?_
                  have k_4 : (4 : Int32).toInt = 4 := by decide
                  have k_999 : (999 : Int32).toInt = 999 := by decide
                  refine callV_Ei C S (c_X12_readNumber l D G a0 (4 : Int32) (0 : Int32) (999 : Int32) ga0 (by omega)) kV_X12_171 ga0 (trivial) (by decide +kernel) dX12_readParishLine_132 hl.1 rfl rfl (by decide) cd_X12_readNumber ⟨Nat.le_of_ble_eq_true rfl, Nat.le_of_ble_eq_true rfl, Nat.le_of_ble_eq_true rfl, Nat.le_of_ble_eq_true rfl, Nat.le_of_ble_eq_true rfl⟩ (fun v25 H25 L25 S25 K25 q25 => ?_)
                  refine lv_if_eq (tgt := 142) hx hb dX12_readParishLine_135 (by decide) (fun c26 => ?_) (fun c26 => ?_)
                  · have b26 : v25.toInt = (0 : Int32).toInt := i_eq.mp c26
                    refine lv_iconst (v := 0) hx hb dX12_readParishLine_142 (by decide) ?_
                    exact retE_z hQ C S25 hr dX12_readParishLine_143 (z01 (by omega) (by omega)) (by omega)
                  · have b26 : ¬ v25.toInt = (0 : Int32).toInt := fun z9 => c26 (i_eq.mpr z9)
                    refine lv_iconst (v := 1) hx hb dX12_readParishLine_138 (by decide) ?_
                    refine lv_goto (tgt := 143) hx hb dX12_readParishLine_139 (by decide) ?_
                    have k_1 : (1 : Int32).toInt = 1 := by decide
                    exact retE_z hQ C S25 hr dX12_readParishLine_143 (z01 (by omega) (by omega)) (by omega)
              · have b21 : ¬ v20.toInt = (0 : Int32).toInt := fun z9 => c21 (i_eq.mpr z9)
                refine lv_aload_n hx hb dX12_readParishLine_107 rfl (lv_at hl 0 rfl) ?_
                refine lv_bipush (v := 8) hx hb dX12_readParishLine_108 (by decide) ?_
                refine lv_iconst (v := 0) hx hb dX12_readParishLine_110 (by decide) ?_
                refine lv_bipush (v := 20) hx hb dX12_readParishLine_111 (by decide) ?_
                have k_8 : (8 : Int32).toInt = 8 := by decide
                have k_20 : (20 : Int32).toInt = 20 := by decide
                refine callV_Ei C S (c_X12_readNumber l D G a0 (8 : Int32) (0 : Int32) (20 : Int32) ga0 (by omega)) kV_X12_171 ga0 (trivial) (by decide +kernel) dX12_readParishLine_113 hl.1 rfl rfl (by decide) cd_X12_readNumber ⟨Nat.le_of_ble_eq_true rfl, Nat.le_of_ble_eq_true rfl, Nat.le_of_ble_eq_true rfl, Nat.le_of_ble_eq_true rfl, Nat.le_of_ble_eq_true rfl⟩ (fun v27 H27 L27 S27 K27 q27 => ?_)
                exact retE_z hQ C S27 hr dX12_readParishLine_116 (z01 (by omega) (by omega)) (by omega)
            · have b18 : ¬ v17.toInt = (0 : Int32).toInt := fun z9 => c18 (i_eq.mpr z9)
              refine lv_aload_n hx hb dX12_readParishLine_88 rfl (lv_at hl 0 rfl) ?_
              refine lv_bipush (v := 7) hx hb dX12_readParishLine_89 (by decide) ?_
              refine lv_iconst (v := 0) hx hb dX12_readParishLine_91 (by decide) ?_
              refine lv_bipush (v := 100) hx hb dX12_readParishLine_92 (by decide) ?_
              have k_7 : (7 : Int32).toInt = 7 := by decide
              have k_100 : (100 : Int32).toInt = 100 := by decide
              refine callV_Ei C S (c_X12_readNumber l D G a0 (7 : Int32) (0 : Int32) (100 : Int32) ga0 (by omega)) kV_X12_171 ga0 (trivial) (by decide +kernel) dX12_readParishLine_94 hl.1 rfl rfl (by decide) cd_X12_readNumber ⟨Nat.le_of_ble_eq_true rfl, Nat.le_of_ble_eq_true rfl, Nat.le_of_ble_eq_true rfl, Nat.le_of_ble_eq_true rfl, Nat.le_of_ble_eq_true rfl⟩ (fun v28 H28 L28 S28 K28 q28 => ?_)
              exact retE_z hQ C S28 hr dX12_readParishLine_97 (z01 (by omega) (by omega)) (by omega)
          · have b15 : ¬ v14.toInt = (0 : Int32).toInt := fun z9 => c15 (i_eq.mpr z9)
            refine lv_aload_n hx hb dX12_readParishLine_69 rfl (lv_at hl 0 rfl) ?_
            refine lv_bipush (v := 6) hx hb dX12_readParishLine_70 (by decide) ?_
            refine lv_iconst (v := 0) hx hb dX12_readParishLine_72 (by decide) ?_
            refine lv_bipush (v := 50) hx hb dX12_readParishLine_73 (by decide) ?_
            have k_6 : (6 : Int32).toInt = 6 := by decide
            have k_50 : (50 : Int32).toInt = 50 := by decide
            refine callV_Ei C S (c_X12_readNumber l D G a0 (6 : Int32) (0 : Int32) (50 : Int32) ga0 (by omega)) kV_X12_171 ga0 (trivial) (by decide +kernel) dX12_readParishLine_75 hl.1 rfl rfl (by decide) cd_X12_readNumber ⟨Nat.le_of_ble_eq_true rfl, Nat.le_of_ble_eq_true rfl, Nat.le_of_ble_eq_true rfl, Nat.le_of_ble_eq_true rfl, Nat.le_of_ble_eq_true rfl⟩ (fun v29 H29 L29 S29 K29 q29 => ?_)
            exact retE_z hQ C S29 hr dX12_readParishLine_78 (z01 (by omega) (by omega)) (by omega)
        · have b12 : ¬ v11.toInt = (0 : Int32).toInt := fun z9 => c12 (i_eq.mpr z9)
          refine lv_aload_n hx hb dX12_readParishLine_51 rfl (lv_at hl 0 rfl) ?_
          refine lv_iconst (v := 5) hx hb dX12_readParishLine_52 (by decide) ?_
          refine lv_iconst (v := 0) hx hb dX12_readParishLine_53 (by decide) ?_
          refine lv_bipush (v := 20) hx hb dX12_readParishLine_54 (by decide) ?_
          have k_5 : (5 : Int32).toInt = 5 := by decide
          have k_20 : (20 : Int32).toInt = 20 := by decide
          refine callV_Ei C S (c_X12_readNumber l D G a0 (5 : Int32) (0 : Int32) (20 : Int32) ga0 (by omega)) kV_X12_171 ga0 (trivial) (by decide +kernel) dX12_readParishLine_56 hl.1 rfl rfl (by decide) cd_X12_readNumber ⟨Nat.le_of_ble_eq_true rfl, Nat.le_of_ble_eq_true rfl, Nat.le_of_ble_eq_true rfl, Nat.le_of_ble_eq_true rfl, Nat.le_of_ble_eq_true rfl⟩ (fun v30 H30 L30 S30 K30 q30 => ?_)
          exact retE_z hQ C S30 hr dX12_readParishLine_59 (z01 (by omega) (by omega)) (by omega)
      · have b9 : ¬ v8.toInt = (0 : Int32).toInt := fun z9 => c9 (i_eq.mpr z9)
        refine lv_aload_n hx hb dX12_readParishLine_37 rfl (lv_at hl 0 rfl) ?_
        refine callV_Ei C S (c_X12_readHearth l D G a0 ga0) kV_X12_166 ga0 (trivial) (by decide +kernel) dX12_readParishLine_38 hl.1 rfl rfl (by decide) cd_X12_readHearth ⟨Nat.le_of_ble_eq_true rfl, Nat.le_of_ble_eq_true rfl, Nat.le_of_ble_eq_true rfl, Nat.le_of_ble_eq_true rfl, Nat.le_of_ble_eq_true rfl⟩ (fun v31 H31 L31 S31 K31 q31 => ?_)
        exact retE_z hQ C S31 hr dX12_readParishLine_41 (z01 (by omega) (by omega)) (by omega)
    · have b6 : ¬ v5.toInt = (0 : Int32).toInt := fun z9 => c6 (i_eq.mpr z9)
      refine lv_aload_n hx hb dX12_readParishLine_23 rfl (lv_at hl 0 rfl) ?_
      refine callV_Ei C S (c_X12_readSees l D G a0 ga0) kV_X12_161 ga0 (trivial) (by decide +kernel) dX12_readParishLine_24 hl.1 rfl rfl (by decide) cd_X12_readSees ⟨Nat.le_of_ble_eq_true rfl, Nat.le_of_ble_eq_true rfl, Nat.le_of_ble_eq_true rfl, Nat.le_of_ble_eq_true rfl, Nat.le_of_ble_eq_true rfl⟩ (fun v32 H32 L32 S32 K32 q32 => ?_)
      exact retE_z hQ C S32 hr dX12_readParishLine_27 (z01 (by omega) (by omega)) (by omega)
  · have b3 : ¬ v2.toInt = (0 : Int32).toInt := fun z9 => c3 (i_eq.mpr z9)
    refine lv_aload_n hx hb dX12_readParishLine_9 rfl (lv_at hl 0 rfl) ?_
    refine callV_Ei C S (c_X12_readHouse l D G a0 ga0) kV_X12_155 ga0 (trivial) (by decide +kernel) dX12_readParishLine_10 hl.1 rfl rfl (by decide) cd_X12_readHouse ⟨Nat.le_of_ble_eq_true rfl, Nat.le_of_ble_eq_true rfl, Nat.le_of_ble_eq_true rfl, Nat.le_of_ble_eq_true rfl, Nat.le_of_ble_eq_true rfl⟩ (fun v33 H33 L33 S33 K33 q33 => ?_)
    exact retE_z hQ C S33 hr dX12_readParishLine_13 (z01 (by omega) (by omega)) (by omega)
