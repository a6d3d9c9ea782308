set_option maxRecDepth 100000 in
set_option maxHeartbeats 4000000 in
theorem c_X0_add (l : Launch) (D : DD) (G : Nat → Nat) (a0 : Nat) (x1 : Int32) (x2 : Int32) (x3 : Int32) (x4 : Int32) (ga0 : G a0 = 9) : CE l D G yX0_add cX0_add 5 none 0 [.ref a0, .int x1, .int x2, .int x3, .int x4] (fun _ => True) [(11, 0), (9, 1), (9, 2)] (xV (fun H H1 => True)) := by
  refine enter (by decide) (Nat.le_of_ble_eq_true rfl) ?_
  intro p e s m args below meth c ls Q hA hQ C hr hO hpre hl
  have hx := C.1
  have hb := C.2.1
  have S : Sd D G [(11, 0), (9, 1), (9, 2)] s.heap s.heap [] := Sd.start hO
  have hl : lv_has ls 5 [(0, .ref a0), (1, .int x1), (2, .int x2), (3, .int x3), (4, .int x4)] := hl
  refine lv_aload_n hx hb dX0_add_0 rfl (lv_at hl 0 rfl) ?_
  refine q_gr (T := TX0) C S.1 ga0 0 kF_X0_13 dX0_add_1 rfl rfl (by decide) rfl (by decide) rfl (fun g1 => ?_)
  refine lv_iconst (v := 0) hx hb dX0_add_4 (by decide) ?_
  have k_0 : (0 : Int32).toInt = 0 := by decide
  refine q_aald C S.1 g1 (by omega) (by omega) dX0_add_5 rfl (by decide) rfl rfl (fun g2 => ?_)
  refine lv_aload_n hx hb dX0_add_6 rfl (lv_at hl 0 rfl) ?_
  refine q_gi (T := TX0) C S.1 ga0 1 kF_X0_16 dX0_add_7 rfl rfl (by decide) rfl (by decide) rfl ?_
  have r3 : 0 ≤ (fI D s.heap 0 a0 1).toInt ∧ (fI D s.heap 0 a0 1).toInt ≤ 59 := S.1.rng ga0 rfl (by decide) rfl
  refine lv_iload_n hx hb dX0_add_10 rfl (lv_at hl 1 rfl) ?_
  have n4 : aN s.heap (eR s.heap (fR D s.heap 0 a0 0) (0 : Int32).toInt.toNat) = 60 := len_11 S.1 g2
  refine q_iast C S g2 (by omega) (by omega) dX0_add_11 rfl (by decide) (by decide +kernel) (fun _ _ h => ak_11 h) (fun H5 L5 S5 P5 => ?_)
  refine lv_aload_n hx hb dX0_add_12 rfl (lv_at hl 0 rfl) ?_
  refine q_gr (T := TX0) C S5.1 ga0 0 kF_X0_13 dX0_add_13 rfl rfl (by decide) rfl (by decide) rfl (fun g6 => ?_)
  refine lv_iconst (v := 1) hx hb dX0_add_16 (by decide) ?_
  have k_1 : (1 : Int32).toInt = 1 := by decide
  refine q_aald C S5.1 g6 (by omega) (by omega) dX0_add_17 rfl (by decide) rfl rfl (fun g7 => ?_)
  refine lv_aload_n hx hb dX0_add_18 rfl (lv_at hl 0 rfl) ?_
  refine q_gi (T := TX0) C S5.1 ga0 1 kF_X0_16 dX0_add_19 rfl rfl (by decide) rfl (by decide) rfl ?_
  have r8 : 0 ≤ (fI D H5 0 a0 1).toInt ∧ (fI D H5 0 a0 1).toInt ≤ 59 := S5.1.rng ga0 rfl (by decide) rfl
  refine lv_iload_n hx hb dX0_add_22 rfl (lv_at hl 2 rfl) ?_
  have n9 : aN H5 (eR H5 (fR D H5 0 a0 0) (1 : Int32).toInt.toNat) = 60 := len_11 S5.1 g7
  refine q_iast C S5 g7 (by omega) (by omega) dX0_add_23 rfl (by decide) (by decide +kernel) (fun _ _ h => ak_11 h) (fun H10 L10 S10 P10 => ?_)
  refine lv_aload_n hx hb dX0_add_24 rfl (lv_at hl 0 rfl) ?_
  refine q_gr (T := TX0) C S10.1 ga0 0 kF_X0_13 dX0_add_25 rfl rfl (by decide) rfl (by decide) rfl (fun g11 => ?_)
  refine lv_iconst (v := 2) hx hb dX0_add_28 (by decide) ?_
  have k_2 : (2 : Int32).toInt = 2 := by decide
  refine q_aald C S10.1 g11 (by omega) (by omega) dX0_add_29 rfl (by decide) rfl rfl (fun g12 => ?_)
  refine lv_aload_n hx hb dX0_add_30 rfl (lv_at hl 0 rfl) ?_
  refine q_gi (T := TX0) C S10.1 ga0 1 kF_X0_16 dX0_add_31 rfl rfl (by decide) rfl (by decide) rfl ?_
  have r13 : 0 ≤ (fI D H10 0 a0 1).toInt ∧ (fI D H10 0 a0 1).toInt ≤ 59 := S10.1.rng ga0 rfl (by decide) rfl
  refine lv_iload_n hx hb dX0_add_34 rfl (lv_at hl 3 rfl) ?_
  have n14 : aN H10 (eR H10 (fR D H10 0 a0 0) (2 : Int32).toInt.toNat) = 60 := len_11 S10.1 g12
  refine q_iast C S10 g12 (by omega) (by omega) dX0_add_35 rfl (by decide) (by decide +kernel) (fun _ _ h => ak_11 h) (fun H15 L15 S15 P15 => ?_)
  refine lv_aload_n hx hb dX0_add_36 rfl (lv_at hl 0 rfl) ?_
  refine q_gr (T := TX0) C S15.1 ga0 0 kF_X0_13 dX0_add_37 rfl rfl (by decide) rfl (by decide) rfl (fun g16 => ?_)
  refine lv_iconst (v := 3) hx hb dX0_add_40 (by decide) ?_
  have k_3 : (3 : Int32).toInt = 3 := by decide
  refine q_aald C S15.1 g16 (by omega) (by omega) dX0_add_41 rfl (by decide) rfl rfl (fun g17 => ?_)
  refine lv_aload_n hx hb dX0_add_42 rfl (lv_at hl 0 rfl) ?_
  refine q_gi (T := TX0) C S15.1 ga0 1 kF_X0_16 dX0_add_43 rfl rfl (by decide) rfl (by decide) rfl ?_
  have r18 : 0 ≤ (fI D H15 0 a0 1).toInt ∧ (fI D H15 0 a0 1).toInt ≤ 59 := S15.1.rng ga0 rfl (by decide) rfl
  refine lv_iload hx hb dX0_add_46 (lv_at hl 4 rfl) ?_
  have n19 : aN H15 (eR H15 (fR D H15 0 a0 0) (3 : Int32).toInt.toNat) = 60 := len_11 S15.1 g17
  refine q_iast C S15 g17 (by omega) (by omega) dX0_add_48 rfl (by decide) (by decide +kernel) (fun _ _ h => ak_11 h) (fun H20 L20 S20 P20 => ?_)
  refine lv_aload_n hx hb dX0_add_49 rfl (lv_at hl 0 rfl) ?_
  refine lv_aload_n hx hb dX0_add_50 rfl (lv_at hl 0 rfl) ?_
  refine q_gi (T := TX0) C S20.1 ga0 1 kF_X0_16 dX0_add_51 rfl rfl (by decide) rfl (by decide) rfl ?_
  have r21 : 0 ≤ (fI D H20 0 a0 1).toInt ∧ (fI D H20 0 a0 1).toInt ≤ 59 := S20.1.rng ga0 rfl (by decide) rfl
  refine lv_iconst (v := 1) hx hb dX0_add_54 (by decide) ?_
  refine lv_iadd hx hb dX0_add_55 ?_
  refine lv_topi (fun v22 ev22 => ?_)
  have f23 : v22.toInt = (fI D H20 0 a0 1).toInt + (1 : Int32).toInt := by rw [ev22]; exact i_add (by omega) (by omega)
  refine lv_bipush (v := 60) hx hb dX0_add_56 (by decide) ?_
  have k_60 : (60 : Int32).toInt = 60 := by decide
  refine lv_irem hx hb dX0_add_58 (by first | decide | (intro z9; have := i_eq.mp z9; simp at this; omega) | assumption) ?_
  refine lv_topi (fun v24 ev24 => ?_)
  have f25 : v24.toInt = v22.toInt % 60 := by rw [ev24]; exact i_remc k_60 (by omega) (by decide)
  refine q_put (T := TX0) C S20 ga0 1 kF_X0_16 dX0_add_59 rfl rfl (by decide) (by decide) rfl rfl rfl rfl rfl (vok_i rfl (by omega) (by omega)) (by decide +kernel) (fun H26 L26 S26 P26 => ?_)
  refine lv_aload_n hx hb dX0_add_62 rfl (lv_at hl 0 rfl) ?_
  refine lv_bipush (v := 60) hx hb dX0_add_63 (by decide) ?_
  refine lv_aload_n hx hb dX0_add_65 rfl (lv_at hl 0 rfl) ?_
  refine q_gi (T := TX0) C S26.1 ga0 2 kF_X0_20 dX0_add_66 rfl rfl (by decide) rfl (by decide) rfl ?_
  have r27 : 0 ≤ (fI D H26 0 a0 2).toInt ∧ (fI D H26 0 a0 2).toInt ≤ 60 := S26.1.rng ga0 rfl (by decide) rfl
  refine lv_iconst (v := 1) hx hb dX0_add_69 (by decide) ?_
  refine lv_iadd hx hb dX0_add_70 ?_
  refine lv_topi (fun v28 ev28 => ?_)
  have f29 : v28.toInt = (fI D H26 0 a0 2).toInt + (1 : Int32).toInt := by rw [ev28]; exact i_add (by omega) (by omega)
  refine q_min C kN_X0_23 dX0_add_71 hl.1 ⟨Nat.le_of_ble_eq_true rfl, Nat.le_of_ble_eq_true rfl, Nat.le_of_ble_eq_true rfl, Nat.le_of_ble_eq_true rfl⟩ (fun v30 fv30 => ?_)
  refine q_put (T := TX0) C S26 ga0 2 kF_X0_20 dX0_add_74 rfl rfl (by decide) (by decide) rfl rfl rfl rfl rfl (vok_i rfl (by omega) (by omega)) (by decide +kernel) (fun H31 L31 S31 P31 => ?_)
  exact retE_v hQ C S31 hr dX0_add_77 (trivial)

set_option maxRecDepth 100000 in
set_option maxHeartbeats 4000000 in
theorem c_X0_cell (l : Launch) (D : DD) (G : Nat → Nat) (a0 : Nat) (x1 : Int32) (x2 : Int32) (ga0 : G a0 = 9) (ix2 : 0 ≤ x2.toInt ∧ x2.toInt ≤ 3) : CP l D G yX0_cell cX0_cell 3 (some .int) 0 [.ref a0, .int x1, .int x2] (fun _ => True) (pI (fun H r => True)) := by
  refine enter (by decide) (Nat.le_of_ble_eq_true rfl) ?_
  intro p e s m args below meth c ls Q hA hQ C hr hO hpre hl
  have hx := C.1
  have hb := C.2.1
  have hl : lv_has ls 3 [(0, .ref a0), (1, .int x1), (2, .int x2)] := hl
  refine lv_iload_n hx hb dX0_cell_0 rfl (lv_at hl 1 rfl) ?_
  have k_0 : (0 : Int32).toInt = 0 := by decide
  refine lv_if_lt (tgt := 12) hx hb dX0_cell_1 (by decide) (fun c1 => ?_) (fun c1 => ?_)
  · have b1 : x1.toInt < (0 : Int32).toInt := i_lt.mp c1
    refine lv_iconst (v := -1) hx hb dX0_cell_12 (by decide) ?_
    have k_m1 : (-1 : Int32).toInt = -1 := by decide
    exact retP_i hQ C hr dX0_cell_13 (trivial)
  · have b1 : ¬ x1.toInt < (0 : Int32).toInt := fun z9 => c1 (i_lt.mpr z9)
    refine lv_iload_n hx hb dX0_cell_4 rfl (lv_at hl 1 rfl) ?_
    refine lv_aload_n hx hb dX0_cell_5 rfl (lv_at hl 0 rfl) ?_
    refine q_gi (T := TX0) C hO ga0 2 kF_X0_20 dX0_cell_6 rfl rfl (by decide) rfl (by decide) rfl ?_
    have r2 : 0 ≤ (fI D s.heap 0 a0 2).toInt ∧ (fI D s.heap 0 a0 2).toInt ≤ 60 := hO.rng ga0 rfl (by decide) rfl
    have r4 := i_rng x1
    refine lv_icmp_lt (tgt := 14) hx hb dX0_cell_9 (by decide) (fun c3 => ?_) (fun c3 => ?_)
    · have b3 : x1.toInt < (fI D s.heap 0 a0 2).toInt := i_lt.mp c3
      refine lv_aload_n hx hb dX0_cell_14 rfl (lv_at hl 0 rfl) ?_
      refine q_gr (T := TX0) C hO ga0 0 kF_X0_13 dX0_cell_15 rfl rfl (by decide) rfl (by decide) rfl (fun g5 => ?_)
      refine lv_iload_n hx hb dX0_cell_18 rfl (lv_at hl 2 rfl) ?_
      refine q_aald C hO g5 (by omega) (by omega) dX0_cell_19 rfl (by decide) rfl rfl (fun g6 => ?_)
      refine lv_aload_n hx hb dX0_cell_20 rfl (lv_at hl 0 rfl) ?_
      refine q_gi (T := TX0) C hO ga0 1 kF_X0_16 dX0_cell_21 rfl rfl (by decide) rfl (by decide) rfl ?_
      have r7 : 0 ≤ (fI D s.heap 0 a0 1).toInt ∧ (fI D s.heap 0 a0 1).toInt ≤ 59 := hO.rng ga0 rfl (by decide) rfl
      refine lv_iconst (v := 1) hx hb dX0_cell_24 (by decide) ?_
      have k_1 : (1 : Int32).toInt = 1 := by decide
      refine lv_isub hx hb dX0_cell_25 ?_
      refine lv_topi (fun v8 ev8 => ?_)
      have f9 : v8.toInt = (fI D s.heap 0 a0 1).toInt - (1 : Int32).toInt := by rw [ev8]; exact i_sub (by omega) (by omega)
      refine lv_iload_n hx hb dX0_cell_26 rfl (lv_at hl 1 rfl) ?_
      refine lv_isub hx hb dX0_cell_27 ?_
      refine lv_topi (fun v10 ev10 => ?_)
      have f11 : v10.toInt = v8.toInt - x1.toInt := by rw [ev10]; exact i_sub (by omega) (by omega)
      refine lv_bipush (v := 60) hx hb dX0_cell_28 (by decide) ?_
      have k_60 : (60 : Int32).toInt = 60 := by decide
      refine lv_iadd hx hb dX0_cell_30 ?_
      refine lv_topi (fun v12 ev12 => ?_)
      have f13 : v12.toInt = v10.toInt + (60 : Int32).toInt := by rw [ev12]; exact i_add (by omega) (by omega)
      refine lv_bipush (v := 60) hx hb dX0_cell_31 (by decide) ?_
      refine lv_irem hx hb dX0_cell_33 (by first | decide | (intro z9; have := i_eq.mp z9; simp at this; omega) | assumption) ?_
      refine lv_topi (fun v14 ev14 => ?_)
      have f15 : v14.toInt = v12.toInt % 60 := by rw [ev14]; exact i_remc k_60 (by omega) (by decide)
      have n16 : aN s.heap (eR s.heap (fR D s.heap 0 a0 0) x2.toInt.toNat) = 60 := len_11 hO g6
      refine q_iald C hO g6 (by omega) (by omega) dX0_cell_34 rfl (by decide) ?_
      refine lv_topi (fun v17 ev17 => ?_)
      exact retP_i hQ C hr dX0_cell_35 (trivial)
    · have b3 : ¬ x1.toInt < (fI D s.heap 0 a0 2).toInt := fun z9 => c3 (i_lt.mpr z9)
      refine lv_iconst (v := -1) hx hb dX0_cell_12 (by decide) ?_
      have k_m1 : (-1 : Int32).toInt = -1 := by decide
      exact retP_i hQ C hr dX0_cell_13 (trivial)

set_option maxRecDepth 100000 in
set_option maxHeartbeats 4000000 in
theorem c_X0_rowsOf (l : Launch) (D : DD) (G : Nat → Nat) (a0 : Nat) (x1 : Int32) (ga0 : G a0 = 9) : CP l D G yX0_rowsOf cX0_rowsOf 4 (some .int) 1 [.ref a0, .int x1] (fun _ => True) (pI (fun H r => True)) := by
  refine enter (by decide) (Nat.le_of_ble_eq_true rfl) ?_
  intro p e s m args below meth c ls Q hA hQ C hr hO hpre hl
  have hx := C.1
  have hb := C.2.1
  have hl : lv_has ls 4 [(0, .ref a0), (1, .int x1)] := hl
  refine lv_iconst (v := 0) hx hb dX0_rowsOf_0 (by decide) ?_
  refine lv_istore_n (lv' := [(2, .int (0 : Int32)), (0, .ref a0), (1, .int x1)]) hx hb dX0_rowsOf_1 rfl hl (by decide) rfl (fun ls hl => ?_)
  refine lv_iconst (v := 0) hx hb dX0_rowsOf_2 (by decide) ?_
  refine lv_istore_n (lv' := [(3, .int (0 : Int32)), (2, .int (0 : Int32)), (0, .ref a0), (1, .int x1)]) hx hb dX0_rowsOf_3 rfl hl (by decide) rfl (fun ls hl => ?_)
  have Lp4 : ∀ (n : Nat) (x3_4 : Int32) (x2_4 : Int32) (ls : Array Slot), (0 ≤ x3_4.toInt ∧ x3_4.toInt ≤ 2147483647) → 2147483648 - x3_4.toInt ≤ (n : Int) → lv_has ls 4 [(3, .int x3_4), (2, .int x2_4), (0, .ref a0), (1, .int x1)] → W p l e (rmU 1 0 0) s m args below meth c s.heap [] 0 0 Q (F0 m 4 ls []) := by
    intro n
    induction n with
    | zero =>
      intro x3_4 x2_4 ls j4_0 hn hl
      exact absurd hn (by omega)
    | succ n ih4 =>
      intro x3_4 x2_4 ls j4_0 hn hl
      refine lv_iload_n hx hb dX0_rowsOf_4 rfl (lv_at hl 0 rfl) ?_
      refine lv_aload_n hx hb dX0_rowsOf_5 rfl (lv_at hl 2 rfl) ?_
      refine q_gi (T := TX0) C hO ga0 2 kF_X0_20 dX0_rowsOf_6 rfl rfl (by decide) rfl (by decide) rfl ?_
      have r1 : 0 ≤ (fI D s.heap 0 a0 2).toInt ∧ (fI D s.heap 0 a0 2).toInt ≤ 60 := hO.rng ga0 rfl (by decide) rfl
      have r3 := i_rng x3_4
      refine lv_icmp_ge (tgt := 31) hx hb dX0_rowsOf_9 (by decide) (fun c2 => ?_) (fun c2 => ?_)
      · have b2 : (fI D s.heap 0 a0 2).toInt ≤ x3_4.toInt := i_le.mp c2
        refine lv_iload_n hx hb dX0_rowsOf_31 rfl (lv_at hl 1 rfl) ?_
        exact retP_i hQ C hr dX0_rowsOf_32 (trivial)
      · have b2 : ¬ (fI D s.heap 0 a0 2).toInt ≤ x3_4.toInt := fun z9 => c2 (i_le.mpr z9)
        refine lv_aload_n hx hb dX0_rowsOf_12 rfl (lv_at hl 2 rfl) ?_
        refine lv_iload_n hx hb dX0_rowsOf_13 rfl (lv_at hl 0 rfl) ?_
        refine lv_iconst (v := 2) hx hb dX0_rowsOf_14 (by decide) ?_
        have k_2 : (2 : Int32).toInt = 2 := by decide
        refine callV_Pi C hO (fun _ _ _ => rfl) (c_X0_cell l D G a0 x3_4 (2 : Int32) ga0 (by omega)) kV_X0_29 ga0 (trivial) dX0_rowsOf_15 hl.1 rfl rfl (by decide) cd_X0_cell ⟨Nat.le_of_ble_eq_true rfl, Nat.le_of_ble_eq_true rfl, Nat.le_of_ble_eq_true rfl, Nat.le_of_ble_eq_true rfl, Nat.le_of_ble_eq_true rfl⟩ (fun v4 q4 => ?_)
        refine lv_iload_n hx hb dX0_rowsOf_18 rfl (lv_at hl 3 rfl) ?_
        refine lv_icmp_ne (tgt := 25) hx hb dX0_rowsOf_19 (by decide) (fun c5 => ?_) (fun c5 => ?_)
        · have b5 : ¬ v4.toInt = x1.toInt := fun z9 => c5 (i_eq.mpr z9)
          obtain ⟨v6, ev6⟩ : ∃ y : Int32, y = x3_4 + (1) := ⟨_, rfl⟩
          have k_1 : (1 : Int32).toInt = 1 := by decide
          have f7 : v6.toInt = x3_4.toInt + (1) := by rw [ev6]; exact i_addc k_1 (by omega) (by omega)
          refine lv_iinc (v := v6) (lv' := [(3, .int v6), (2, .int x2_4), (0, .ref a0), (1, .int x1)]) hx hb dX0_rowsOf_25 hl (k := 0) rfl (by rw [ev6]; rfl) (by decide) rfl (fun ls hl => ?_)
          refine lv_goto (tgt := 4) hx hb dX0_rowsOf_28 (by decide) ?_
          exact ih4 v6 x2_4 ls (by omega) (by omega) (lv_sub hl [0, 1, 2, 3] rfl)
        · have b5 : v4.toInt = x1.toInt := i_eq.mp c5
          obtain ⟨v8, ev8⟩ : ∃ y : Int32, y = x2_4 + (1) := ⟨_, rfl⟩
          have r9 := i_rng x2_4
          refine lv_iinc (v := v8) (lv' := [(2, .int v8), (3, .int x3_4), (0, .ref a0), (1, .int x1)]) hx hb dX0_rowsOf_22 hl (k := 1) rfl (by rw [ev8]; rfl) (by decide) rfl (fun ls hl => ?_)
          obtain ⟨v10, ev10⟩ : ∃ y : Int32, y = x3_4 + (1) := ⟨_, rfl⟩
          have k_1 : (1 : Int32).toInt = 1 := by decide
          have f11 : v10.toInt = x3_4.toInt + (1) := by rw [ev10]; exact i_addc k_1 (by omega) (by omega)
          refine lv_iinc (v := v10) (lv' := [(3, .int v10), (2, .int v8), (0, .ref a0), (1, .int x1)]) hx hb dX0_rowsOf_25 hl (k := 1) rfl (by rw [ev10]; rfl) (by decide) rfl (fun ls hl => ?_)
          refine lv_goto (tgt := 4) hx hb dX0_rowsOf_28 (by decide) ?_
          exact ih4 v10 v8 ls (by omega) (by omega) (lv_sub hl [0, 1, 2, 3] rfl)
  have k_0 : (0 : Int32).toInt = 0 := by decide
  exact Lp4 2147483648 (0 : Int32) (0 : Int32) ls (by omega)  (by omega) (lv_sub hl [0, 1, 2, 3] rfl)

set_option maxRecDepth 100000 in
set_option maxHeartbeats 4000000 in
theorem c_X0_latestOf (l : Launch) (D : DD) (G : Nat → Nat) (a0 : Nat) (x1 : Int32) (ga0 : G a0 = 9) : CP l D G yX0_latestOf cX0_latestOf 3 (some .int) 1 [.ref a0, .int x1] (fun _ => True) (pI (fun H r => True)) := by
  refine enter (by decide) (Nat.le_of_ble_eq_true rfl) ?_
  intro p e s m args below meth c ls Q hA hQ C hr hO hpre hl
  have hx := C.1
  have hb := C.2.1
  have hl : lv_has ls 3 [(0, .ref a0), (1, .int x1)] := hl
  refine lv_iconst (v := 0) hx hb dX0_latestOf_0 (by decide) ?_
  refine lv_istore_n (lv' := [(2, .int (0 : Int32)), (0, .ref a0), (1, .int x1)]) hx hb dX0_latestOf_1 rfl hl (by decide) rfl (fun ls hl => ?_)
  have Lp2 : ∀ (n : Nat) (x2_2 : Int32) (ls : Array Slot), (0 ≤ x2_2.toInt ∧ x2_2.toInt ≤ 2147483647) → 2147483648 - x2_2.toInt ≤ (n : Int) → lv_has ls 3 [(2, .int x2_2), (0, .ref a0), (1, .int x1)] → W p l e (rmU 1 0 0) s m args below meth c s.heap [] 0 0 Q (F0 m 2 ls []) := by
    intro n
    induction n with
    | zero =>
      intro x2_2 ls j2_0 hn hl
      exact absurd hn (by omega)
    | succ n ih2 =>
      intro x2_2 ls j2_0 hn hl
      refine lv_iload_n hx hb dX0_latestOf_2 rfl (lv_at hl 0 rfl) ?_
      refine lv_aload_n hx hb dX0_latestOf_3 rfl (lv_at hl 1 rfl) ?_
      refine q_gi (T := TX0) C hO ga0 2 kF_X0_20 dX0_latestOf_4 rfl rfl (by decide) rfl (by decide) rfl ?_
      have r1 : 0 ≤ (fI D s.heap 0 a0 2).toInt ∧ (fI D s.heap 0 a0 2).toInt ≤ 60 := hO.rng ga0 rfl (by decide) rfl
      have r3 := i_rng x2_2
      refine lv_icmp_ge (tgt := 33) hx hb dX0_latestOf_7 (by decide) (fun c2 => ?_) (fun c2 => ?_)
      · have b2 : (fI D s.heap 0 a0 2).toInt ≤ x2_2.toInt := i_le.mp c2
        refine lv_iconst (v := -1) hx hb dX0_latestOf_33 (by decide) ?_
        have k_m1 : (-1 : Int32).toInt = -1 := by decide
        exact retP_i hQ C hr dX0_latestOf_34 (trivial)
      · have b2 : ¬ (fI D s.heap 0 a0 2).toInt ≤ x2_2.toInt := fun z9 => c2 (i_le.mpr z9)
        refine lv_aload_n hx hb dX0_latestOf_10 rfl (lv_at hl 1 rfl) ?_
        refine lv_iload_n hx hb dX0_latestOf_11 rfl (lv_at hl 0 rfl) ?_
        refine lv_iconst (v := 2) hx hb dX0_latestOf_12 (by decide) ?_
        have k_2 : (2 : Int32).toInt = 2 := by decide
        refine callV_Pi C hO (fun _ _ _ => rfl) (c_X0_cell l D G a0 x2_2 (2 : Int32) ga0 (by omega)) kV_X0_29 ga0 (trivial) dX0_latestOf_13 hl.1 rfl rfl (by decide) cd_X0_cell ⟨Nat.le_of_ble_eq_true rfl, Nat.le_of_ble_eq_true rfl, Nat.le_of_ble_eq_true rfl, Nat.le_of_ble_eq_true rfl, Nat.le_of_ble_eq_true rfl⟩ (fun v4 q4 => ?_)
        refine lv_iload_n hx hb dX0_latestOf_16 rfl (lv_at hl 2 rfl) ?_
        refine lv_icmp_ne (tgt := 27) hx hb dX0_latestOf_17 (by decide) (fun c5 => ?_) (fun c5 => ?_)
        · have b5 : ¬ v4.toInt = x1.toInt := fun z9 => c5 (i_eq.mpr z9)
          obtain ⟨v6, ev6⟩ : ∃ y : Int32, y = x2_2 + (1) := ⟨_, rfl⟩
          have k_1 : (1 : Int32).toInt = 1 := by decide
          have f7 : v6.toInt = x2_2.toInt + (1) := by rw [ev6]; exact i_addc k_1 (by omega) (by omega)
          refine lv_iinc (v := v6) (lv' := [(2, .int v6), (0, .ref a0), (1, .int x1)]) hx hb dX0_latestOf_27 hl (k := 0) rfl (by rw [ev6]; rfl) (by decide) rfl (fun ls hl => ?_)
          refine lv_goto (tgt := 2) hx hb dX0_latestOf_30 (by decide) ?_
          exact ih2 v6 ls (by omega) (by omega) (lv_sub hl [0, 1, 2] rfl)
        · have b5 : v4.toInt = x1.toInt := i_eq.mp c5
          refine lv_aload_n hx hb dX0_latestOf_20 rfl (lv_at hl 1 rfl) ?_
          refine lv_iload_n hx hb dX0_latestOf_21 rfl (lv_at hl 0 rfl) ?_
          refine lv_iconst (v := 0) hx hb dX0_latestOf_22 (by decide) ?_
          have k_0 : (0 : Int32).toInt = 0 := by decide
          refine callV_Pi C hO (fun _ _ _ => rfl) (c_X0_cell l D G a0 x2_2 (0 : Int32) ga0 (by omega)) kV_X0_29 ga0 (trivial) dX0_latestOf_23 hl.1 rfl rfl (by decide) cd_X0_cell ⟨Nat.le_of_ble_eq_true rfl, Nat.le_of_ble_eq_true rfl, Nat.le_of_ble_eq_true rfl, Nat.le_of_ble_eq_true rfl, Nat.le_of_ble_eq_true rfl⟩ (fun v8 q8 => ?_)
          exact retP_i hQ C hr dX0_latestOf_26 (trivial)
  have k_0 : (0 : Int32).toInt = 0 := by decide
  exact Lp2 2147483648 (0 : Int32) ls (by omega)  (by omega) (lv_sub hl [0, 1, 2] rfl)

set_option maxRecDepth 100000 in
set_option maxHeartbeats 4000000 in
theorem c_X0_become (l : Launch) (D : DD) (G : Nat → Nat) (a0 : Nat) (a1 : Nat) (ga0 : G a0 = 9) (ga1 : G a1 = 9) : CE l D G yX0_become cX0_become 3 none 0 [.ref a0, .ref a1] (fun _ => True) [(11, 0), (9, 1), (9, 2)] (xV (fun H H1 => True)) := by
  refine enter (by decide) (Nat.le_of_ble_eq_true rfl) ?_
  intro p e s m args below meth c ls Q hA hQ C hr hO hpre hl
  have hx := C.1
  have hb := C.2.1
  have S : Sd D G [(11, 0), (9, 1), (9, 2)] s.heap s.heap [] := Sd.start hO
  have hl : lv_has ls 3 [(0, .ref a0), (1, .ref a1)] := hl
  refine lv_iconst (v := 0) hx hb dX0_become_0 (by decide) ?_
  refine lv_istore_n (lv' := [(2, .int (0 : Int32)), (0, .ref a0), (1, .ref a1)]) hx hb dX0_become_1 rfl hl (by decide) rfl (fun ls hl => ?_)
  have Lp2 : ∀ (n : Nat) (x2_2 : Int32) (H_2 : Heap) (L_2 : List Loc) (ls : Array Slot), (Sd D G [(11, 0), (9, 1), (9, 2)] s.heap H_2 L_2) → (0 ≤ x2_2.toInt ∧ x2_2.toInt ≤ 2147483647) → 2147483648 - x2_2.toInt ≤ (n : Int) → lv_has ls 3 [(2, .int x2_2), (0, .ref a0), (1, .ref a1)] → W p l e (rmU 0 0 0) s m args below meth c H_2 L_2 0 0 Q (F0 m 2 ls []) := by
    intro n
    induction n with
    | zero =>
      intro x2_2 H_2 L_2 ls S_2 j2_0 hn hl
      exact absurd hn (by omega)
    | succ n ih2 =>
      intro x2_2 H_2 L_2 ls S_2 j2_0 hn hl
      refine lv_iload_n hx hb dX0_become_2 rfl (lv_at hl 0 rfl) ?_
      refine lv_iconst (v := 4) hx hb dX0_become_3 (by decide) ?_
      have k_4 : (4 : Int32).toInt = 4 := by decide
      refine lv_icmp_ge (tgt := 32) hx hb dX0_become_4 (by decide) (fun c1 => ?_) (fun c1 => ?_)
      · have b1 : (4 : Int32).toInt ≤ x2_2.toInt := i_le.mp c1
        refine lv_aload_n hx hb dX0_become_32 rfl (lv_at hl 1 rfl) ?_
        refine lv_aload_n hx hb dX0_become_33 rfl (lv_at hl 2 rfl) ?_
        refine q_gi (T := TX0) C S_2.1 ga1 1 kF_X0_16 dX0_become_34 rfl rfl (by decide) rfl (by decide) rfl ?_
        have r2 : 0 ≤ (fI D H_2 0 a1 1).toInt ∧ (fI D H_2 0 a1 1).toInt ≤ 59 := S_2.1.rng ga1 rfl (by decide) rfl
        refine q_put (T := TX0) C S_2 ga0 1 kF_X0_16 dX0_become_37 rfl rfl (by decide) (by decide) rfl rfl rfl rfl rfl (vok_i rfl (by omega) (by omega)) (by decide +kernel) (fun H3 L3 S3 P3 => ?_)
        refine lv_aload_n hx hb dX0_become_40 rfl (lv_at hl 1 rfl) ?_
        refine lv_aload_n hx hb dX0_become_41 rfl (lv_at hl 2 rfl) ?_
        refine q_gi (T := TX0) C S3.1 ga1 2 kF_X0_20 dX0_become_42 rfl rfl (by decide) rfl (by decide) rfl ?_
        have r4 : 0 ≤ (fI D H3 0 a1 2).toInt ∧ (fI D H3 0 a1 2).toInt ≤ 60 := S3.1.rng ga1 rfl (by decide) rfl
        refine q_put (T := TX0) C S3 ga0 2 kF_X0_20 dX0_become_45 rfl rfl (by decide) (by decide) rfl rfl rfl rfl rfl (vok_i rfl (by omega) (by omega)) (by decide +kernel) (fun H5 L5 S5 P5 => ?_)
        exact retE_v hQ C S5 hr dX0_become_48 (trivial)
      · have b1 : ¬ (4 : Int32).toInt ≤ x2_2.toInt := fun z9 => c1 (i_le.mpr z9)
        refine lv_aload_n hx hb dX0_become_7 rfl (lv_at hl 2 rfl) ?_
        refine q_gr (T := TX0) C S_2.1 ga1 0 kF_X0_13 dX0_become_8 rfl rfl (by decide) rfl (by decide) rfl (fun g6 => ?_)
        refine lv_iload_n hx hb dX0_become_11 rfl (lv_at hl 0 rfl) ?_
        refine q_aald C S_2.1 g6 (by omega) (by omega) dX0_become_12 rfl (by decide) rfl rfl (fun g7 => ?_)
        refine lv_iconst (v := 0) hx hb dX0_become_13 (by decide) ?_
        refine lv_aload_n hx hb dX0_become_14 rfl (lv_at hl 1 rfl) ?_
        refine q_gr (T := TX0) C S_2.1 ga0 0 kF_X0_13 dX0_become_15 rfl rfl (by decide) rfl (by decide) rfl (fun g8 => ?_)
        refine lv_iload_n hx hb dX0_become_18 rfl (lv_at hl 0 rfl) ?_
        refine q_aald C S_2.1 g8 (by omega) (by omega) dX0_become_19 rfl (by decide) rfl rfl (fun g9 => ?_)
        refine lv_iconst (v := 0) hx hb dX0_become_20 (by decide) ?_
        refine lv_bipush (v := 60) hx hb dX0_become_21 (by decide) ?_
        refine q_cpy C S_2 g7 g9 (by decide) kY_X0_32 dX0_become_23 hl.1 ⟨Nat.le_of_ble_eq_true rfl, Nat.le_of_ble_eq_true rfl⟩ (fun H10 L10 S10 => ?_)
        obtain ⟨v11, ev11⟩ : ∃ y : Int32, y = x2_2 + (1) := ⟨_, rfl⟩
        have k_1 : (1 : Int32).toInt = 1 := by decide
        have f12 : v11.toInt = x2_2.toInt + (1) := by rw [ev11]; exact i_addc k_1 (by omega) (by omega)
        refine lv_iinc (v := v11) (lv' := [(2, .int v11), (0, .ref a0), (1, .ref a1)]) hx hb dX0_become_26 hl (k := 0) rfl (by rw [ev11]; rfl) (by decide) rfl (fun ls hl => ?_)
        refine lv_goto (tgt := 2) hx hb dX0_become_29 (by decide) ?_
        exact ih2 v11 H10 L10 ls S10 (by omega) (by omega) (lv_sub hl [0, 1, 2] rfl)
  have k_0 : (0 : Int32).toInt = 0 := by decide
  exact Lp2 2147483648 (0 : Int32) s.heap [] ls S (by omega)  (by omega) (lv_sub hl [0, 1, 2] rfl)

set_option maxRecDepth 100000 in
set_option maxHeartbeats 4000000 in
theorem c_X1_become (l : Launch) (D : DD) (G : Nat → Nat) (a0 : Nat) (a1 : Nat) (ga0 : G a0 = 8) (ga1 : G a1 = 8) : CE l D G yX1_become cX1_become 2 none 0 [.ref a0, .ref a1] (fun _ => True) [(8, 0), (8, 1), (8, 2), (8, 3), (8, 4), (8, 5)] (xV (fun H H1 => fI D H1 1 a0 0 = fI D H 1 a1 0 ∧ ∀ q, q ≠ a0 → fI D H1 1 q 0 = fI D H 1 q 0)) := by
  refine enter (by decide) (Nat.le_of_ble_eq_true rfl) ?_
  intro p e s m args below meth c ls Q hA hQ C hr hO hpre hl
  have hx := C.1
  have hb := C.2.1
  have S : Sd D G [(8, 0), (8, 1), (8, 2), (8, 3), (8, 4), (8, 5)] s.heap s.heap [] := Sd.start hO
  have hl : lv_has ls 2 [(0, .ref a0), (1, .ref a1)] := hl
  refine lv_aload_n hx hb dX1_become_0 rfl (lv_at hl 0 rfl) ?_
  refine lv_aload_n hx hb dX1_become_1 rfl (lv_at hl 1 rfl) ?_
  refine q_gi (T := TX1) C S.1 ga1 0 kF_X1_7 dX1_become_2 rfl rfl (by decide) rfl (by decide) rfl ?_
  have r1 : 0 ≤ (fI D s.heap 1 a1 0).toInt ∧ (fI D s.heap 1 a1 0).toInt ≤ 5 := S.1.rng ga1 rfl (by decide) rfl
  refine q_put (T := TX1) C S ga0 0 kF_X1_7 dX1_become_5 rfl rfl (by decide) (by decide) rfl rfl rfl rfl rfl (vok_i rfl (by omega) (by omega)) (by decide +kernel) (fun H2 L2 S2 P2 => ?_)
  refine lv_aload_n hx hb dX1_become_8 rfl (lv_at hl 0 rfl) ?_
  refine lv_aload_n hx hb dX1_become_9 rfl (lv_at hl 1 rfl) ?_
  refine q_gi (T := TX1) C S2.1 ga1 1 kF_X1_13 dX1_become_10 rfl rfl (by decide) rfl (by decide) rfl ?_
  refine q_put (T := TX1) C S2 ga0 1 kF_X1_13 dX1_become_13 rfl rfl (by decide) (by decide) rfl rfl rfl rfl rfl (vok_a rfl) (by decide +kernel) (fun H3 L3 S3 P3 => ?_)
  refine lv_aload_n hx hb dX1_become_16 rfl (lv_at hl 0 rfl) ?_
  refine lv_aload_n hx hb dX1_become_17 rfl (lv_at hl 1 rfl) ?_
  refine q_gi (T := TX1) C S3.1 ga1 2 kF_X1_16 dX1_become_18 rfl rfl (by decide) rfl (by decide) rfl ?_
  refine q_put (T := TX1) C S3 ga0 2 kF_X1_16 dX1_become_21 rfl rfl (by decide) (by decide) rfl rfl rfl rfl rfl (vok_a rfl) (by decide +kernel) (fun H4 L4 S4 P4 => ?_)
  refine lv_aload_n hx hb dX1_become_24 rfl (lv_at hl 0 rfl) ?_
  refine lv_aload_n hx hb dX1_become_25 rfl (lv_at hl 1 rfl) ?_
  refine q_gi (T := TX1) C S4.1 ga1 3 kF_X1_19 dX1_become_26 rfl rfl (by decide) rfl (by decide) rfl ?_
  refine q_put (T := TX1) C S4 ga0 3 kF_X1_19 dX1_become_29 rfl rfl (by decide) (by decide) rfl rfl rfl rfl rfl (vok_a rfl) (by decide +kernel) (fun H5 L5 S5 P5 => ?_)
  refine lv_aload_n hx hb dX1_become_32 rfl (lv_at hl 0 rfl) ?_
  refine lv_aload_n hx hb dX1_become_33 rfl (lv_at hl 1 rfl) ?_
  refine q_gi (T := TX1) C S5.1 ga1 4 kF_X1_22 dX1_become_34 rfl rfl (by decide) rfl (by decide) rfl ?_
  refine q_put (T := TX1) C S5 ga0 4 kF_X1_22 dX1_become_37 rfl rfl (by decide) (by decide) rfl rfl rfl rfl rfl (vok_a rfl) (by decide +kernel) (fun H6 L6 S6 P6 => ?_)
  refine lv_aload_n hx hb dX1_become_40 rfl (lv_at hl 0 rfl) ?_
  refine lv_aload_n hx hb dX1_become_41 rfl (lv_at hl 1 rfl) ?_
  refine q_gi (T := TX1) C S6.1 ga1 5 kF_X1_25 dX1_become_42 rfl rfl (by decide) rfl (by decide) rfl ?_
  refine q_put (T := TX1) C S6 ga0 5 kF_X1_25 dX1_become_45 rfl rfl (by decide) (by decide) rfl rfl rfl rfl rfl (vok_a rfl) (by decide +kernel) (fun H7 L7 S7 P7 => ?_)
  exact retE_v hQ C S7 hr dX1_become_48 (⟨by rw [Pt.any P7 (by decide) (by decide) a0, Pt.any P6 (by decide) (by decide) a0, Pt.any P5 (by decide) (by decide) a0, Pt.any P4 (by decide) (by decide) a0, Pt.any P3 (by decide) (by decide) a0, Pt.i P2], fun q hq => by rw [Pt.any P7 (by decide) (by decide) q, Pt.any P6 (by decide) (by decide) q, Pt.any P5 (by decide) (by decide) q, Pt.any P4 (by decide) (by decide) q, Pt.any P3 (by decide) (by decide) q, Pt.f P2 hq]⟩)

set_option maxRecDepth 100000 in
set_option maxHeartbeats 4000000 in
theorem c_X2_become (l : Launch) (D : DD) (G : Nat → Nat) (a0 : Nat) (a1 : Nat) (ga0 : G a0 = 7) (ga1 : G a1 = 7) : CE l D G yX2_become cX2_become 2 none 0 [.ref a0, .ref a1] (fun _ => True) [(7, 0), (7, 1), (7, 2), (7, 3), (7, 4)] (xV (fun H H1 => fI D H1 2 a0 4 = fI D H 2 a1 4 ∧ ∀ q, q ≠ a0 → fI D H1 2 q 4 = fI D H 2 q 4)) := by
  refine enter (by decide) (Nat.le_of_ble_eq_true rfl) ?_
  intro p e s m args below meth c ls Q hA hQ C hr hO hpre hl
  have hx := C.1
  have hb := C.2.1
  have S : Sd D G [(7, 0), (7, 1), (7, 2), (7, 3), (7, 4)] s.heap s.heap [] := Sd.start hO
  have hl : lv_has ls 2 [(0, .ref a0), (1, .ref a1)] := hl
  refine lv_aload_n hx hb dX2_become_0 rfl (lv_at hl 0 rfl) ?_
  refine lv_aload_n hx hb dX2_become_1 rfl (lv_at hl 1 rfl) ?_
  refine q_gi (T := TX2) C S.1 ga1 0 kF_X2_7 dX2_become_2 rfl rfl (by decide) rfl (by decide) rfl ?_
  refine q_put (T := TX2) C S ga0 0 kF_X2_7 dX2_become_5 rfl rfl (by decide) (by decide) rfl rfl rfl rfl rfl (vok_a rfl) (by decide +kernel) (fun H1 L1 S1 P1 => ?_)
  refine lv_aload_n hx hb dX2_become_8 rfl (lv_at hl 0 rfl) ?_
  refine lv_aload_n hx hb dX2_become_9 rfl (lv_at hl 1 rfl) ?_
  refine q_gi (T := TX2) C S1.1 ga1 1 kF_X2_13 dX2_become_10 rfl rfl (by decide) rfl (by decide) rfl ?_
  have r2 : 0 ≤ (fI D H1 2 a1 1).toInt ∧ (fI D H1 2 a1 1).toInt ≤ 1 := S1.1.rng ga1 rfl (by decide) rfl
  refine q_put (T := TX2) C S1 ga0 1 kF_X2_13 dX2_become_13 rfl rfl (by decide) (by decide) rfl rfl rfl (nar_z (by omega) (by omega)) (fit_z (by omega) (by omega)) (vok_i rfl (by omega) (by omega)) (by decide +kernel) (fun H3 L3 S3 P3 => ?_)
  refine lv_aload_n hx hb dX2_become_16 rfl (lv_at hl 0 rfl) ?_
  refine lv_aload_n hx hb dX2_become_17 rfl (lv_at hl 1 rfl) ?_
  refine q_gi (T := TX2) C S3.1 ga1 2 kF_X2_17 dX2_become_18 rfl rfl (by decide) rfl (by decide) rfl ?_
  refine q_put (T := TX2) C S3 ga0 2 kF_X2_17 dX2_become_21 rfl rfl (by decide) (by decide) rfl rfl rfl rfl rfl (vok_a rfl) (by decide +kernel) (fun H4 L4 S4 P4 => ?_)
  refine lv_aload_n hx hb dX2_become_24 rfl (lv_at hl 0 rfl) ?_
  refine lv_aload_n hx hb dX2_become_25 rfl (lv_at hl 1 rfl) ?_
  refine q_gi (T := TX2) C S4.1 ga1 3 kF_X2_20 dX2_become_26 rfl rfl (by decide) rfl (by decide) rfl ?_
  refine q_put (T := TX2) C S4 ga0 3 kF_X2_20 dX2_become_29 rfl rfl (by decide) (by decide) rfl rfl rfl rfl rfl (vok_a rfl) (by decide +kernel) (fun H5 L5 S5 P5 => ?_)
  refine lv_aload_n hx hb dX2_become_32 rfl (lv_at hl 0 rfl) ?_
  refine lv_aload_n hx hb dX2_become_33 rfl (lv_at hl 1 rfl) ?_
  refine q_gi (T := TX2) C S5.1 ga1 4 kF_X2_23 dX2_become_34 rfl rfl (by decide) rfl (by decide) rfl ?_
  refine q_put (T := TX2) C S5 ga0 4 kF_X2_23 dX2_become_37 rfl rfl (by decide) (by decide) rfl rfl rfl rfl rfl (vok_a rfl) (by decide +kernel) (fun H6 L6 S6 P6 => ?_)
  exact retE_v hQ C S6 hr dX2_become_40 (⟨by rw [Pt.i P6, Pt.any P5 (by decide) (by decide) a1, Pt.any P4 (by decide) (by decide) a1, Pt.any P3 (by decide) (by decide) a1, Pt.any P1 (by decide) (by decide) a1], fun q hq => by rw [Pt.f P6 hq, Pt.any P5 (by decide) (by decide) q, Pt.any P4 (by decide) (by decide) q, Pt.any P3 (by decide) (by decide) q, Pt.any P1 (by decide) (by decide) q]⟩)

set_option maxRecDepth 100000 in
set_option maxHeartbeats 4000000 in
theorem c_X3_consider (l : Launch) (D : DD) (G : Nat → Nat) (a0 : Nat) (a1 : Nat) (a2 : Nat) (x3 : Int32) (x4 : Int32) (ga0 : G a0 = 12) (ga1 : G a1 = 8) (ga2 : G a2 = 7) : CE l D G yX3_consider cX3_consider 5 none 0 [.ref a0, .ref a1, .ref a2, .int x3, .int x4] (fun _ => True) [(15, 0)] (xV (fun H H1 => True)) := by
  refine enter (by decide) (Nat.le_of_ble_eq_true rfl) ?_
  intro p e s m args below meth c ls Q hA hQ C hr hO hpre hl
  have hx := C.1
  have hb := C.2.1
  have S : Sd D G [(15, 0)] s.heap s.heap [] := Sd.start hO
  have hl : lv_has ls 5 [(0, .ref a0), (1, .ref a1), (2, .ref a2), (3, .int x3), (4, .int x4)] := hl
  refine lv_aload_n hx hb dX3_consider_0 rfl (lv_at hl 0 rfl) ?_
  refine q_gr (T := TX3) C S.1 ga0 3 kF_X3_15 dX3_consider_1 rfl rfl (by decide) rfl (by decide) rfl (fun g1 => ?_)
  refine lv_iconst (v := 2) hx hb dX3_consider_4 (by decide) ?_
  refine lv_aload_n hx hb dX3_consider_5 rfl (lv_at hl 2 rfl) ?_
  refine q_gi (T := TX2) C S.1 ga2 1 kF_X3_39 dX3_consider_6 rfl rfl (by decide) rfl (by decide) rfl ?_
  have r2 : 0 ≤ (fI D s.heap 2 a2 1).toInt ∧ (fI D s.heap 2 a2 1).toInt ≤ 1 := S.1.rng ga2 rfl (by decide) rfl
  have J4 : ∀ z5 : Int32, (0 ≤ z5.toInt ∧ z5.toInt ≤ 1) → W p l e (rmU 0 0 0) s m args below meth c s.heap [] 0 0 Q (F0 m 17 ls [.int z5, .int (2 : Int32), .ref (fR D s.heap 3 a0 3)]) := by
    intro z5 jz5
    have n6 : aN s.heap (fR D s.heap 3 a0 3) = 13 := len_15 S.1 g1
    have k_2 : (2 : Int32).toInt = 2 := by decide
    refine q_iast C S g1 (by omega) (by omega) dX3_consider_17 rfl (by decide) (by decide +kernel) (fun _ _ h => ak_15 h) (fun H7 L7 S7 P7 => ?_)
    refine lv_aload_n hx hb dX3_consider_18 rfl (lv_at hl 0 rfl) ?_
    refine q_gr (T := TX3) C S7.1 ga0 3 kF_X3_15 dX3_consider_19 rfl rfl (by decide) rfl (by decide) rfl (fun g8 => ?_)
    refine lv_iconst (v := 3) hx hb dX3_consider_22 (by decide) ?_
    refine lv_aload_n hx hb dX3_consider_23 rfl (lv_at hl 1 rfl) ?_
    refine q_gi (T := TX1) C S7.1 ga1 1 kF_X3_45 dX3_consider_24 rfl rfl (by decide) rfl (by decide) rfl ?_
    have J10 : ∀ z11 : Int32, (0 ≤ z11.toInt ∧ z11.toInt ≤ 1) → W p l e (rmU 0 0 0) s m args below meth c H7 L7 0 0 Q (F0 m 35 ls [.int z11, .int (3 : Int32), .ref (fR D H7 3 a0 3)]) := by
      intro z11 jz11
      have n12 : aN H7 (fR D H7 3 a0 3) = 13 := len_15 S7.1 g8
      have k_3 : (3 : Int32).toInt = 3 := by decide
      refine q_iast C S7 g8 (by omega) (by omega) dX3_consider_35 rfl (by decide) (by decide +kernel) (fun _ _ h => ak_15 h) (fun H13 L13 S13 P13 => ?_)
      refine lv_aload_n hx hb dX3_consider_36 rfl (lv_at hl 0 rfl) ?_
      refine q_gr (T := TX3) C S13.1 ga0 3 kF_X3_15 dX3_consider_37 rfl rfl (by decide) rfl (by decide) rfl (fun g14 => ?_)
      refine lv_iconst (v := 4) hx hb dX3_consider_40 (by decide) ?_
      refine lv_aload_n hx hb dX3_consider_41 rfl (lv_at hl 1 rfl) ?_
      refine q_gi (T := TX1) C S13.1 ga1 1 kF_X3_45 dX3_consider_42 rfl rfl (by decide) rfl (by decide) rfl ?_
      refine lv_iconst (v := 1) hx hb dX3_consider_45 (by decide) ?_
      have J16 : ∀ z17 : Int32, (0 ≤ z17.toInt ∧ z17.toInt ≤ 1) → W p l e (rmU 0 0 0) s m args below meth c H13 L13 0 0 Q (F0 m 54 ls [.int z17, .int (4 : Int32), .ref (fR D H13 3 a0 3)]) := by
        intro z17 jz17
        have n18 : aN H13 (fR D H13 3 a0 3) = 13 := len_15 S13.1 g14
        have k_4 : (4 : Int32).toInt = 4 := by decide
        refine q_iast C S13 g14 (by omega) (by omega) dX3_consider_54 rfl (by decide) (by decide +kernel) (fun _ _ h => ak_15 h) (fun H19 L19 S19 P19 => ?_)
        refine lv_aload_n hx hb dX3_consider_55 rfl (lv_at hl 0 rfl) ?_
        refine q_gr (T := TX3) C S19.1 ga0 3 kF_X3_15 dX3_consider_56 rfl rfl (by decide) rfl (by decide) rfl (fun g20 => ?_)
        refine lv_iconst (v := 5) hx hb dX3_consider_59 (by decide) ?_
        refine lv_aload_n hx hb dX3_consider_60 rfl (lv_at hl 1 rfl) ?_
        refine q_gi (T := TX1) C S19.1 ga1 1 kF_X3_45 dX3_consider_61 rfl rfl (by decide) rfl (by decide) rfl ?_
        refine lv_iconst (v := 2) hx hb dX3_consider_64 (by decide) ?_
        have J22 : ∀ z23 : Int32, (0 ≤ z23.toInt ∧ z23.toInt ≤ 1) → W p l e (rmU 0 0 0) s m args below meth c H19 L19 0 0 Q (F0 m 73 ls [.int z23, .int (5 : Int32), .ref (fR D H19 3 a0 3)]) := by
          intro z23 jz23
          have n24 : aN H19 (fR D H19 3 a0 3) = 13 := len_15 S19.1 g20
          have k_5 : (5 : Int32).toInt = 5 := by decide
          refine q_iast C S19 g20 (by omega) (by omega) dX3_consider_73 rfl (by decide) (by decide +kernel) (fun _ _ h => ak_15 h) (fun H25 L25 S25 P25 => ?_)
          refine lv_aload_n hx hb dX3_consider_74 rfl (lv_at hl 0 rfl) ?_
          refine q_gr (T := TX3) C S25.1 ga0 3 kF_X3_15 dX3_consider_75 rfl rfl (by decide) rfl (by decide) rfl (fun g26 => ?_)
          refine lv_bipush (v := 6) hx hb dX3_consider_78 (by decide) ?_
          refine lv_aload_n hx hb dX3_consider_80 rfl (lv_at hl 1 rfl) ?_
          refine q_gi (T := TX1) C S25.1 ga1 1 kF_X3_45 dX3_consider_81 rfl rfl (by decide) rfl (by decide) rfl ?_
          refine lv_iconst (v := 3) hx hb dX3_consider_84 (by decide) ?_
          have J28 : ∀ z29 : Int32, (0 ≤ z29.toInt ∧ z29.toInt ≤ 1) → W p l e (rmU 0 0 0) s m args below meth c H25 L25 0 0 Q (F0 m 93 ls [.int z29, .int (6 : Int32), .ref (fR D H25 3 a0 3)]) := by
            intro z29 jz29
            have n30 : aN H25 (fR D H25 3 a0 3) = 13 := len_15 S25.1 g26
            have k_6 : (6 : Int32).toInt = 6 := by decide
            refine q_iast C S25 g26 (by omega) (by omega) dX3_consider_93 rfl (by decide) (by decide +kernel) (fun _ _ h => ak_15 h) (fun H31 L31 S31 P31 => ?_)
            refine lv_aload_n hx hb dX3_consider_94 rfl (lv_at hl 0 rfl) ?_
            refine q_gr (T := TX3) C S31.1 ga0 3 kF_X3_15 dX3_consider_95 rfl rfl (by decide) rfl (by decide) rfl (fun g32 => ?_)
            refine lv_bipush (v := 7) hx hb dX3_consider_98 (by decide) ?_
            refine lv_aload_n hx hb dX3_consider_100 rfl (lv_at hl 1 rfl) ?_
            refine q_gi (T := TX1) C S31.1 ga1 0 kF_X3_50 dX3_consider_101 rfl rfl (by decide) rfl (by decide) rfl ?_
            have r33 : 0 ≤ (fI D H31 1 a1 0).toInt ∧ (fI D H31 1 a1 0).toInt ≤ 5 := S31.1.rng ga1 rfl (by decide) rfl
            have n34 : aN H31 (fR D H31 3 a0 3) = 13 := len_15 S31.1 g32
            have k_7 : (7 : Int32).toInt = 7 := by decide
            refine q_iast C S31 g32 (by omega) (by omega) dX3_consider_104 rfl (by decide) (by decide +kernel) (fun _ _ h => ak_15 h) (fun H35 L35 S35 P35 => ?_)
            refine lv_aload_n hx hb dX3_consider_105 rfl (lv_at hl 0 rfl) ?_
            refine q_gr (T := TX3) C S35.1 ga0 3 kF_X3_15 dX3_consider_106 rfl rfl (by decide) rfl (by decide) rfl (fun g36 => ?_)
            refine lv_bipush (v := 8) hx hb dX3_consider_109 (by decide) ?_
            refine lv_aload_n hx hb dX3_consider_111 rfl (lv_at hl 1 rfl) ?_
            refine q_gi (T := TX1) C S35.1 ga1 2 kF_X3_53 dX3_consider_112 rfl rfl (by decide) rfl (by decide) rfl ?_
            have n37 : aN H35 (fR D H35 3 a0 3) = 13 := len_15 S35.1 g36
            have k_8 : (8 : Int32).toInt = 8 := by decide
            refine q_iast C S35 g36 (by omega) (by omega) dX3_consider_115 rfl (by decide) (by decide +kernel) (fun _ _ h => ak_15 h) (fun H38 L38 S38 P38 => ?_)
            refine lv_aload_n hx hb dX3_consider_116 rfl (lv_at hl 0 rfl) ?_
            refine q_gr (T := TX3) C S38.1 ga0 3 kF_X3_15 dX3_consider_117 rfl rfl (by decide) rfl (by decide) rfl (fun g39 => ?_)
            refine lv_bipush (v := 9) hx hb dX3_consider_120 (by decide) ?_
            refine lv_aload_n hx hb dX3_consider_122 rfl (lv_at hl 1 rfl) ?_
            refine q_gi (T := TX1) C S38.1 ga1 3 kF_X3_56 dX3_consider_123 rfl rfl (by decide) rfl (by decide) rfl ?_
            have n40 : aN H38 (fR D H38 3 a0 3) = 13 := len_15 S38.1 g39
            have k_9 : (9 : Int32).toInt = 9 := by decide
            refine q_iast C S38 g39 (by omega) (by omega) dX3_consider_126 rfl (by decide) (by decide +kernel) (fun _ _ h => ak_15 h) (fun H41 L41 S41 P41 => ?_)
            refine lv_aload_n hx hb dX3_consider_127 rfl (lv_at hl 0 rfl) ?_
            refine q_gr (T := TX3) C S41.1 ga0 3 kF_X3_15 dX3_consider_128 rfl rfl (by decide) rfl (by decide) rfl (fun g42 => ?_)
            refine lv_bipush (v := 10) hx hb dX3_consider_131 (by decide) ?_
            refine lv_iload_n hx hb dX3_consider_133 rfl (lv_at hl 3 rfl) ?_
            have n43 : aN H41 (fR D H41 3 a0 3) = 13 := len_15 S41.1 g42
            have k_10 : (10 : Int32).toInt = 10 := by decide
            refine q_iast C S41 g42 (by omega) (by omega) dX3_consider_134 rfl (by decide) (by decide +kernel) (fun _ _ h => ak_15 h) (fun H44 L44 S44 P44 => ?_)
            refine lv_aload_n hx hb dX3_consider_135 rfl (lv_at hl 0 rfl) ?_
            refine q_gr (T := TX3) C S44.1 ga0 3 kF_X3_15 dX3_consider_136 rfl rfl (by decide) rfl (by decide) rfl (fun g45 => ?_)
            refine lv_bipush (v := 11) hx hb dX3_consider_139 (by decide) ?_
            refine lv_aload_n hx hb dX3_consider_141 rfl (lv_at hl 2 rfl) ?_
            refine q_gi (T := TX2) C S44.1 ga2 2 kF_X3_59 dX3_consider_142 rfl rfl (by decide) rfl (by decide) rfl ?_
            have n46 : aN H44 (fR D H44 3 a0 3) = 13 := len_15 S44.1 g45
            have k_11 : (11 : Int32).toInt = 11 := by decide
            refine q_iast C S44 g45 (by omega) (by omega) dX3_consider_145 rfl (by decide) (by decide +kernel) (fun _ _ h => ak_15 h) (fun H47 L47 S47 P47 => ?_)
            refine lv_aload_n hx hb dX3_consider_146 rfl (lv_at hl 0 rfl) ?_
            refine q_gr (T := TX3) C S47.1 ga0 3 kF_X3_15 dX3_consider_147 rfl rfl (by decide) rfl (by decide) rfl (fun g48 => ?_)
            refine lv_bipush (v := 12) hx hb dX3_consider_150 (by decide) ?_
            refine lv_iload hx hb dX3_consider_152 (lv_at hl 4 rfl) ?_
            have n49 : aN H47 (fR D H47 3 a0 3) = 13 := len_15 S47.1 g48
            have k_12 : (12 : Int32).toInt = 12 := by decide
            refine q_iast C S47 g48 (by omega) (by omega) dX3_consider_154 rfl (by decide) (by decide +kernel) (fun _ _ h => ak_15 h) (fun H50 L50 S50 P50 => ?_)
            exact retE_v hQ C S50 hr dX3_consider_155 (trivial)
          refine lv_icmp_ne (tgt := 92) hx hb dX3_consider_85 (by decide) (fun c27 => ?_) (fun c27 => ?_)
          · have b27 : ¬ (fI D H25 1 a1 1).toInt = (3 : Int32).toInt := fun z9 => c27 (i_eq.mpr z9)
            refine lv_iconst (v := 0) hx hb dX3_consider_92 (by decide) ?_
            have k_0 : (0 : Int32).toInt = 0 := by decide
            exact J28 (0 : Int32) (by omega)
          · have b27 : (fI D H25 1 a1 1).toInt = (3 : Int32).toInt := i_eq.mp c27
            refine lv_iconst (v := 1) hx hb dX3_consider_88 (by decide) ?_
            refine lv_goto (tgt := 93) hx hb dX3_consider_89 (by decide) ?_
            have k_1 : (1 : Int32).toInt = 1 := by decide
            exact J28 (1 : Int32) (by omega)
        refine lv_icmp_ne (tgt := 72) hx hb dX3_consider_65 (by decide) (fun c21 => ?_) (fun c21 => ?_)
        · have b21 : ¬ (fI D H19 1 a1 1).toInt = (2 : Int32).toInt := fun z9 => c21 (i_eq.mpr z9)
          refine lv_iconst (v := 0) hx hb dX3_consider_72 (by decide) ?_
          have k_0 : (0 : Int32).toInt = 0 := by decide
          exact J22 (0 : Int32) (by omega)
        · have b21 : (fI D H19 1 a1 1).toInt = (2 : Int32).toInt := i_eq.mp c21
          refine lv_iconst (v := 1) hx hb dX3_consider_68 (by decide) ?_
          refine lv_goto (tgt := 73) hx hb dX3_consider_69 (by decide) ?_
          have k_1 : (1 : Int32).toInt = 1 := by decide
          exact J22 (1 : Int32) (by omega)
      have k_1 : (1 : Int32).toInt = 1 := by decide
      refine lv_icmp_ne (tgt := 53) hx hb dX3_consider_46 (by decide) (fun c15 => ?_) (fun c15 => ?_)
      · have b15 : ¬ (fI D H13 1 a1 1).toInt = (1 : Int32).toInt := fun z9 => c15 (i_eq.mpr z9)
        refine lv_iconst (v := 0) hx hb dX3_consider_53 (by decide) ?_
        have k_0 : (0 : Int32).toInt = 0 := by decide
        exact J16 (0 : Int32) (by omega)
      · have b15 : (fI D H13 1 a1 1).toInt = (1 : Int32).toInt := i_eq.mp c15
        refine lv_iconst (v := 1) hx hb dX3_consider_49 (by decide) ?_
        refine lv_goto (tgt := 54) hx hb dX3_consider_50 (by decide) ?_
        exact J16 (1 : Int32) (by omega)
    have k_0 : (0 : Int32).toInt = 0 := by decide
    refine lv_if_ne (tgt := 34) hx hb dX3_consider_27 (by decide) (fun c9 => ?_) (fun c9 => ?_)
    · have b9 : ¬ (fI D H7 1 a1 1).toInt = (0 : Int32).toInt := fun z9 => c9 (i_eq.mpr z9)
      refine lv_iconst (v := 0) hx hb dX3_consider_34 (by decide) ?_
      exact J10 (0 : Int32) (by omega)
    · have b9 : (fI D H7 1 a1 1).toInt = (0 : Int32).toInt := i_eq.mp c9
      refine lv_iconst (v := 1) hx hb dX3_consider_30 (by decide) ?_
      refine lv_goto (tgt := 35) hx hb dX3_consider_31 (by decide) ?_
      have k_1 : (1 : Int32).toInt = 1 := by decide
      exact J10 (1 : Int32) (by omega)
  have k_0 : (0 : Int32).toInt = 0 := by decide
  refine lv_if_eq (tgt := 16) hx hb dX3_consider_9 (by decide) (fun c3 => ?_) (fun c3 => ?_)
  · have b3 : (fI D s.heap 2 a2 1).toInt = (0 : Int32).toInt := i_eq.mp c3
    refine lv_iconst (v := 0) hx hb dX3_consider_16 (by decide) ?_
    exact J4 (0 : Int32) (by omega)
  · have b3 : ¬ (fI D s.heap 2 a2 1).toInt = (0 : Int32).toInt := fun z9 => c3 (i_eq.mpr z9)
    refine lv_iconst (v := 1) hx hb dX3_consider_12 (by decide) ?_
    refine lv_goto (tgt := 17) hx hb dX3_consider_13 (by decide) ?_
    have k_1 : (1 : Int32).toInt = 1 := by decide
    exact J4 (1 : Int32) (by omega)

set_option maxRecDepth 100000 in
set_option maxHeartbeats 4000000 in
theorem c_X3_holds (l : Launch) (D : DD) (G : Nat → Nat) (a0 : Nat) (x1 : Int32) (x2 : Int32) (ga0 : G a0 = 12) (ix1 : 0 ≤ x1.toInt ∧ x1.toInt ≤ 2147483647) : CE l D G yX3_holds cX3_holds 8 (some .boolean) 0 [.ref a0, .int x1, .int x2] (fun H => x2.toInt ≤ aN H (fR D H 3 a0 1)) [(14, 0)] (xI (fun H r H1 => 0 ≤ r.toInt ∧ r.toInt ≤ 1)) := by
  refine enter (by decide) (Nat.le_of_ble_eq_true rfl) ?_
  intro p e s m args below meth c ls Q hA hQ C hr hO hpre hl
  have hx := C.1
  have hb := C.2.1
  have S : Sd D G [(14, 0)] s.heap s.heap [] := Sd.start hO
  have hl : lv_has ls 8 [(0, .ref a0), (1, .int x1), (2, .int x2)] := hl
  have gc : G (fR D s.heap 3 a0 1) = 13 := hO.rol ga0 rfl (by decide) rfl
  have kl : ∀ (H : Heap) (L : List Loc), Sd D G [(14, 0)] s.heap H L → aN H (fR D H 3 a0 1) = aN s.heap (fR D s.heap 3 a0 1) := fun H L S9 => by rw [S9.2.1.fR ga0 rfl (by decide) (by decide)]; unfold aN; rw [S9.2.1.c gc rfl (by decide)]
  refine lv_iconst (v := 0) hx hb dX3_holds_0 (by decide) ?_
  refine lv_istore_n (lv' := [(3, .int (0 : Int32)), (0, .ref a0), (1, .int x1), (2, .int x2)]) hx hb dX3_holds_1 rfl hl (by decide) rfl (fun ls hl => ?_)
  refine lv_iload_n hx hb dX3_holds_2 rfl (lv_at hl 2 rfl) ?_
  refine lv_istore (lv' := [(4, .int x1), (3, .int (0 : Int32)), (0, .ref a0), (1, .int x1), (2, .int x2)]) hx hb dX3_holds_3 hl (by decide) rfl (fun ls hl => ?_)
  have Lp5 : ∀ (n : Nat) (x4_5 : Int32) (x3_5 : Int32) (H_5 : Heap) (L_5 : List Loc) (ls : Array Slot), (Sd D G [(14, 0)] s.heap H_5 L_5) → (0 ≤ x4_5.toInt ∧ x4_5.toInt ≤ 2147483647) → (0 ≤ x3_5.toInt ∧ x3_5.toInt ≤ 32) → 2147483648 - x4_5.toInt ≤ (n : Int) → lv_has ls 8 [(4, .int x4_5), (3, .int x3_5), (0, .ref a0), (2, .int x2)] → W p l e (rmU 0 0 0) s m args below meth c H_5 L_5 0 0 Q (F0 m 5 ls []) := by
    intro n
    induction n with
    | zero =>
      intro x4_5 x3_5 H_5 L_5 ls S_5 j5_0 j5_1 hn hl
      exact absurd hn (by omega)
    | succ n ih5 =>
      intro x4_5 x3_5 H_5 L_5 ls S_5 j5_0 j5_1 hn hl
      have kl5 := kl _ _ S_5
      refine lv_iload hx hb dX3_holds_5 (lv_at hl 0 rfl) ?_
      refine lv_iload_n hx hb dX3_holds_7 rfl (lv_at hl 3 rfl) ?_
      have r2 := i_rng x2
      refine lv_icmp_ge (tgt := 253) hx hb dX3_holds_8 (by decide) (fun c1 => ?_) (fun c1 => ?_)
      · have b1 : x2.toInt ≤ x4_5.toInt := i_le.mp c1
        refine lv_iload_n hx hb dX3_holds_253 rfl (lv_at hl 1 rfl) ?_
        have k_0 : (0 : Int32).toInt = 0 := by decide
        refine lv_if_eq (tgt := 266) hx hb dX3_holds_254 (by decide) (fun c3 => ?_) (fun c3 => ?_)
        · have b3 : x3_5.toInt = (0 : Int32).toInt := i_eq.mp c3
          refine lv_iconst (v := 1) hx hb dX3_holds_266 (by decide) ?_
          refine lv_goto (tgt := 271) hx hb dX3_holds_267 (by decide) ?_
          have k_1 : (1 : Int32).toInt = 1 := by decide
          exact retE_z hQ C S_5 hr dX3_holds_271 (z01 (by omega) (by omega)) (by omega)
        · have b3 : ¬ x3_5.toInt = (0 : Int32).toInt := fun z9 => c3 (i_eq.mpr z9)
          refine lv_aload_n hx hb dX3_holds_257 rfl (lv_at hl 2 rfl) ?_
          refine q_gr (T := TX3) C S_5.1 ga0 2 kF_X3_11 dX3_holds_258 rfl rfl (by decide) rfl (by decide) rfl (fun g4 => ?_)
          refine lv_iconst (v := 0) hx hb dX3_holds_261 (by decide) ?_
          have n5 : aN H_5 (fR D H_5 3 a0 2) = 32 := len_14 S_5.1 g4
          refine q_iald C S_5.1 g4 (by omega) (by omega) dX3_holds_262 rfl (by decide) ?_
          refine lv_topi (fun v6 ev6 => ?_)
          refine lv_if_eq (tgt := 270) hx hb dX3_holds_263 (by decide) (fun c7 => ?_) (fun c7 => ?_)
          · have b7 : v6.toInt = (0 : Int32).toInt := i_eq.mp c7
            refine lv_iconst (v := 0) hx hb dX3_holds_270 (by decide) ?_
            exact retE_z hQ C S_5 hr dX3_holds_271 (z01 (by omega) (by omega)) (by omega)
          · have b7 : ¬ v6.toInt = (0 : Int32).toInt := fun z9 => c7 (i_eq.mpr z9)
            refine lv_iconst (v := 1) hx hb dX3_holds_266 (by decide) ?_
            refine lv_goto (tgt := 271) hx hb dX3_holds_267 (by decide) ?_
            have k_1 : (1 : Int32).toInt = 1 := by decide
            exact retE_z hQ C S_5 hr dX3_holds_271 (z01 (by omega) (by omega)) (by omega)
      · have b1 : ¬ x2.toInt ≤ x4_5.toInt := fun z9 => c1 (i_le.mpr z9)
        refine lv_aload_n hx hb dX3_holds_11 rfl (lv_at hl 2 rfl) ?_
        refine q_gr (T := TX3) C S_5.1 ga0 1 kF_X3_18 dX3_holds_12 rfl rfl (by decide) rfl (by decide) rfl (fun g8 => ?_)
        refine lv_iload hx hb dX3_holds_15 (lv_at hl 0 rfl) ?_
        refine q_iald C S_5.1 g8 (by omega) (by omega) dX3_holds_17 rfl (by decide) ?_
        refine lv_topi (fun v9 ev9 => ?_)
        refine lv_istore (lv' := [(5, .int v9), (4, .int x4_5), (3, .int x3_5), (0, .ref a0), (2, .int x2)]) hx hb dX3_holds_18 hl (by decide) rfl (fun ls hl => ?_)
        refine lv_iload hx hb dX3_holds_20 (lv_at hl 0 rfl) ?_
        refine lv_bipush (v := -13) hx hb dX3_holds_22 (by decide) ?_
        have k_m13 : (-13 : Int32).toInt = -13 := by decide
        refine lv_icmp_le (tgt := 63) hx hb dX3_holds_24 (by decide) (fun c10 => ?_) (fun c10 => ?_)
        · have b10 : v9.toInt ≤ (-13 : Int32).toInt := i_le.mp c10
          refine lv_iload hx hb dX3_holds_63 (lv_at hl 0 rfl) ?_
          refine lv_bipush (v := -13) hx hb dX3_holds_65 (by decide) ?_
          refine lv_icmp_ne (tgt := 96) hx hb dX3_holds_67 (by decide) (fun c11 => ?_) (fun c11 => ?_)
          · have b11 : ¬ v9.toInt = (-13 : Int32).toInt := fun z9 => c11 (i_eq.mpr z9)
            refine lv_iload_n hx hb dX3_holds_96 rfl (lv_at hl 2 rfl) ?_
            refine lv_iconst (v := 2) hx hb dX3_holds_97 (by decide) ?_
            have k_2 : (2 : Int32).toInt = 2 := by decide
            refine lv_icmp_lt (tgt := 247) hx hb dX3_holds_98 (by decide) (fun c12 => ?_) (fun c12 => ?_)
            · have b12 : x3_5.toInt < (2 : Int32).toInt := i_lt.mp c12
              obtain ⟨v13, ev13⟩ : ∃ y : Int32, y = x4_5 + (1) := ⟨_, rfl⟩
              have k_1 : (1 : Int32).toInt = 1 := by decide
              have f14 : v13.toInt = x4_5.toInt + (1) := by rw [ev13]; exact i_addc k_1 (by omega) (by omega)
              refine lv_iinc (v := v13) (lv' := [(4, .int v13), (5, .int v9), (3, .int x3_5), (0, .ref a0), (2, .int x2)]) hx hb dX3_holds_247 hl (k := 1) rfl (by rw [ev13]; rfl) (by decide) rfl (fun ls hl => ?_)
              refine lv_goto (tgt := 5) hx hb dX3_holds_250 (by decide) ?_
              exact ih5 v13 x3_5 H_5 L_5 ls S_5 (by omega) (by omega) (by omega) (lv_sub hl [0, 2, 3, 4] rfl)
            · have b12 : ¬ x3_5.toInt < (2 : Int32).toInt := fun z9 => c12 (i_lt.mpr z9)
              obtain ⟨v15, ev15⟩ : ∃ y : Int32, y = x3_5 + (-1) := ⟨_, rfl⟩
              have k_m1 : (-1 : Int32).toInt = -1 := by decide
              have f16 : v15.toInt = x3_5.toInt + (-1) := by rw [ev15]; exact i_addc k_m1 (by omega) (by omega)
              refine lv_iinc (v := v15) (lv' := [(3, .int v15), (5, .int v9), (4, .int x4_5), (0, .ref a0), (2, .int x2)]) hx hb dX3_holds_101 hl (k := 2) rfl (by rw [ev15]; rfl) (by decide) rfl (fun ls hl => ?_)
              refine lv_aload_n hx hb dX3_holds_104 rfl (lv_at hl 3 rfl) ?_
              refine q_gr (T := TX3) C S_5.1 ga0 2 kF_X3_11 dX3_holds_105 rfl rfl (by decide) rfl (by decide) rfl (fun g17 => ?_)
              refine lv_iload_n hx hb dX3_holds_108 rfl (lv_at hl 0 rfl) ?_
              refine lv_iconst (v := 1) hx hb dX3_holds_109 (by decide) ?_
              have k_1 : (1 : Int32).toInt = 1 := by decide
              refine lv_isub hx hb dX3_holds_110 ?_
              refine lv_topi (fun v18 ev18 => ?_)
              have f19 : v18.toInt = v15.toInt - (1 : Int32).toInt := by rw [ev18]; exact i_sub (by omega) (by omega)
              have n20 : aN H_5 (fR D H_5 3 a0 2) = 32 := len_14 S_5.1 g17
              refine q_iald C S_5.1 g17 (by omega) (by omega) dX3_holds_111 rfl (by decide) ?_
              refine lv_topi (fun v21 ev21 => ?_)
              refine lv_istore (lv' := [(6, .int v21), (3, .int v15), (5, .int v9), (4, .int x4_5), (0, .ref a0), (2, .int x2)]) hx hb dX3_holds_112 hl (by decide) rfl (fun ls hl => ?_)
              refine lv_aload_n hx hb dX3_holds_114 rfl (lv_at hl 4 rfl) ?_
              refine q_gr (T := TX3) C S_5.1 ga0 2 kF_X3_11 dX3_holds_115 rfl rfl (by decide) rfl (by decide) rfl (fun g22 => ?_)
              refine lv_iload_n hx hb dX3_holds_118 rfl (lv_at hl 1 rfl) ?_
              refine q_iald C S_5.1 g22 (by omega) (by omega) dX3_holds_119 rfl (by decide) ?_
              refine lv_topi (fun v23 ev23 => ?_)
              refine lv_istore (lv' := [(7, .int v23), (6, .int v21), (3, .int v15), (5, .int v9), (4, .int x4_5), (0, .ref a0), (2, .int x2)]) hx hb dX3_holds_120 hl (by decide) rfl (fun ls hl => ?_)
              refine lv_iload hx hb dX3_holds_122 (lv_at hl 3 rfl) ?_
              by_cases w24 : v9.toInt = (-17)
              · refine lv_tableIn (tgt := 218) (off := 94) hx hb dX3_holds_124 (by omega) (by omega) (by rw [w24]; rfl) (by decide) ?_
                refine lv_aload_n hx hb dX3_holds_218 rfl (lv_at hl 5 rfl) ?_
                refine q_gr (T := TX3) C S_5.1 ga0 2 kF_X3_11 dX3_holds_219 rfl rfl (by decide) rfl (by decide) rfl (fun g25 => ?_)
                refine lv_iload_n hx hb dX3_holds_222 rfl (lv_at hl 2 rfl) ?_
                refine lv_iconst (v := 1) hx hb dX3_holds_223 (by decide) ?_
                refine lv_isub hx hb dX3_holds_224 ?_
                refine lv_topi (fun v26 ev26 => ?_)
                have f27 : v26.toInt = v15.toInt - (1 : Int32).toInt := by rw [ev26]; exact i_sub (by omega) (by omega)
                refine lv_iload hx hb dX3_holds_225 (lv_at hl 1 rfl) ?_
                refine lv_iload hx hb dX3_holds_227 (lv_at hl 0 rfl) ?_
                refine lv_iand hx hb dX3_holds_229 ?_
                refine lv_topi (fun v28 ev28 => ?_)
                refine q_iast C S_5 g25 (by omega) (by omega) dX3_holds_230 rfl (by decide) (by decide +kernel) (fun _ _ h => ak_14 h) (fun H29 L29 S29 P29 => ?_)
                refine lv_goto (tgt := 247) hx hb dX3_holds_231 (by decide) ?_
                obtain ⟨v30, ev30⟩ : ∃ y : Int32, y = x4_5 + (1) := ⟨_, rfl⟩
                have f31 : v30.toInt = x4_5.toInt + (1) := by rw [ev30]; exact i_addc k_1 (by omega) (by omega)
                refine lv_iinc (v := v30) (lv' := [(4, .int v30), (7, .int v23), (6, .int v21), (3, .int v15), (5, .int v9), (0, .ref a0), (2, .int x2)]) hx hb dX3_holds_247 hl (k := 4) rfl (by rw [ev30]; rfl) (by decide) rfl (fun ls hl => ?_)
                refine lv_goto (tgt := 5) hx hb dX3_holds_250 (by decide) ?_
                exact ih5 v30 v15 H29 L29 ls S29 (by omega) (by omega) (by omega) (lv_sub hl [0, 3, 5, 6] rfl)
              by_cases w32 : v9.toInt = (-16)
              · refine lv_tableIn (tgt := 195) (off := 71) hx hb dX3_holds_124 (by omega) (by omega) (by rw [w32]; rfl) (by decide) ?_
                refine lv_aload_n hx hb dX3_holds_195 rfl (lv_at hl 5 rfl) ?_
                refine q_gr (T := TX3) C S_5.1 ga0 2 kF_X3_11 dX3_holds_196 rfl rfl (by decide) rfl (by decide) rfl (fun g33 => ?_)
                refine lv_iload_n hx hb dX3_holds_199 rfl (lv_at hl 2 rfl) ?_
                refine lv_iconst (v := 1) hx hb dX3_holds_200 (by decide) ?_
                refine lv_isub hx hb dX3_holds_201 ?_
                refine lv_topi (fun v34 ev34 => ?_)
                have f35 : v34.toInt = v15.toInt - (1 : Int32).toInt := by rw [ev34]; exact i_sub (by omega) (by omega)
                refine lv_iload hx hb dX3_holds_202 (lv_at hl 1 rfl) ?_
                refine lv_iload hx hb dX3_holds_204 (lv_at hl 0 rfl) ?_
                have J37 : ∀ z38 : Int32, (0 ≤ z38.toInt ∧ z38.toInt ≤ 1) → W p l e (rmU 0 0 0) s m args below meth c H_5 L_5 0 0 Q (F0 m 214 ls [.int z38, .int v34, .ref (fR D H_5 3 a0 2)]) := by
                  intro z38 jz38
                  refine q_iast C S_5 g33 (by omega) (by omega) dX3_holds_214 rfl (by decide) (by decide +kernel) (fun _ _ h => ak_14 h) (fun H39 L39 S39 P39 => ?_)
                  refine lv_goto (tgt := 247) hx hb dX3_holds_215 (by decide) ?_
                  obtain ⟨v40, ev40⟩ : ∃ y : Int32, y = x4_5 + (1) := ⟨_, rfl⟩
                  have f41 : v40.toInt = x4_5.toInt + (1) := by rw [ev40]; exact i_addc k_1 (by omega) (by omega)
                  refine lv_iinc (v := v40) (lv' := [(4, .int v40), (7, .int v23), (6, .int v21), (3, .int v15), (5, .int v9), (0, .ref a0), (2, .int x2)]) hx hb dX3_holds_247 hl (k := 4) rfl (by rw [ev40]; rfl) (by decide) rfl (fun ls hl => ?_)
                  refine lv_goto (tgt := 5) hx hb dX3_holds_250 (by decide) ?_
                  exact ih5 v40 v15 H39 L39 ls S39 (by omega) (by omega) (by omega) (lv_sub hl [0, 3, 5, 6] rfl)
                refine lv_icmp_le (tgt := 213) hx hb dX3_holds_206 (by decide) (fun c36 => ?_) (fun c36 => ?_)
                · have b36 : v21.toInt ≤ v23.toInt := i_le.mp c36
                  refine lv_iconst (v := 0) hx hb dX3_holds_213 (by decide) ?_
                  have k_0 : (0 : Int32).toInt = 0 := by decide
                  exact J37 (0 : Int32) (by omega)
                · have b36 : ¬ v21.toInt ≤ v23.toInt := fun z9 => c36 (i_le.mpr z9)
                  refine lv_iconst (v := 1) hx hb dX3_holds_209 (by decide) ?_
                  refine lv_goto (tgt := 214) hx hb dX3_holds_210 (by decide) ?_
                  exact J37 (1 : Int32) (by omega)
              by_cases w42 : v9.toInt = (-15)
              · refine lv_tableIn (tgt := 172) (off := 48) hx hb dX3_holds_124 (by omega) (by omega) (by rw [w42]; rfl) (by decide) ?_
                refine lv_aload_n hx hb dX3_holds_172 rfl (lv_at hl 5 rfl) ?_
                refine q_gr (T := TX3) C S_5.1 ga0 2 kF_X3_11 dX3_holds_173 rfl rfl (by decide) rfl (by decide) rfl (fun g43 => ?_)
                refine lv_iload_n hx hb dX3_holds_176 rfl (lv_at hl 2 rfl) ?_
                refine lv_iconst (v := 1) hx hb dX3_holds_177 (by decide) ?_
                refine lv_isub hx hb dX3_holds_178 ?_
                refine lv_topi (fun v44 ev44 => ?_)
                have f45 : v44.toInt = v15.toInt - (1 : Int32).toInt := by rw [ev44]; exact i_sub (by omega) (by omega)
                refine lv_iload hx hb dX3_holds_179 (lv_at hl 1 rfl) ?_
                refine lv_iload hx hb dX3_holds_181 (lv_at hl 0 rfl) ?_
                have J47 : ∀ z48 : Int32, (0 ≤ z48.toInt ∧ z48.toInt ≤ 1) → W p l e (rmU 0 0 0) s m args below meth c H_5 L_5 0 0 Q (F0 m 191 ls [.int z48, .int v44, .ref (fR D H_5 3 a0 2)]) := by
                  intro z48 jz48
                  refine q_iast C S_5 g43 (by omega) (by omega) dX3_holds_191 rfl (by decide) (by decide +kernel) (fun _ _ h => ak_14 h) (fun H49 L49 S49 P49 => ?_)
                  refine lv_goto (tgt := 247) hx hb dX3_holds_192 (by decide) ?_
                  obtain ⟨v50, ev50⟩ : ∃ y : Int32, y = x4_5 + (1) := ⟨_, rfl⟩
                  have f51 : v50.toInt = x4_5.toInt + (1) := by rw [ev50]; exact i_addc k_1 (by omega) (by omega)
                  refine lv_iinc (v := v50) (lv' := [(4, .int v50), (7, .int v23), (6, .int v21), (3, .int v15), (5, .int v9), (0, .ref a0), (2, .int x2)]) hx hb dX3_holds_247 hl (k := 4) rfl (by rw [ev50]; rfl) (by decide) rfl (fun ls hl => ?_)
                  refine lv_goto (tgt := 5) hx hb dX3_holds_250 (by decide) ?_
                  exact ih5 v50 v15 H49 L49 ls S49 (by omega) (by omega) (by omega) (lv_sub hl [0, 3, 5, 6] rfl)
                refine lv_icmp_ge (tgt := 190) hx hb dX3_holds_183 (by decide) (fun c46 => ?_) (fun c46 => ?_)
                · have b46 : v23.toInt ≤ v21.toInt := i_le.mp c46
                  refine lv_iconst (v := 0) hx hb dX3_holds_190 (by decide) ?_
                  have k_0 : (0 : Int32).toInt = 0 := by decide
                  exact J47 (0 : Int32) (by omega)
                · have b46 : ¬ v23.toInt ≤ v21.toInt := fun z9 => c46 (i_le.mpr z9)
                  refine lv_iconst (v := 1) hx hb dX3_holds_186 (by decide) ?_
                  refine lv_goto (tgt := 191) hx hb dX3_holds_187 (by decide) ?_
                  exact J47 (1 : Int32) (by omega)
              by_cases w52 : v9.toInt = (-14)
              · refine lv_tableIn (tgt := 156) (off := 32) hx hb dX3_holds_124 (by omega) (by omega) (by rw [w52]; rfl) (by decide) ?_
                refine lv_aload_n hx hb dX3_holds_156 rfl (lv_at hl 5 rfl) ?_
                refine q_gr (T := TX3) C S_5.1 ga0 2 kF_X3_11 dX3_holds_157 rfl rfl (by decide) rfl (by decide) rfl (fun g53 => ?_)
                refine lv_iload_n hx hb dX3_holds_160 rfl (lv_at hl 2 rfl) ?_
                refine lv_iconst (v := 1) hx hb dX3_holds_161 (by decide) ?_
                refine lv_isub hx hb dX3_holds_162 ?_
                refine lv_topi (fun v54 ev54 => ?_)
                have f55 : v54.toInt = v15.toInt - (1 : Int32).toInt := by rw [ev54]; exact i_sub (by omega) (by omega)
                refine lv_iload hx hb dX3_holds_163 (lv_at hl 1 rfl) ?_
                refine lv_iload hx hb dX3_holds_165 (lv_at hl 0 rfl) ?_
                refine lv_iadd hx hb dX3_holds_167 ?_
                refine lv_topi (fun v56 ev56 => ?_)
                refine q_iast C S_5 g53 (by omega) (by omega) dX3_holds_168 rfl (by decide) (by decide +kernel) (fun _ _ h => ak_14 h) (fun H57 L57 S57 P57 => ?_)
                refine lv_goto (tgt := 247) hx hb dX3_holds_169 (by decide) ?_
                obtain ⟨v58, ev58⟩ : ∃ y : Int32, y = x4_5 + (1) := ⟨_, rfl⟩
                have f59 : v58.toInt = x4_5.toInt + (1) := by rw [ev58]; exact i_addc k_1 (by omega) (by omega)
                refine lv_iinc (v := v58) (lv' := [(4, .int v58), (7, .int v23), (6, .int v21), (3, .int v15), (5, .int v9), (0, .ref a0), (2, .int x2)]) hx hb dX3_holds_247 hl (k := 4) rfl (by rw [ev58]; rfl) (by decide) rfl (fun ls hl => ?_)
                refine lv_goto (tgt := 5) hx hb dX3_holds_250 (by decide) ?_
                exact ih5 v58 v15 H57 L57 ls S57 (by omega) (by omega) (by omega) (lv_sub hl [0, 3, 5, 6] rfl)
              refine lv_tableOut (tgt := 234) hx hb dX3_holds_124 (by omega) (by decide) ?_
              refine lv_aload_n hx hb dX3_holds_234 rfl (lv_at hl 5 rfl) ?_
              refine q_gr (T := TX3) C S_5.1 ga0 2 kF_X3_11 dX3_holds_235 rfl rfl (by decide) rfl (by decide) rfl (fun g60 => ?_)
              refine lv_iload_n hx hb dX3_holds_238 rfl (lv_at hl 2 rfl) ?_
              refine lv_iconst (v := 1) hx hb dX3_holds_239 (by decide) ?_
              refine lv_isub hx hb dX3_holds_240 ?_
              refine lv_topi (fun v61 ev61 => ?_)
              have f62 : v61.toInt = v15.toInt - (1 : Int32).toInt := by rw [ev61]; exact i_sub (by omega) (by omega)
              refine lv_iload hx hb dX3_holds_241 (lv_at hl 1 rfl) ?_
              refine lv_iload hx hb dX3_holds_243 (lv_at hl 0 rfl) ?_
              refine lv_ior hx hb dX3_holds_245 ?_
              refine lv_topi (fun v63 ev63 => ?_)
              refine q_iast C S_5 g60 (by omega) (by omega) dX3_holds_246 rfl (by decide) (by decide +kernel) (fun _ _ h => ak_14 h) (fun H64 L64 S64 P64 => ?_)
              obtain ⟨v65, ev65⟩ : ∃ y : Int32, y = x4_5 + (1) := ⟨_, rfl⟩
              have f66 : v65.toInt = x4_5.toInt + (1) := by rw [ev65]; exact i_addc k_1 (by omega) (by omega)
              refine lv_iinc (v := v65) (lv' := [(4, .int v65), (7, .int v23), (6, .int v21), (3, .int v15), (5, .int v9), (0, .ref a0), (2, .int x2)]) hx hb dX3_holds_247 hl (k := 4) rfl (by rw [ev65]; rfl) (by decide) rfl (fun ls hl => ?_)
              refine lv_goto (tgt := 5) hx hb dX3_holds_250 (by decide) ?_
              exact ih5 v65 v15 H64 L64 ls S64 (by omega) (by omega) (by omega) (lv_sub hl [0, 3, 5, 6] rfl)
          · have b11 : v9.toInt = (-13 : Int32).toInt := i_eq.mp c11
            refine lv_iload_n hx hb dX3_holds_70 rfl (lv_at hl 2 rfl) ?_
            refine lv_iconst (v := 1) hx hb dX3_holds_71 (by decide) ?_
            have k_1 : (1 : Int32).toInt = 1 := by decide
            refine lv_icmp_lt (tgt := 247) hx hb dX3_holds_72 (by decide) (fun c67 => ?_) (fun c67 => ?_)
            · have b67 : x3_5.toInt < (1 : Int32).toInt := i_lt.mp c67
              obtain ⟨v68, ev68⟩ : ∃ y : Int32, y = x4_5 + (1) := ⟨_, rfl⟩
              have f69 : v68.toInt = x4_5.toInt + (1) := by rw [ev68]; exact i_addc k_1 (by omega) (by omega)
              refine lv_iinc (v := v68) (lv' := [(4, .int v68), (5, .int v9), (3, .int x3_5), (0, .ref a0), (2, .int x2)]) hx hb dX3_holds_247 hl (k := 1) rfl (by rw [ev68]; rfl) (by decide) rfl (fun ls hl => ?_)
              refine lv_goto (tgt := 5) hx hb dX3_holds_250 (by decide) ?_
              exact ih5 v68 x3_5 H_5 L_5 ls S_5 (by omega) (by omega) (by omega) (lv_sub hl [0, 2, 3, 4] rfl)
            · have b67 : ¬ x3_5.toInt < (1 : Int32).toInt := fun z9 => c67 (i_lt.mpr z9)
              refine lv_aload_n hx hb dX3_holds_75 rfl (lv_at hl 3 rfl) ?_
              refine q_gr (T := TX3) C S_5.1 ga0 2 kF_X3_11 dX3_holds_76 rfl rfl (by decide) rfl (by decide) rfl (fun g70 => ?_)
              refine lv_iload_n hx hb dX3_holds_79 rfl (lv_at hl 2 rfl) ?_
              refine lv_iconst (v := 1) hx hb dX3_holds_80 (by decide) ?_
              refine lv_isub hx hb dX3_holds_81 ?_
              refine lv_topi (fun v71 ev71 => ?_)
              have f72 : v71.toInt = x3_5.toInt - (1 : Int32).toInt := by rw [ev71]; exact i_sub (by omega) (by omega)
              refine lv_iconst (v := 1) hx hb dX3_holds_82 (by decide) ?_
              refine lv_aload_n hx hb dX3_holds_83 rfl (lv_at hl 3 rfl) ?_
              refine q_gr (T := TX3) C S_5.1 ga0 2 kF_X3_11 dX3_holds_84 rfl rfl (by decide) rfl (by decide) rfl (fun g73 => ?_)
              refine lv_iload_n hx hb dX3_holds_87 rfl (lv_at hl 2 rfl) ?_
              refine lv_iconst (v := 1) hx hb dX3_holds_88 (by decide) ?_
              refine lv_isub hx hb dX3_holds_89 ?_
              refine lv_topi (fun v74 ev74 => ?_)
              have f75 : v74.toInt = x3_5.toInt - (1 : Int32).toInt := by rw [ev74]; exact i_sub (by omega) (by omega)
              have n76 : aN H_5 (fR D H_5 3 a0 2) = 32 := len_14 S_5.1 g73
              refine q_iald C S_5.1 g73 (by omega) (by omega) dX3_holds_90 rfl (by decide) ?_
              refine lv_topi (fun v77 ev77 => ?_)
              refine lv_isub hx hb dX3_holds_91 ?_
              refine lv_topi (fun v78 ev78 => ?_)
              refine q_iast C S_5 g70 (by omega) (by omega) dX3_holds_92 rfl (by decide) (by decide +kernel) (fun _ _ h => ak_14 h) (fun H79 L79 S79 P79 => ?_)
              refine lv_goto (tgt := 247) hx hb dX3_holds_93 (by decide) ?_
              obtain ⟨v80, ev80⟩ : ∃ y : Int32, y = x4_5 + (1) := ⟨_, rfl⟩
              have f81 : v80.toInt = x4_5.toInt + (1) := by rw [ev80]; exact i_addc k_1 (by omega) (by omega)
              refine lv_iinc (v := v80) (lv' := [(4, .int v80), (5, .int v9), (3, .int x3_5), (0, .ref a0), (2, .int x2)]) hx hb dX3_holds_247 hl (k := 1) rfl (by rw [ev80]; rfl) (by decide) rfl (fun ls hl => ?_)
              refine lv_goto (tgt := 5) hx hb dX3_holds_250 (by decide) ?_
              exact ih5 v80 x3_5 H79 L79 ls S79 (by omega) (by omega) (by omega) (lv_sub hl [0, 2, 3, 4] rfl)
        · have b10 : ¬ v9.toInt ≤ (-13 : Int32).toInt := fun z9 => c10 (i_le.mpr z9)
          refine lv_iload_n hx hb dX3_holds_27 rfl (lv_at hl 2 rfl) ?_
          refine lv_bipush (v := 32) hx hb dX3_holds_28 (by decide) ?_
          have k_32 : (32 : Int32).toInt = 32 := by decide
          refine lv_icmp_ge (tgt := 247) hx hb dX3_holds_30 (by decide) (fun c82 => ?_) (fun c82 => ?_)
          · have b82 : (32 : Int32).toInt ≤ x3_5.toInt := i_le.mp c82
            obtain ⟨v83, ev83⟩ : ∃ y : Int32, y = x4_5 + (1) := ⟨_, rfl⟩
            have k_1 : (1 : Int32).toInt = 1 := by decide
            have f84 : v83.toInt = x4_5.toInt + (1) := by rw [ev83]; exact i_addc k_1 (by omega) (by omega)
            refine lv_iinc (v := v83) (lv' := [(4, .int v83), (5, .int v9), (3, .int x3_5), (0, .ref a0), (2, .int x2)]) hx hb dX3_holds_247 hl (k := 1) rfl (by rw [ev83]; rfl) (by decide) rfl (fun ls hl => ?_)
            refine lv_goto (tgt := 5) hx hb dX3_holds_250 (by decide) ?_
            exact ih5 v83 x3_5 H_5 L_5 ls S_5 (by omega) (by omega) (by omega) (lv_sub hl [0, 2, 3, 4] rfl)
          · have b82 : ¬ (32 : Int32).toInt ≤ x3_5.toInt := fun z9 => c82 (i_le.mpr z9)
            refine lv_aload_n hx hb dX3_holds_33 rfl (lv_at hl 3 rfl) ?_
            refine q_gr (T := TX3) C S_5.1 ga0 2 kF_X3_11 dX3_holds_34 rfl rfl (by decide) rfl (by decide) rfl (fun g85 => ?_)
            refine lv_iload_n hx hb dX3_holds_37 rfl (lv_at hl 2 rfl) ?_
            refine lv_iload hx hb dX3_holds_38 (lv_at hl 0 rfl) ?_
            have k_0 : (0 : Int32).toInt = 0 := by decide
            refine lv_if_lt (tgt := 48) hx hb dX3_holds_40 (by decide) (fun c86 => ?_) (fun c86 => ?_)
            · have b86 : v9.toInt < (0 : Int32).toInt := i_lt.mp c86
              refine lv_aload_n hx hb dX3_holds_48 rfl (lv_at hl 3 rfl) ?_
              refine q_gr (T := TX3) C S_5.1 ga0 3 kF_X3_15 dX3_holds_49 rfl rfl (by decide) rfl (by decide) rfl (fun g87 => ?_)
              refine lv_iload hx hb dX3_holds_52 (lv_at hl 0 rfl) ?_
              refine lv_ineg hx hb dX3_holds_54 ?_
              refine lv_topi (fun v88 ev88 => ?_)
              have f89 : v88.toInt = -v9.toInt := by rw [ev88]; exact i_neg (by omega)
              have n90 : aN H_5 (fR D H_5 3 a0 3) = 13 := len_15 S_5.1 g87
              refine q_iald C S_5.1 g87 (by omega) (by omega) dX3_holds_55 rfl (by decide) ?_
              refine lv_topi (fun v91 ev91 => ?_)
              have n92 : aN H_5 (fR D H_5 3 a0 2) = 32 := len_14 S_5.1 g85
              refine q_iast C S_5 g85 (by omega) (by omega) dX3_holds_56 rfl (by decide) (by decide +kernel) (fun _ _ h => ak_14 h) (fun H93 L93 S93 P93 => ?_)
              obtain ⟨v94, ev94⟩ : ∃ y : Int32, y = x3_5 + (1) := ⟨_, rfl⟩
              have k_1 : (1 : Int32).toInt = 1 := by decide
              have f95 : v94.toInt = x3_5.toInt + (1) := by rw [ev94]; exact i_addc k_1 (by omega) (by omega)
              refine lv_iinc (v := v94) (lv' := [(3, .int v94), (5, .int v9), (4, .int x4_5), (0, .ref a0), (2, .int x2)]) hx hb dX3_holds_57 hl (k := 2) rfl (by rw [ev94]; rfl) (by decide) rfl (fun ls hl => ?_)
              refine lv_goto (tgt := 247) hx hb dX3_holds_60 (by decide) ?_
              obtain ⟨v96, ev96⟩ : ∃ y : Int32, y = x4_5 + (1) := ⟨_, rfl⟩
              have f97 : v96.toInt = x4_5.toInt + (1) := by rw [ev96]; exact i_addc k_1 (by omega) (by omega)
              refine lv_iinc (v := v96) (lv' := [(4, .int v96), (3, .int v94), (5, .int v9), (0, .ref a0), (2, .int x2)]) hx hb dX3_holds_247 hl (k := 2) rfl (by rw [ev96]; rfl) (by decide) rfl (fun ls hl => ?_)
              refine lv_goto (tgt := 5) hx hb dX3_holds_250 (by decide) ?_
              exact ih5 v96 v94 H93 L93 ls S93 (by omega) (by omega) (by omega) (lv_sub hl [0, 1, 3, 4] rfl)
            · have b86 : ¬ v9.toInt < (0 : Int32).toInt := fun z9 => c86 (i_lt.mpr z9)
              refine lv_iload hx hb dX3_holds_43 (lv_at hl 0 rfl) ?_
              refine lv_goto (tgt := 56) hx hb dX3_holds_45 (by decide) ?_
              have n98 : aN H_5 (fR D H_5 3 a0 2) = 32 := len_14 S_5.1 g85
              refine q_iast C S_5 g85 (by omega) (by omega) dX3_holds_56 rfl (by decide) (by decide +kernel) (fun _ _ h => ak_14 h) (fun H99 L99 S99 P99 => ?_)
              obtain ⟨v100, ev100⟩ : ∃ y : Int32, y = x3_5 + (1) := ⟨_, rfl⟩
              have k_1 : (1 : Int32).toInt = 1 := by decide
              have f101 : v100.toInt = x3_5.toInt + (1) := by rw [ev100]; exact i_addc k_1 (by omega) (by omega)
              refine lv_iinc (v := v100) (lv' := [(3, .int v100), (5, .int v9), (4, .int x4_5), (0, .ref a0), (2, .int x2)]) hx hb dX3_holds_57 hl (k := 2) rfl (by rw [ev100]; rfl) (by decide) rfl (fun ls hl => ?_)
              refine lv_goto (tgt := 247) hx hb dX3_holds_60 (by decide) ?_
              obtain ⟨v102, ev102⟩ : ∃ y : Int32, y = x4_5 + (1) := ⟨_, rfl⟩
              have f103 : v102.toInt = x4_5.toInt + (1) := by rw [ev102]; exact i_addc k_1 (by omega) (by omega)
              refine lv_iinc (v := v102) (lv' := [(4, .int v102), (3, .int v100), (5, .int v9), (0, .ref a0), (2, .int x2)]) hx hb dX3_holds_247 hl (k := 2) rfl (by rw [ev102]; rfl) (by decide) rfl (fun ls hl => ?_)
              refine lv_goto (tgt := 5) hx hb dX3_holds_250 (by decide) ?_
              exact ih5 v102 v100 H99 L99 ls S99 (by omega) (by omega) (by omega) (lv_sub hl [0, 1, 3, 4] rfl)
  have k_0 : (0 : Int32).toInt = 0 := by decide
  exact Lp5 2147483648 x1 (0 : Int32) s.heap [] ls S (by omega) (by omega)  (by omega) (lv_sub hl [0, 1, 2, 4] rfl)

set_option maxRecDepth 100000 in
set_option maxHeartbeats 4000000 in
theorem c_X3_total (l : Launch) (D : DD) (G : Nat → Nat) (a0 : Nat) (x1 : Int32) (a2 : Nat) (a3 : Nat) (x4 : Int32) (x5 : Int32) (ga0 : G a0 = 12) (ga2 : G a2 = 8) (ga3 : G a3 = 7) : CE l D G yX3_total cX3_total 10 (some .int) 1 [.ref a0, .int x1, .ref a2, .ref a3, .int x4, .int x5] (fun _ => True) [(14, 0), (15, 0)] (xI (fun H r H1 => True)) := by
  refine enter (by decide) (Nat.le_of_ble_eq_true rfl) ?_
  intro p e s m args below meth c ls Q hA hQ C hr hO hpre hl
  have hx := C.1
  have hb := C.2.1
  have S : Sd D G [(14, 0), (15, 0)] s.heap s.heap [] := Sd.start hO
  have hl : lv_has ls 10 [(0, .ref a0), (1, .int x1), (2, .ref a2), (3, .ref a3), (4, .int x4), (5, .int x5)] := hl
  have gc : G (fR D s.heap 3 a0 1) = 13 := hO.rol ga0 rfl (by decide) rfl
  obtain ⟨ff, -, hn31, hff, f4⟩ := hO.ia gc rfl
  generalize hnn : aN s.heap (fR D s.heap 3 a0 1) = nn at *
  have h400 : nn ≤ 400 := hff.1
  have kl : ∀ (H : Heap) (L : List Loc), Sd D G [(14, 0), (15, 0)] s.heap H L → aN H (fR D H 3 a0 1) = nn := fun H L S9 => by rw [← hnn, S9.2.1.fR ga0 rfl (by decide) (by decide)]; unfold aN; rw [S9.2.1.c gc rfl (by decide)]
  have kw : ∀ (H : Heap) (L : List Loc), Sd D G [(14, 0), (15, 0)] s.heap H L → ∀ j, j < nn → eI H (fR D H 3 a0 1) j = ff j := fun H L S9 j hj => by rw [S9.2.1.fR ga0 rfl (by decide) (by decide)]; exact (congrArg vI (eV_of (S9.2.1.c gc rfl (by decide)) j)).trans (f4 j hj)
  refine lv_aload_n hx hb dX3_total_0 rfl (lv_at hl 0 rfl) ?_
  refine lv_aload_n hx hb dX3_total_1 rfl (lv_at hl 2 rfl) ?_
  refine lv_aload_n hx hb dX3_total_2 rfl (lv_at hl 3 rfl) ?_
  refine lv_iload hx hb dX3_total_3 (lv_at hl 4 rfl) ?_
  refine lv_iload hx hb dX3_total_5 (lv_at hl 5 rfl) ?_
  refine callV_Ev C S (c_X3_consider l D G a0 a2 a3 x4 x5 ga0 ga2 ga3) kV_X3_25 ga0 (trivial) (by decide +kernel) dX3_total_7 hl.1 rfl rfl (by decide) cd_X3_consider ⟨Nat.le_of_ble_eq_true rfl, Nat.le_of_ble_eq_true rfl, Nat.le_of_ble_eq_true rfl, Nat.le_of_ble_eq_true rfl, Nat.le_of_ble_eq_true rfl⟩ (fun H1 L1 S1 K1 q1 => ?_)
  refine lv_iconst (v := 0) hx hb dX3_total_10 (by decide) ?_
  refine lv_istore (lv' := [(6, .int (0 : Int32)), (0, .ref a0), (1, .int x1), (2, .ref a2), (3, .ref a3), (4, .int x4), (5, .int x5)]) hx hb dX3_total_11 hl (by decide) rfl (fun ls hl => ?_)
  refine lv_iconst (v := 0) hx hb dX3_total_13 (by decide) ?_
  refine lv_istore (lv' := [(7, .int (0 : Int32)), (6, .int (0 : Int32)), (0, .ref a0), (1, .int x1), (2, .ref a2), (3, .ref a3), (4, .int x4), (5, .int x5)]) hx hb dX3_total_14 hl (by decide) rfl (fun ls hl => ?_)
  refine lv_iconst (v := 0) hx hb dX3_total_16 (by decide) ?_
  refine lv_istore (lv' := [(8, .int (0 : Int32)), (7, .int (0 : Int32)), (6, .int (0 : Int32)), (0, .ref a0), (1, .int x1), (2, .ref a2), (3, .ref a3), (4, .int x4), (5, .int x5)]) hx hb dX3_total_17 hl (by decide) rfl (fun ls hl => ?_)
  have Lp19 : ∀ (n : Nat) (x8_19 : Int32) (x7_19 : Int32) (x6_19 : Int32) (H_19 : Heap) (L_19 : List Loc) (ls : Array Slot), (Sd D G [(14, 0), (15, 0)] s.heap H_19 L_19) → (0 ≤ x8_19.toInt ∧ x8_19.toInt ≤ 2147483647) → (0 ≤ x7_19.toInt ∧ x7_19.toInt ≤ 400) → (∀ k, CH nn ff k x7_19.toInt.toNat) → 2147483648 - x8_19.toInt ≤ (n : Int) → lv_has ls 10 [(8, .int x8_19), (7, .int x7_19), (6, .int x6_19), (0, .ref a0), (1, .int x1)] → W p l e (rmU 1 0 0) s m args below meth c H_19 L_19 0 0 Q (F0 m 19 ls []) := by
    intro n
    induction n with
    | zero =>
      intro x8_19 x7_19 x6_19 H_19 L_19 ls S_19 j19_0 j19_1 u19_0 hn hl
      exact absurd hn (by omega)
    | succ n ih19 =>
      intro x8_19 x7_19 x6_19 H_19 L_19 ls S_19 j19_0 j19_1 u19_0 hn hl
      have kl9 := kl _ _ S_19
      refine lv_iload hx hb dX3_total_19 (lv_at hl 0 rfl) ?_
      refine lv_aload_n hx hb dX3_total_21 rfl (lv_at hl 3 rfl) ?_
      refine q_gi (T := TX3) C S_19.1 ga0 0 kF_X3_21 dX3_total_22 rfl rfl (by decide) rfl (by decide) rfl ?_
      have r3 := i_rng (fI D H_19 3 a0 0)
      refine lv_icmp_ge (tgt := 107) hx hb dX3_total_25 (by decide) (fun c2 => ?_) (fun c2 => ?_)
      · have b2 : (fI D H_19 3 a0 0).toInt ≤ x8_19.toInt := i_le.mp c2
        refine lv_iload hx hb dX3_total_107 (lv_at hl 2 rfl) ?_
        exact retE_i hQ C S_19 hr dX3_total_109 (trivial)
      · have b2 : ¬ (fI D H_19 3 a0 0).toInt ≤ x8_19.toInt := fun z9 => c2 (i_le.mpr z9)
        refine lv_iload hx hb dX3_total_28 (lv_at hl 1 rfl) ?_
        refine lv_iconst (v := 3) hx hb dX3_total_30 (by decide) ?_
        have k_3 : (3 : Int32).toInt = 3 := by decide
        refine lv_iadd hx hb dX3_total_31 ?_
        refine lv_topi (fun v4 ev4 => ?_)
        have f5 : v4.toInt = x7_19.toInt + (3 : Int32).toInt := by rw [ev4]; exact i_add (by omega) (by omega)
        refine lv_aload_n hx hb dX3_total_32 rfl (lv_at hl 3 rfl) ?_
        refine q_gr (T := TX3) C S_19.1 ga0 1 kF_X3_18 dX3_total_33 rfl rfl (by decide) rfl (by decide) rfl (fun g6 => ?_)
        refine q_alen C S_19.1 g6 dX3_total_36 rfl (by decide) rfl (fun v7 fv7 => ?_)
        have r9 := i_rng v7
        refine lv_icmp_gt (tgt := 107) hx hb dX3_total_37 (by decide) (fun c8 => ?_) (fun c8 => ?_)
        · have b8 : v7.toInt < v4.toInt := i_lt.mp c8
          refine lv_iload hx hb dX3_total_107 (lv_at hl 2 rfl) ?_
          exact retE_i hQ C S_19 hr dX3_total_109 (trivial)
        · have b8 : ¬ v7.toInt < v4.toInt := fun z9 => c8 (i_lt.mpr z9)
          refine lv_aload_n hx hb dX3_total_40 rfl (lv_at hl 3 rfl) ?_
          refine q_gr (T := TX3) C S_19.1 ga0 1 kF_X3_18 dX3_total_41 rfl rfl (by decide) rfl (by decide) rfl (fun g10 => ?_)
          refine q_alen C S_19.1 g10 dX3_total_44 rfl (by decide) rfl (fun v11 fv11 => ?_)
          refine lv_aload_n hx hb dX3_total_45 rfl (lv_at hl 3 rfl) ?_
          refine q_gr (T := TX3) C S_19.1 ga0 1 kF_X3_18 dX3_total_46 rfl rfl (by decide) rfl (by decide) rfl (fun g12 => ?_)
          refine lv_iload hx hb dX3_total_49 (lv_at hl 1 rfl) ?_
          refine lv_iconst (v := 2) hx hb dX3_total_51 (by decide) ?_
          have k_2 : (2 : Int32).toInt = 2 := by decide
          refine lv_iadd hx hb dX3_total_52 ?_
          refine lv_topi (fun v13 ev13 => ?_)
          have f14 : v13.toInt = x7_19.toInt + (2 : Int32).toInt := by rw [ev13]; exact i_add (by omega) (by omega)
          refine q_iald C S_19.1 g12 (by omega) (by omega) dX3_total_53 rfl (by decide) ?_
          refine lv_topi (fun v15 ev15 => ?_)
          have q53 : v15.toInt = (ff (x7_19.toInt.toNat + 2)).toInt := by rw [ev15, kw _ _ S_19 _ (by omega), show v13.toInt.toNat = x7_19.toInt.toNat + 2 by omega]
          have hc0 := (u19_0 1 (by omega)).1
          refine q_min C kN_X3_29 dX3_total_54 hl.1 ⟨Nat.le_of_ble_eq_true rfl, Nat.le_of_ble_eq_true rfl, Nat.le_of_ble_eq_true rfl, Nat.le_of_ble_eq_true rfl⟩ (fun v16 fv16 => ?_)
          refine lv_istore (lv' := [(9, .int v16), (8, .int x8_19), (7, .int x7_19), (6, .int x6_19), (0, .ref a0), (1, .int x1)]) hx hb dX3_total_57 hl (by decide) rfl (fun ls hl => ?_)
          have hch : ∀ k, CH nn ff k (min nn (ff (x7_19.toInt.toNat + 2)).toInt.toNat) := fun k => (u19_0 (k + 1) (by omega)).2
          refine lv_aload_n hx hb dX3_total_59 rfl (lv_at hl 4 rfl) ?_
          refine q_gr (T := TX3) C S_19.1 ga0 1 kF_X3_18 dX3_total_60 rfl rfl (by decide) rfl (by decide) rfl (fun g17 => ?_)
          refine lv_iload hx hb dX3_total_63 (lv_at hl 2 rfl) ?_
          refine q_iald C S_19.1 g17 (by omega) (by omega) dX3_total_65 rfl (by decide) ?_
          refine lv_topi (fun v18 ev18 => ?_)
          refine lv_iload_n hx hb dX3_total_66 rfl (lv_at hl 5 rfl) ?_
          refine lv_icmp_ne (tgt := 97) hx hb dX3_total_67 (by decide) (fun c19 => ?_) (fun c19 => ?_)
          · have b19 : ¬ v18.toInt = x1.toInt := fun z9 => c19 (i_eq.mpr z9)
            refine lv_iload hx hb dX3_total_97 (lv_at hl 0 rfl) ?_
            refine lv_istore (lv' := [(7, .int v16), (9, .int v16), (8, .int x8_19), (6, .int x6_19), (0, .ref a0), (1, .int x1)]) hx hb dX3_total_99 hl (by decide) rfl (fun ls hl => ?_)
            obtain ⟨v20, ev20⟩ : ∃ y : Int32, y = x8_19 + (1) := ⟨_, rfl⟩
            have k_1 : (1 : Int32).toInt = 1 := by decide
            have f21 : v20.toInt = x8_19.toInt + (1) := by rw [ev20]; exact i_addc k_1 (by omega) (by omega)
            refine lv_iinc (v := v20) (lv' := [(8, .int v20), (7, .int v16), (9, .int v16), (6, .int x6_19), (0, .ref a0), (1, .int x1)]) hx hb dX3_total_101 hl (k := 2) rfl (by rw [ev20]; rfl) (by decide) rfl (fun ls hl => ?_)
            refine lv_goto (tgt := 19) hx hb dX3_total_104 (by decide) ?_
            exact ih19 v20 v16 x6_19 H_19 L_19 ls S_19 (by omega) (by omega) (by intro k; rw [show v16.toInt.toNat = min nn (ff (x7_19.toInt.toNat + 2)).toInt.toNat by omega]; exact hch k) (by omega) (lv_sub hl [0, 1, 3, 4, 5] rfl)
          · have b19 : v18.toInt = x1.toInt := i_eq.mp c19
            refine lv_aload_n hx hb dX3_total_70 rfl (lv_at hl 4 rfl) ?_
            refine lv_iload hx hb dX3_total_71 (lv_at hl 2 rfl) ?_
            refine lv_iconst (v := 3) hx hb dX3_total_73 (by decide) ?_
            refine lv_iadd hx hb dX3_total_74 ?_
            refine lv_topi (fun v22 ev22 => ?_)
            have f23 : v22.toInt = x7_19.toInt + (3 : Int32).toInt := by rw [ev22]; exact i_add (by omega) (by omega)
            refine lv_iload hx hb dX3_total_75 (lv_at hl 0 rfl) ?_
            refine callV_Ei C S_19 (c_X3_holds l D G a0 v22 v16 ga0 (by omega)) kV_X3_35 ga0 (by rw [kl _ _ S_19]; omega) (by decide +kernel) dX3_total_77 hl.1 rfl rfl (by decide) cd_X3_holds ⟨Nat.le_of_ble_eq_true rfl, Nat.le_of_ble_eq_true rfl, Nat.le_of_ble_eq_true rfl, Nat.le_of_ble_eq_true rfl, Nat.le_of_ble_eq_true rfl⟩ (fun v24 H24 L24 S24 K24 q24 => ?_)
            have k_0 : (0 : Int32).toInt = 0 := by decide
            refine lv_if_eq (tgt := 97) hx hb dX3_total_80 (by decide) (fun c25 => ?_) (fun c25 => ?_)
            · have b25 : v24.toInt = (0 : Int32).toInt := i_eq.mp c25
              refine lv_iload hx hb dX3_total_97 (lv_at hl 0 rfl) ?_
              refine lv_istore (lv' := [(7, .int v16), (9, .int v16), (8, .int x8_19), (6, .int x6_19), (0, .ref a0), (1, .int x1)]) hx hb dX3_total_99 hl (by decide) rfl (fun ls hl => ?_)
              obtain ⟨v26, ev26⟩ : ∃ y : Int32, y = x8_19 + (1) := ⟨_, rfl⟩
              have k_1 : (1 : Int32).toInt = 1 := by decide
              have f27 : v26.toInt = x8_19.toInt + (1) := by rw [ev26]; exact i_addc k_1 (by omega) (by omega)
              refine lv_iinc (v := v26) (lv' := [(8, .int v26), (7, .int v16), (9, .int v16), (6, .int x6_19), (0, .ref a0), (1, .int x1)]) hx hb dX3_total_101 hl (k := 2) rfl (by rw [ev26]; rfl) (by decide) rfl (fun ls hl => ?_)
              refine lv_goto (tgt := 19) hx hb dX3_total_104 (by decide) ?_
              exact ih19 v26 v16 x6_19 H24 L24 ls S24 (by omega) (by omega) (by intro k; rw [show v16.toInt.toNat = min nn (ff (x7_19.toInt.toNat + 2)).toInt.toNat by omega]; exact hch k) (by omega) (lv_sub hl [0, 1, 3, 4, 5] rfl)
            · have b25 : ¬ v24.toInt = (0 : Int32).toInt := fun z9 => c25 (i_eq.mpr z9)
              have kl8 := kl _ _ S24
              refine lv_iload hx hb dX3_total_83 (lv_at hl 3 rfl) ?_
              refine lv_aload_n hx hb dX3_total_85 rfl (lv_at hl 4 rfl) ?_
              refine q_gr (T := TX3) C S24.1 ga0 1 kF_X3_18 dX3_total_86 rfl rfl (by decide) rfl (by decide) rfl (fun g28 => ?_)
              refine lv_iload hx hb dX3_total_89 (lv_at hl 2 rfl) ?_
              refine lv_iconst (v := 1) hx hb dX3_total_91 (by decide) ?_
              have k_1 : (1 : Int32).toInt = 1 := by decide
              refine lv_iadd hx hb dX3_total_92 ?_
              refine lv_topi (fun v29 ev29 => ?_)
              have f30 : v29.toInt = x7_19.toInt + (1 : Int32).toInt := by rw [ev29]; exact i_add (by omega) (by omega)
              refine q_iald C S24.1 g28 (by omega) (by omega) dX3_total_93 rfl (by decide) ?_
              refine lv_topi (fun v31 ev31 => ?_)
              refine lv_iadd hx hb dX3_total_94 ?_
              refine lv_topi (fun v32 ev32 => ?_)
              refine lv_istore (lv' := [(6, .int v32), (9, .int v16), (8, .int x8_19), (7, .int x7_19), (0, .ref a0), (1, .int x1)]) hx hb dX3_total_95 hl (by decide) rfl (fun ls hl => ?_)
              refine lv_iload hx hb dX3_total_97 (lv_at hl 1 rfl) ?_
              refine lv_istore (lv' := [(7, .int v16), (6, .int v32), (9, .int v16), (8, .int x8_19), (0, .ref a0), (1, .int x1)]) hx hb dX3_total_99 hl (by decide) rfl (fun ls hl => ?_)
              obtain ⟨v33, ev33⟩ : ∃ y : Int32, y = x8_19 + (1) := ⟨_, rfl⟩
              have f34 : v33.toInt = x8_19.toInt + (1) := by rw [ev33]; exact i_addc k_1 (by omega) (by omega)
              refine lv_iinc (v := v33) (lv' := [(8, .int v33), (7, .int v16), (6, .int v32), (9, .int v16), (0, .ref a0), (1, .int x1)]) hx hb dX3_total_101 hl (k := 3) rfl (by rw [ev33]; rfl) (by decide) rfl (fun ls hl => ?_)
              refine lv_goto (tgt := 19) hx hb dX3_total_104 (by decide) ?_
              exact ih19 v33 v16 v32 H24 L24 ls S24 (by omega) (by omega) (by intro k; rw [show v16.toInt.toNat = min nn (ff (x7_19.toInt.toNat + 2)).toInt.toNat by omega]; exact hch k) (by omega) (lv_sub hl [0, 1, 2, 4, 5] rfl)
  have k_0 : (0 : Int32).toInt = 0 := by decide
  exact Lp19 2147483648 (0 : Int32) (0 : Int32) (0 : Int32) H1 L1 ls S1 (by omega) (by omega) hff.2  (by omega) (lv_sub hl [0, 1, 2, 3, 4] rfl)
