set_option maxRecDepth 100000 in
set_option maxHeartbeats 4000000 in
theorem c_X4_clear (l : Launch) (D : DD) (G : Nat → Nat) (a0 : Nat) (ga0 : G a0 = 21) : CE l D G yX4_clear cX4_clear 1 none 0 [.ref a0] (fun _ => True) [(21, 3), (21, 4)] (xV (fun H H1 => Lc D H1 a0)) := by
  refine enter (by decide) (Nat.le_of_ble_eq_true rfl) ?_
  intro p e s m args below meth c ls Q hA hQ C hr hO hpre hl
  have hx := C.1
  have hb := C.2.1
  have S : Sd D G [(21, 3), (21, 4)] s.heap s.heap [] := Sd.start hO
  have hl : lv_has ls 1 [(0, .ref a0)] := hl
  refine lv_aload_n hx hb dX4_clear_0 rfl (lv_at hl 0 rfl) ?_
  refine lv_iconst (v := 0) hx hb dX4_clear_1 (by decide) ?_
  have k_0 : (0 : Int32).toInt = 0 := by decide
  refine q_put (T := TX4) C S ga0 3 kF_X4_17 dX4_clear_2 rfl rfl (by decide) (by decide) rfl rfl rfl rfl rfl (vok_i rfl (by omega) (by omega)) (by decide +kernel) (fun H1 L1 S1 P1 => ?_)
  refine lv_aload_n hx hb dX4_clear_5 rfl (lv_at hl 0 rfl) ?_
  refine lv_iconst (v := 0) hx hb dX4_clear_6 (by decide) ?_
  refine q_put (T := TX4) C S1 ga0 4 kF_X4_21 dX4_clear_7 rfl rfl (by decide) (by decide) rfl rfl rfl rfl rfl (vok_a rfl) (by decide +kernel) (fun H2 L2 S2 P2 => ?_)
  exact retE_v hQ C S2 hr dX4_clear_10 (Lc.zero (by rw [Pt.o P2 (by decide) (by decide), Pt.i P1]; decide))

set_option maxRecDepth 100000 in
set_option maxHeartbeats 4000000 in
theorem c_X4_put (l : Launch) (D : DD) (G : Nat → Nat) (a0 : Nat) (x1 : Int32) (ga0 : G a0 = 21) : CE l D G yX4_put cX4_put 2 none 0 [.ref a0, .int x1] (fun _ => True) [(22, 0), (21, 3)] (xV (fun H H1 => ((fI D H 4 a0 3).toInt < 400 → (fI D H1 4 a0 3).toInt = (fI D H 4 a0 3).toInt + 1) ∧ ((fI D H 4 a0 3).toInt = 400 → (fI D H1 4 a0 3).toInt = 400) ∧ Lw D H H1 a0)) := by
  refine enter (by decide) (Nat.le_of_ble_eq_true rfl) ?_
  intro p e s m args below meth c ls Q hA hQ C hr hO hpre hl
  have hx := C.1
  have hb := C.2.1
  have S : Sd D G [(22, 0), (21, 3)] s.heap s.heap [] := Sd.start hO
  have hl : lv_has ls 2 [(0, .ref a0), (1, .int x1)] := hl
  refine lv_aload_n hx hb dX4_put_0 rfl (lv_at hl 0 rfl) ?_
  refine q_gi (T := TX4) C S.1 ga0 3 kF_X4_17 dX4_put_1 rfl rfl (by decide) rfl (by decide) rfl ?_
  have r1 : 0 ≤ (fI D s.heap 4 a0 3).toInt ∧ (fI D s.heap 4 a0 3).toInt ≤ 400 := S.1.rng ga0 rfl (by decide) rfl
  refine lv_aload_n hx hb dX4_put_4 rfl (lv_at hl 0 rfl) ?_
  refine q_gr (T := TX4) C S.1 ga0 2 kF_X4_13 dX4_put_5 rfl rfl (by decide) rfl (by decide) rfl (fun g2 => ?_)
  have n3 : aN s.heap (fR D s.heap 4 a0 2) = 400 := len_22 S.1 g2
  refine q_alen C S.1 g2 dX4_put_8 rfl (by decide) rfl (fun v4 fv4 => ?_)
  refine lv_icmp_ge (tgt := 32) hx hb dX4_put_9 (by decide) (fun c5 => ?_) (fun c5 => ?_)
  · have b5 : v4.toInt ≤ (fI D s.heap 4 a0 3).toInt := i_le.mp c5
    exact retE_v hQ C S hr dX4_put_32 (⟨fun h9 => by omega, fun h9 => by omega, Lw.refl⟩)
  · have b5 : ¬ v4.toInt ≤ (fI D s.heap 4 a0 3).toInt := fun z9 => c5 (i_le.mpr z9)
    refine lv_aload_n hx hb dX4_put_12 rfl (lv_at hl 0 rfl) ?_
    refine q_gr (T := TX4) C S.1 ga0 2 kF_X4_13 dX4_put_13 rfl rfl (by decide) rfl (by decide) rfl (fun g6 => ?_)
    refine lv_aload_n hx hb dX4_put_16 rfl (lv_at hl 0 rfl) ?_
    refine q_gi (T := TX4) C S.1 ga0 3 kF_X4_17 dX4_put_17 rfl rfl (by decide) rfl (by decide) rfl ?_
    refine lv_iload_n hx hb dX4_put_20 rfl (lv_at hl 1 rfl) ?_
    refine q_iast C S g6 (by omega) (by omega) dX4_put_21 rfl (by decide) (by decide +kernel) (fun _ _ h => ak_22 h) (fun H7 L7 S7 P7 => ?_)
    refine lv_aload_n hx hb dX4_put_22 rfl (lv_at hl 0 rfl) ?_
    refine lv_dup hx hb dX4_put_23 rfl ?_
    refine q_gi (T := TX4) C S7.1 ga0 3 kF_X4_17 dX4_put_24 rfl rfl (by decide) rfl (by decide) rfl ?_
    have c8 : (fI D H7 4 a0 3).toInt = (fI D s.heap 4 a0 3).toInt := by rw [Pa.f P7 (ne_role ga0 g6 (by decide))]
    have r9 : 0 ≤ (fI D H7 4 a0 3).toInt ∧ (fI D H7 4 a0 3).toInt ≤ 400 := S7.1.rng ga0 rfl (by decide) rfl
    refine lv_iconst (v := 1) hx hb dX4_put_27 (by decide) ?_
    have k_1 : (1 : Int32).toInt = 1 := by decide
    refine lv_iadd hx hb dX4_put_28 ?_
    refine lv_topi (fun v10 ev10 => ?_)
    have f11 : v10.toInt = (fI D H7 4 a0 3).toInt + (1 : Int32).toInt := by rw [ev10]; exact i_add (by omega) (by omega)
    refine q_put (T := TX4) C S7 ga0 3 kF_X4_17 dX4_put_29 rfl rfl (by decide) (by decide) rfl rfl rfl rfl rfl (vok_i rfl (by omega) (by omega)) (by decide +kernel) (fun H12 L12 S12 P12 => ?_)
    exact retE_v hQ C S12 hr dX4_put_32 (by have z9 := Lw.put hO ga0 P7 (by omega) P12 (by omega); exact ⟨fun _ => z9.1, fun h9 => by omega, z9.2⟩)

set_option maxRecDepth 100000 in
set_option maxHeartbeats 4000000 in
theorem c_X4_presentTruth (l : Launch) (D : DD) (G : Nat → Nat) (a0 : Nat) (ga0 : G a0 = 21) : CP l D G yX4_presentTruth cX4_presentTruth 1 (some .int) 5 [.ref a0] (fun _ => True) (pI (fun H r => -6 ≤ r.toInt ∧ r.toInt ≤ -1)) := by
  refine enter (by decide) (Nat.le_of_ble_eq_true rfl) ?_
  intro p e s m args below meth c ls Q hA hQ C hr hO hpre hl
  have hx := C.1
  have hb := C.2.1
  have hl : lv_has ls 1 [(0, .ref a0)] := hl
  refine lv_aload_n hx hb dX4_presentTruth_0 rfl (lv_at hl 0 rfl) ?_
  refine q_grS (T := TX4) C hO ga0 0 kF_X4_39 dX4_presentTruth_1 rfl rfl (by decide) rfl (by decide) kSF_X4_tape (fun g1 => ?_)
  refine q_lds C ks_X4_97 dX4_presentTruth_4 (fun a2 ha2 => ?_)
  refine callV_Pi C hO (fun _ _ _ => rfl) (c_X9_isWord l D G (fR D s.heap 4 a0 0) a2 5 g1 ha2) kV_X4_61 g1 (trivial) dX4_presentTruth_6 hl.1 rfl rfl (by decide) cd_X9_isWord ⟨Nat.le_of_ble_eq_true rfl, Nat.le_of_ble_eq_true rfl, Nat.le_of_ble_eq_true rfl, Nat.le_of_ble_eq_true rfl, Nat.le_of_ble_eq_true rfl⟩ (fun v3 q3 => ?_)
  have k_0 : (0 : Int32).toInt = 0 := by decide
  refine lv_if_eq (tgt := 15) hx hb dX4_presentTruth_9 (by decide) (fun c4 => ?_) (fun c4 => ?_)
  · have b4 : v3.toInt = (0 : Int32).toInt := i_eq.mp c4
    refine lv_aload_n hx hb dX4_presentTruth_15 rfl (lv_at hl 0 rfl) ?_
    refine q_grS (T := TX4) C hO ga0 0 kF_X4_39 dX4_presentTruth_16 rfl rfl (by decide) rfl (by decide) kSF_X4_tape (fun g5 => ?_)
    refine q_lds C ks_X4_99 dX4_presentTruth_19 (fun a6 ha6 => ?_)
    refine callV_Pi C hO (fun _ _ _ => rfl) (c_X9_isWord l D G (fR D s.heap 4 a0 0) a6 4 g5 ha6) kV_X4_61 g5 (trivial) dX4_presentTruth_21 hl.1 rfl rfl (by decide) cd_X9_isWord ⟨Nat.le_of_ble_eq_true rfl, Nat.le_of_ble_eq_true rfl, Nat.le_of_ble_eq_true rfl, Nat.le_of_ble_eq_true rfl, Nat.le_of_ble_eq_true rfl⟩ (fun v7 q7 => ?_)
    refine lv_if_eq (tgt := 30) hx hb dX4_presentTruth_24 (by decide) (fun c8 => ?_) (fun c8 => ?_)
    · have b8 : v7.toInt = (0 : Int32).toInt := i_eq.mp c8
      refine lv_aload_n hx hb dX4_presentTruth_30 rfl (lv_at hl 0 rfl) ?_
      refine q_grS (T := TX4) C hO ga0 0 kF_X4_39 dX4_presentTruth_31 rfl rfl (by decide) rfl (by decide) kSF_X4_tape (fun g9 => ?_)
      refine q_lds C ks_X4_101 dX4_presentTruth_34 (fun a10 ha10 => ?_)
      refine callV_Pi C hO (fun _ _ _ => rfl) (c_X9_isWord l D G (fR D s.heap 4 a0 0) a10 4 g9 ha10) kV_X4_61 g9 (trivial) dX4_presentTruth_36 hl.1 rfl rfl (by decide) cd_X9_isWord ⟨Nat.le_of_ble_eq_true rfl, Nat.le_of_ble_eq_true rfl, Nat.le_of_ble_eq_true rfl, Nat.le_of_ble_eq_true rfl, Nat.le_of_ble_eq_true rfl⟩ (fun v11 q11 => ?_)
      refine lv_if_eq (tgt := 45) hx hb dX4_presentTruth_39 (by decide) (fun c12 => ?_) (fun c12 => ?_)
      · have b12 : v11.toInt = (0 : Int32).toInt := i_eq.mp c12
        refine lv_aload_n hx hb dX4_presentTruth_45 rfl (lv_at hl 0 rfl) ?_
        refine q_grS (T := TX4) C hO ga0 0 kF_X4_39 dX4_presentTruth_46 rfl rfl (by decide) rfl (by decide) kSF_X4_tape (fun g13 => ?_)
        refine q_lds C ks_X4_103 dX4_presentTruth_49 (fun a14 ha14 => ?_)
        refine callV_Pi C hO (fun _ _ _ => rfl) (c_X9_isWord l D G (fR D s.heap 4 a0 0) a14 5 g13 ha14) kV_X4_61 g13 (trivial) dX4_presentTruth_51 hl.1 rfl rfl (by decide) cd_X9_isWord ⟨Nat.le_of_ble_eq_true rfl, Nat.le_of_ble_eq_true rfl, Nat.le_of_ble_eq_true rfl, Nat.le_of_ble_eq_true rfl, Nat.le_of_ble_eq_true rfl⟩ (fun v15 q15 => ?_)
        refine lv_if_eq (tgt := 60) hx hb dX4_presentTruth_54 (by decide) (fun c16 => ?_) (fun c16 => ?_)
        · have b16 : v15.toInt = (0 : Int32).toInt := i_eq.mp c16
          refine lv_aload_n hx hb dX4_presentTruth_60 rfl (lv_at hl 0 rfl) ?_
          refine q_grS (T := TX4) C hO ga0 0 kF_X4_39 dX4_presentTruth_61 rfl rfl (by decide) rfl (by decide) kSF_X4_tape (fun g17 => ?_)
          refine q_lds C ks_X4_105 dX4_presentTruth_64 (fun a18 ha18 => ?_)
          refine callV_Pi C hO (fun _ _ _ => rfl) (c_X9_isWord l D G (fR D s.heap 4 a0 0) a18 3 g17 ha18) kV_X4_61 g17 (trivial) dX4_presentTruth_66 hl.1 rfl rfl (by decide) cd_X9_isWord ⟨Nat.le_of_ble_eq_true rfl, Nat.le_of_ble_eq_true rfl, Nat.le_of_ble_eq_true rfl, Nat.le_of_ble_eq_true rfl, Nat.le_of_ble_eq_true rfl⟩ (fun v19 q19 => ?_)
          refine lv_if_eq (tgt := 77) hx hb dX4_presentTruth_69 (by decide) (fun c20 => ?_) (fun c20 => ?_)
          · have b20 : v19.toInt = (0 : Int32).toInt := i_eq.mp c20
            refine lv_iconst (v := -1) hx hb dX4_presentTruth_77 (by decide) ?_
            have k_m1 : (-1 : Int32).toInt = -1 := by decide
            exact retP_i hQ C hr dX4_presentTruth_78 (by omega)
          · have b20 : ¬ v19.toInt = (0 : Int32).toInt := fun z9 => c20 (i_eq.mpr z9)
            refine lv_bipush (v := -6) hx hb dX4_presentTruth_72 (by decide) ?_
            refine lv_goto (tgt := 78) hx hb dX4_presentTruth_74 (by decide) ?_
            have k_m6 : (-6 : Int32).toInt = -6 := by decide
            exact retP_i hQ C hr dX4_presentTruth_78 (by omega)
        · have b16 : ¬ v15.toInt = (0 : Int32).toInt := fun z9 => c16 (i_eq.mpr z9)
          refine lv_bipush (v := -5) hx hb dX4_presentTruth_57 (by decide) ?_
          have k_m5 : (-5 : Int32).toInt = -5 := by decide
          exact retP_i hQ C hr dX4_presentTruth_59 (by omega)
      · have b12 : ¬ v11.toInt = (0 : Int32).toInt := fun z9 => c12 (i_eq.mpr z9)
        refine lv_bipush (v := -4) hx hb dX4_presentTruth_42 (by decide) ?_
        have k_m4 : (-4 : Int32).toInt = -4 := by decide
        exact retP_i hQ C hr dX4_presentTruth_44 (by omega)
    · have b8 : ¬ v7.toInt = (0 : Int32).toInt := fun z9 => c8 (i_eq.mpr z9)
      refine lv_bipush (v := -3) hx hb dX4_presentTruth_27 (by decide) ?_
      have k_m3 : (-3 : Int32).toInt = -3 := by decide
      exact retP_i hQ C hr dX4_presentTruth_29 (by omega)
  · have b4 : ¬ v3.toInt = (0 : Int32).toInt := fun z9 => c4 (i_eq.mpr z9)
    refine lv_bipush (v := -2) hx hb dX4_presentTruth_12 (by decide) ?_
    have k_m2 : (-2 : Int32).toInt = -2 := by decide
    exact retP_i hQ C hr dX4_presentTruth_14 (by omega)

set_option maxRecDepth 100000 in
set_option maxHeartbeats 4000000 in
theorem c_X4_readSum (l : Launch) (D : DD) (G : Nat → Nat) (a0 : Nat) (ga0 : G a0 = 21) : CE l D G yX4_readSum cX4_readSum 2 (some .boolean) 5 [.ref a0] (fun _ => True) [(2, 3), (2, 4), (2, 5), (2, 6), (2, 2), (22, 0), (21, 3)] (xI (fun H r H1 => (0 ≤ r.toInt ∧ r.toInt ≤ 1) ∧ (Lw D H H1 a0))) := by
  refine enter (by decide) (Nat.le_of_ble_eq_true rfl) ?_
  intro p e s m args below meth c ls Q hA hQ C hr hO hpre hl
  have hx := C.1
  have hb := C.2.1
  have S : Sd D G [(2, 3), (2, 4), (2, 5), (2, 6), (2, 2), (22, 0), (21, 3)] s.heap s.heap [] := Sd.start hO
  have hl : lv_has ls 2 [(0, .ref a0)] := hl
  have tk0 : Lw D s.heap s.heap a0 := Lw.refl
  refine lv_iconst (v := 0) hx hb dX4_readSum_0 (by decide) ?_
  refine lv_istore_n (lv' := [(1, .int (0 : Int32)), (0, .ref a0)]) hx hb dX4_readSum_1 rfl hl (by decide) rfl (fun ls hl => ?_)
  have Lp2 : ∀ (n : Nat) (x1_2 : Int32) (H_2 : Heap) (L_2 : List Loc) (ls : Array Slot), (Sd D G [(2, 3), (2, 4), (2, 5), (2, 6), (2, 2), (22, 0), (21, 3)] s.heap H_2 L_2) → (0 ≤ x1_2.toInt ∧ x1_2.toInt ≤ 2147483647) → (Lw D s.heap H_2 a0) → 2147483648 - x1_2.toInt ≤ (n : Int) → lv_has ls 2 [(1, .int x1_2), (0, .ref a0)] → W p l e (rmU 5 0 0) s m args below meth c H_2 L_2 0 0 Q (F0 m 2 ls []) := by
    intro n
    induction n with
    | zero =>
      intro x1_2 H_2 L_2 ls S_2 j2_0 u2_0 hn hl
      exact absurd hn (by omega)
    | succ n ih2 =>
      intro x1_2 H_2 L_2 ls S_2 j2_0 u2_0 hn hl
      refine lv_iload_n hx hb dX4_readSum_2 rfl (lv_at hl 0 rfl) ?_
      refine lv_sipush (v := 400) hx hb dX4_readSum_3 (by decide) ?_
      have k_400 : (400 : Int32).toInt = 400 := by decide
      refine lv_icmp_ge (tgt := 225) hx hb dX4_readSum_6 (by decide) (fun c1 => ?_) (fun c1 => ?_)
      · have b1 : (400 : Int32).toInt ≤ x1_2.toInt := i_le.mp c1
        refine lv_aload_n hx hb dX4_readSum_225 rfl (lv_at hl 1 rfl) ?_
        refine q_grS (T := TX4) C S_2.1 ga0 0 kF_X4_39 dX4_readSum_226 rfl rfl (by decide) rfl (by decide) kSF_X4_tape (fun g2 => ?_)
        refine callV_Ei C S_2 (c_X9_refuse l D G (fR D H_2 4 a0 0) g2) kV_X4_43 g2 (trivial) (by decide +kernel) dX4_readSum_229 hl.1 rfl rfl (by decide) cd_X9_refuse ⟨Nat.le_of_ble_eq_true rfl, Nat.le_of_ble_eq_true rfl, Nat.le_of_ble_eq_true rfl, Nat.le_of_ble_eq_true rfl, Nat.le_of_ble_eq_true rfl⟩ (fun v3 H3 L3 S3 K3 q3 => ?_)
        have tk3 : Lw D s.heap H3 a0 := u2_0.trans (Lw.keep S_2.1 ga0 K3 (by decide +kernel) (by decide +kernel) (by decide +kernel))
        exact retE_z hQ C S3 hr dX4_readSum_232 (z01 (by omega) (by omega)) (⟨by omega, tk3⟩)
      · have b1 : ¬ (400 : Int32).toInt ≤ x1_2.toInt := fun z9 => c1 (i_le.mpr z9)
        refine lv_aload_n hx hb dX4_readSum_9 rfl (lv_at hl 1 rfl) ?_
        refine q_grS (T := TX4) C S_2.1 ga0 0 kF_X4_39 dX4_readSum_10 rfl rfl (by decide) rfl (by decide) kSF_X4_tape (fun g4 => ?_)
        refine q_gi (T := TX9) C S_2.1 g4 3 kF_X4_110 dX4_readSum_13 rfl rfl (by decide) rfl (by decide) rfl ?_
        refine lv_iconst (v := 2) hx hb dX4_readSum_16 (by decide) ?_
        have k_2 : (2 : Int32).toInt = 2 := by decide
        refine lv_icmp_ne (tgt := 47) hx hb dX4_readSum_17 (by decide) (fun c5 => ?_) (fun c5 => ?_)
        · have b5 : ¬ (fI D H_2 9 (fR D H_2 4 a0 0) 3).toInt = (2 : Int32).toInt := fun z9 => c5 (i_eq.mpr z9)
          refine lv_aload_n hx hb dX4_readSum_47 rfl (lv_at hl 1 rfl) ?_
          refine q_grS (T := TX4) C S_2.1 ga0 0 kF_X4_39 dX4_readSum_48 rfl rfl (by decide) rfl (by decide) kSF_X4_tape (fun g6 => ?_)
          refine q_lds C ks_X4_116 dX4_readSum_51 (fun a7 ha7 => ?_)
          refine callV_Pi C S_2.1 S_2.2.1.2.1 (c_X9_isWord l D G (fR D H_2 4 a0 0) a7 5 g6 ha7) kV_X4_61 g6 (trivial) dX4_readSum_53 hl.1 rfl rfl (by decide) cd_X9_isWord ⟨Nat.le_of_ble_eq_true rfl, Nat.le_of_ble_eq_true rfl, Nat.le_of_ble_eq_true rfl, Nat.le_of_ble_eq_true rfl, Nat.le_of_ble_eq_true rfl⟩ (fun v8 q8 => ?_)
          have k_0 : (0 : Int32).toInt = 0 := by decide
          refine lv_if_eq (tgt := 68) hx hb dX4_readSum_56 (by decide) (fun c9 => ?_) (fun c9 => ?_)
          · have b9 : v8.toInt = (0 : Int32).toInt := i_eq.mp c9
            refine lv_aload_n hx hb dX4_readSum_68 rfl (lv_at hl 1 rfl) ?_
            refine q_grS (T := TX4) C S_2.1 ga0 0 kF_X4_39 dX4_readSum_69 rfl rfl (by decide) rfl (by decide) kSF_X4_tape (fun g10 => ?_)
            refine q_lds C ks_X4_118 dX4_readSum_72 (fun a11 ha11 => ?_)
            refine callV_Pi C S_2.1 S_2.2.1.2.1 (c_X9_isWord l D G (fR D H_2 4 a0 0) a11 4 g10 ha11) kV_X4_61 g10 (trivial) dX4_readSum_74 hl.1 rfl rfl (by decide) cd_X9_isWord ⟨Nat.le_of_ble_eq_true rfl, Nat.le_of_ble_eq_true rfl, Nat.le_of_ble_eq_true rfl, Nat.le_of_ble_eq_true rfl, Nat.le_of_ble_eq_true rfl⟩ (fun v12 q12 => ?_)
            refine lv_if_eq (tgt := 89) hx hb dX4_readSum_77 (by decide) (fun c13 => ?_) (fun c13 => ?_)
            · have b13 : v12.toInt = (0 : Int32).toInt := i_eq.mp c13
              refine lv_aload_n hx hb dX4_readSum_89 rfl (lv_at hl 1 rfl) ?_
              refine q_grS (T := TX4) C S_2.1 ga0 0 kF_X4_39 dX4_readSum_90 rfl rfl (by decide) rfl (by decide) kSF_X4_tape (fun g14 => ?_)
              refine q_lds C ks_X4_120 dX4_readSum_93 (fun a15 ha15 => ?_)
              refine callV_Pi C S_2.1 S_2.2.1.2.1 (c_X9_isWord l D G (fR D H_2 4 a0 0) a15 4 g14 ha15) kV_X4_61 g14 (trivial) dX4_readSum_95 hl.1 rfl rfl (by decide) cd_X9_isWord ⟨Nat.le_of_ble_eq_true rfl, Nat.le_of_ble_eq_true rfl, Nat.le_of_ble_eq_true rfl, Nat.le_of_ble_eq_true rfl, Nat.le_of_ble_eq_true rfl⟩ (fun v16 q16 => ?_)
              refine lv_if_eq (tgt := 110) hx hb dX4_readSum_98 (by decide) (fun c17 => ?_) (fun c17 => ?_)
              · have b17 : v16.toInt = (0 : Int32).toInt := i_eq.mp c17
                refine lv_aload_n hx hb dX4_readSum_110 rfl (lv_at hl 1 rfl) ?_
                refine q_grS (T := TX4) C S_2.1 ga0 0 kF_X4_39 dX4_readSum_111 rfl rfl (by decide) rfl (by decide) kSF_X4_tape (fun g18 => ?_)
                refine q_lds C ks_X4_122 dX4_readSum_114 (fun a19 ha19 => ?_)
                refine callV_Pi C S_2.1 S_2.2.1.2.1 (c_X9_isWord l D G (fR D H_2 4 a0 0) a19 7 g18 ha19) kV_X4_61 g18 (trivial) dX4_readSum_116 hl.1 rfl rfl (by decide) cd_X9_isWord ⟨Nat.le_of_ble_eq_true rfl, Nat.le_of_ble_eq_true rfl, Nat.le_of_ble_eq_true rfl, Nat.le_of_ble_eq_true rfl, Nat.le_of_ble_eq_true rfl⟩ (fun v20 q20 => ?_)
                refine lv_if_eq (tgt := 131) hx hb dX4_readSum_119 (by decide) (fun c21 => ?_) (fun c21 => ?_)
                · have b21 : v20.toInt = (0 : Int32).toInt := i_eq.mp c21
                  refine lv_aload_n hx hb dX4_readSum_131 rfl (lv_at hl 1 rfl) ?_
                  refine q_grS (T := TX4) C S_2.1 ga0 0 kF_X4_39 dX4_readSum_132 rfl rfl (by decide) rfl (by decide) kSF_X4_tape (fun g22 => ?_)
                  refine q_lds C ks_X4_124 dX4_readSum_135 (fun a23 ha23 => ?_)
                  refine callV_Pi C S_2.1 S_2.2.1.2.1 (c_X9_isWord l D G (fR D H_2 4 a0 0) a23 7 g22 ha23) kV_X4_61 g22 (trivial) dX4_readSum_137 hl.1 rfl rfl (by decide) cd_X9_isWord ⟨Nat.le_of_ble_eq_true rfl, Nat.le_of_ble_eq_true rfl, Nat.le_of_ble_eq_true rfl, Nat.le_of_ble_eq_true rfl, Nat.le_of_ble_eq_true rfl⟩ (fun v24 q24 => ?_)
                  refine lv_if_eq (tgt := 152) hx hb dX4_readSum_140 (by decide) (fun c25 => ?_) (fun c25 => ?_)
                  · have b25 : v24.toInt = (0 : Int32).toInt := i_eq.mp c25
                    refine lv_aload_n hx hb dX4_readSum_152 rfl (lv_at hl 1 rfl) ?_
                    refine q_grS (T := TX4) C S_2.1 ga0 0 kF_X4_39 dX4_readSum_153 rfl rfl (by decide) rfl (by decide) kSF_X4_tape (fun g26 => ?_)
                    refine q_lds C ks_X4_126 dX4_readSum_156 (fun a27 ha27 => ?_)
                    refine callV_Pi C S_2.1 S_2.2.1.2.1 (c_X9_isWord l D G (fR D H_2 4 a0 0) a27 7 g26 ha27) kV_X4_61 g26 (trivial) dX4_readSum_158 hl.1 rfl rfl (by decide) cd_X9_isWord ⟨Nat.le_of_ble_eq_true rfl, Nat.le_of_ble_eq_true rfl, Nat.le_of_ble_eq_true rfl, Nat.le_of_ble_eq_true rfl, Nat.le_of_ble_eq_true rfl⟩ (fun v28 q28 => ?_)
                    refine lv_if_eq (tgt := 173) hx hb dX4_readSum_161 (by decide) (fun c29 => ?_) (fun c29 => ?_)
                    · have b29 : v28.toInt = (0 : Int32).toInt := i_eq.mp c29
                      refine lv_aload_n hx hb dX4_readSum_173 rfl (lv_at hl 1 rfl) ?_
                      refine q_grS (T := TX4) C S_2.1 ga0 0 kF_X4_39 dX4_readSum_174 rfl rfl (by decide) rfl (by decide) kSF_X4_tape (fun g30 => ?_)
                      refine callV_Ei C S_2 (c_X9_refuse l D G (fR D H_2 4 a0 0) g30) kV_X4_43 g30 (trivial) (by decide +kernel) dX4_readSum_177 hl.1 rfl rfl (by decide) cd_X9_refuse ⟨Nat.le_of_ble_eq_true rfl, Nat.le_of_ble_eq_true rfl, Nat.le_of_ble_eq_true rfl, Nat.le_of_ble_eq_true rfl, Nat.le_of_ble_eq_true rfl⟩ (fun v31 H31 L31 S31 K31 q31 => ?_)
                      have tk31 : Lw D s.heap H31 a0 := u2_0.trans (Lw.keep S_2.1 ga0 K31 (by decide +kernel) (by decide +kernel) (by decide +kernel))
                      exact retE_z hQ C S31 hr dX4_readSum_180 (z01 (by omega) (by omega)) (⟨by omega, tk31⟩)
                    · have b29 : ¬ v28.toInt = (0 : Int32).toInt := fun z9 => c29 (i_eq.mpr z9)
                      refine lv_aload_n hx hb dX4_readSum_164 rfl (lv_at hl 1 rfl) ?_
                      refine lv_bipush (v := -12) hx hb dX4_readSum_165 (by decide) ?_
                      have k_m12 : (-12 : Int32).toInt = -12 := by decide
                      refine callV_Ev C S_2 (c_X4_put l D G a0 (-12 : Int32) ga0) kV_X4_55 ga0 (trivial) (by decide +kernel) dX4_readSum_167 hl.1 rfl rfl (by decide) cd_X4_put ⟨Nat.le_of_ble_eq_true rfl, Nat.le_of_ble_eq_true rfl, Nat.le_of_ble_eq_true rfl, Nat.le_of_ble_eq_true rfl, Nat.le_of_ble_eq_true rfl⟩ (fun H32 L32 S32 K32 q32 => ?_)
                      obtain ⟨qa32, qb32, tq32⟩ := q32
                      have tk32 : Lw D s.heap H32 a0 := u2_0.trans tq32
                      refine lv_goto (tgt := 181) hx hb dX4_readSum_170 (by decide) ?_
                      refine lv_aload_n hx hb dX4_readSum_181 rfl (lv_at hl 1 rfl) ?_
                      refine q_grS (T := TX4) C S32.1 ga0 0 kF_X4_39 dX4_readSum_182 rfl rfl (by decide) rfl (by decide) kSF_X4_tape (fun g33 => ?_)
                      refine callV_Ev C S32 (c_X9_next l D G (fR D H32 4 a0 0) g33) kV_X4_47 g33 (trivial) (by decide +kernel) dX4_readSum_185 hl.1 rfl rfl (by decide) cd_X9_next ⟨Nat.le_of_ble_eq_true rfl, Nat.le_of_ble_eq_true rfl, Nat.le_of_ble_eq_true rfl, Nat.le_of_ble_eq_true rfl, Nat.le_of_ble_eq_true rfl⟩ (fun H34 L34 S34 K34 q34 => ?_)
                      have tk34 : Lw D s.heap H34 a0 := tk32.trans (Lw.keep S32.1 ga0 K34 (by decide +kernel) (by decide +kernel) (by decide +kernel))
                      refine lv_iload_n hx hb dX4_readSum_188 rfl (lv_at hl 0 rfl) ?_
                      refine lv_if_le (tgt := 198) hx hb dX4_readSum_189 (by decide) (fun c35 => ?_) (fun c35 => ?_)
                      · have b35 : x1_2.toInt ≤ (0 : Int32).toInt := i_le.mp c35
                        refine lv_aload_n hx hb dX4_readSum_198 rfl (lv_at hl 1 rfl) ?_
                        refine q_grS (T := TX4) C S34.1 ga0 0 kF_X4_39 dX4_readSum_199 rfl rfl (by decide) rfl (by decide) kSF_X4_tape (fun g36 => ?_)
                        refine lv_bipush (v := 43) hx hb dX4_readSum_202 (by decide) ?_
                        have k_43 : (43 : Int32).toInt = 43 := by decide
                        refine callV_Pi C S34.1 S34.2.1.2.1 (c_X9_isSign l D G (fR D H34 4 a0 0) (43 : Int32) g36) kV_X4_84 g36 (trivial) dX4_readSum_204 hl.1 rfl rfl (by decide) cd_X9_isSign ⟨Nat.le_of_ble_eq_true rfl, Nat.le_of_ble_eq_true rfl, Nat.le_of_ble_eq_true rfl, Nat.le_of_ble_eq_true rfl, Nat.le_of_ble_eq_true rfl⟩ (fun v37 q37 => ?_)
                        refine lv_if_ne (tgt := 212) hx hb dX4_readSum_207 (by decide) (fun c38 => ?_) (fun c38 => ?_)
                        · have b38 : ¬ v37.toInt = (0 : Int32).toInt := fun z9 => c38 (i_eq.mpr z9)
                          refine lv_aload_n hx hb dX4_readSum_212 rfl (lv_at hl 1 rfl) ?_
                          refine q_grS (T := TX4) C S34.1 ga0 0 kF_X4_39 dX4_readSum_213 rfl rfl (by decide) rfl (by decide) kSF_X4_tape (fun g39 => ?_)
                          refine callV_Ev C S34 (c_X9_next l D G (fR D H34 4 a0 0) g39) kV_X4_47 g39 (trivial) (by decide +kernel) dX4_readSum_216 hl.1 rfl rfl (by decide) cd_X9_next ⟨Nat.le_of_ble_eq_true rfl, Nat.le_of_ble_eq_true rfl, Nat.le_of_ble_eq_true rfl, Nat.le_of_ble_eq_true rfl, Nat.le_of_ble_eq_true rfl⟩ (fun H40 L40 S40 K40 q40 => ?_)
                          have tk40 : Lw D s.heap H40 a0 := tk34.trans (Lw.keep S34.1 ga0 K40 (by decide +kernel) (by decide +kernel) (by decide +kernel))
                          obtain ⟨v41, ev41⟩ : ∃ y : Int32, y = x1_2 + (1) := ⟨_, rfl⟩
                          have k_1 : (1 : Int32).toInt = 1 := by decide
                          have f42 : v41.toInt = x1_2.toInt + (1) := by rw [ev41]; exact i_addc k_1 (by omega) (by omega)
                          refine lv_iinc (v := v41) (lv' := [(1, .int v41), (0, .ref a0)]) hx hb dX4_readSum_219 hl (k := 0) rfl (by rw [ev41]; rfl) (by decide) rfl (fun ls hl => ?_)
                          refine lv_goto (tgt := 2) hx hb dX4_readSum_222 (by decide) ?_
                          exact ih2 v41 H40 L40 ls S40 (by omega) tk40 (by omega) (lv_sub hl [0, 1] rfl)
                        · have b38 : v37.toInt = (0 : Int32).toInt := i_eq.mp c38
                          refine lv_iconst (v := 1) hx hb dX4_readSum_210 (by decide) ?_
                          have k_1 : (1 : Int32).toInt = 1 := by decide
                          exact retE_z hQ C S34 hr dX4_readSum_211 (z01 (by omega) (by omega)) (⟨by omega, tk34⟩)
                      · have b35 : ¬ x1_2.toInt ≤ (0 : Int32).toInt := fun z9 => c35 (i_le.mpr z9)
                        refine lv_aload_n hx hb dX4_readSum_192 rfl (lv_at hl 1 rfl) ?_
                        refine lv_bipush (v := -14) hx hb dX4_readSum_193 (by decide) ?_
                        have k_m14 : (-14 : Int32).toInt = -14 := by decide
                        refine callV_Ev C S34 (c_X4_put l D G a0 (-14 : Int32) ga0) kV_X4_55 ga0 (trivial) (by decide +kernel) dX4_readSum_195 hl.1 rfl rfl (by decide) cd_X4_put ⟨Nat.le_of_ble_eq_true rfl, Nat.le_of_ble_eq_true rfl, Nat.le_of_ble_eq_true rfl, Nat.le_of_ble_eq_true rfl, Nat.le_of_ble_eq_true rfl⟩ (fun H43 L43 S43 K43 q43 => ?_)
                        obtain ⟨qa43, qb43, tq43⟩ := q43
                        have tk43 : Lw D s.heap H43 a0 := tk34.trans tq43
                        refine lv_aload_n hx hb dX4_readSum_198 rfl (lv_at hl 1 rfl) ?_
                        refine q_grS (T := TX4) C S43.1 ga0 0 kF_X4_39 dX4_readSum_199 rfl rfl (by decide) rfl (by decide) kSF_X4_tape (fun g44 => ?_)
                        refine lv_bipush (v := 43) hx hb dX4_readSum_202 (by decide) ?_
                        have k_43 : (43 : Int32).toInt = 43 := by decide
                        refine callV_Pi C S43.1 S43.2.1.2.1 (c_X9_isSign l D G (fR D H43 4 a0 0) (43 : Int32) g44) kV_X4_84 g44 (trivial) dX4_readSum_204 hl.1 rfl rfl (by decide) cd_X9_isSign ⟨Nat.le_of_ble_eq_true rfl, Nat.le_of_ble_eq_true rfl, Nat.le_of_ble_eq_true rfl, Nat.le_of_ble_eq_true rfl, Nat.le_of_ble_eq_true rfl⟩ (fun v45 q45 => ?_)
                        refine lv_if_ne (tgt := 212) hx hb dX4_readSum_207 (by decide) (fun c46 => ?_) (fun c46 => ?_)
                        · have b46 : ¬ v45.toInt = (0 : Int32).toInt := fun z9 => c46 (i_eq.mpr z9)
                          refine lv_aload_n hx hb dX4_readSum_212 rfl (lv_at hl 1 rfl) ?_
                          refine q_grS (T := TX4) C S43.1 ga0 0 kF_X4_39 dX4_readSum_213 rfl rfl (by decide) rfl (by decide) kSF_X4_tape (fun g47 => ?_)
                          refine callV_Ev C S43 (c_X9_next l D G (fR D H43 4 a0 0) g47) kV_X4_47 g47 (trivial) (by decide +kernel) dX4_readSum_216 hl.1 rfl rfl (by decide) cd_X9_next ⟨Nat.le_of_ble_eq_true rfl, Nat.le_of_ble_eq_true rfl, Nat.le_of_ble_eq_true rfl, Nat.le_of_ble_eq_true rfl, Nat.le_of_ble_eq_true rfl⟩ (fun H48 L48 S48 K48 q48 => ?_)
                          have tk48 : Lw D s.heap H48 a0 := tk43.trans (Lw.keep S43.1 ga0 K48 (by decide +kernel) (by decide +kernel) (by decide +kernel))
                          obtain ⟨v49, ev49⟩ : ∃ y : Int32, y = x1_2 + (1) := ⟨_, rfl⟩
                          have k_1 : (1 : Int32).toInt = 1 := by decide
                          have f50 : v49.toInt = x1_2.toInt + (1) := by rw [ev49]; exact i_addc k_1 (by omega) (by omega)
                          refine lv_iinc (v := v49) (lv' := [(1, .int v49), (0, .ref a0)]) hx hb dX4_readSum_219 hl (k := 0) rfl (by rw [ev49]; rfl) (by decide) rfl (fun ls hl => ?_)
                          refine lv_goto (tgt := 2) hx hb dX4_readSum_222 (by decide) ?_
                          exact ih2 v49 H48 L48 ls S48 (by omega) tk48 (by omega) (lv_sub hl [0, 1] rfl)
                        · have b46 : v45.toInt = (0 : Int32).toInt := i_eq.mp c46
                          refine lv_iconst (v := 1) hx hb dX4_readSum_210 (by decide) ?_
                          have k_1 : (1 : Int32).toInt = 1 := by decide
                          exact retE_z hQ C S43 hr dX4_readSum_211 (z01 (by omega) (by omega)) (⟨by omega, tk43⟩)
                  · have b25 : ¬ v24.toInt = (0 : Int32).toInt := fun z9 => c25 (i_eq.mpr z9)
                    refine lv_aload_n hx hb dX4_readSum_143 rfl (lv_at hl 1 rfl) ?_
                    refine lv_bipush (v := -11) hx hb dX4_readSum_144 (by decide) ?_
                    have k_m11 : (-11 : Int32).toInt = -11 := by decide
                    refine callV_Ev C S_2 (c_X4_put l D G a0 (-11 : Int32) ga0) kV_X4_55 ga0 (trivial) (by decide +kernel) dX4_readSum_146 hl.1 rfl rfl (by decide) cd_X4_put ⟨Nat.le_of_ble_eq_true rfl, Nat.le_of_ble_eq_true rfl, Nat.le_of_ble_eq_true rfl, Nat.le_of_ble_eq_true rfl, Nat.le_of_ble_eq_true rfl⟩ (fun H51 L51 S51 K51 q51 => ?_)
                    obtain ⟨qa51, qb51, tq51⟩ := q51
                    have tk51 : Lw D s.heap H51 a0 := u2_0.trans tq51
                    refine lv_goto (tgt := 181) hx hb dX4_readSum_149 (by decide) ?_
                    refine lv_aload_n hx hb dX4_readSum_181 rfl (lv_at hl 1 rfl) ?_
                    refine q_grS (T := TX4) C S51.1 ga0 0 kF_X4_39 dX4_readSum_182 rfl rfl (by decide) rfl (by decide) kSF_X4_tape (fun g52 => ?_)
                    refine callV_Ev C S51 (c_X9_next l D G (fR D H51 4 a0 0) g52) kV_X4_47 g52 (trivial) (by decide +kernel) dX4_readSum_185 hl.1 rfl rfl (by decide) cd_X9_next ⟨Nat.le_of_ble_eq_true rfl, Nat.le_of_ble_eq_true rfl, Nat.le_of_ble_eq_true rfl, Nat.le_of_ble_eq_true rfl, Nat.le_of_ble_eq_true rfl⟩ (fun H53 L53 S53 K53 q53 => ?_)
                    have tk53 : Lw D s.heap H53 a0 := tk51.trans (Lw.keep S51.1 ga0 K53 (by decide +kernel) (by decide +kernel) (by decide +kernel))
                    refine lv_iload_n hx hb dX4_readSum_188 rfl (lv_at hl 0 rfl) ?_
                    refine lv_if_le (tgt := 198) hx hb dX4_readSum_189 (by decide) (fun c54 => ?_) (fun c54 => ?_)
                    · have b54 : x1_2.toInt ≤ (0 : Int32).toInt := i_le.mp c54
                      refine lv_aload_n hx hb dX4_readSum_198 rfl (lv_at hl 1 rfl) ?_
                      refine q_grS (T := TX4) C S53.1 ga0 0 kF_X4_39 dX4_readSum_199 rfl rfl (by decide) rfl (by decide) kSF_X4_tape (fun g55 => ?_)
                      refine lv_bipush (v := 43) hx hb dX4_readSum_202 (by decide) ?_
                      have k_43 : (43 : Int32).toInt = 43 := by decide
                      refine callV_Pi C S53.1 S53.2.1.2.1 (c_X9_isSign l D G (fR D H53 4 a0 0) (43 : Int32) g55) kV_X4_84 g55 (trivial) dX4_readSum_204 hl.1 rfl rfl (by decide) cd_X9_isSign ⟨Nat.le_of_ble_eq_true rfl, Nat.le_of_ble_eq_true rfl, Nat.le_of_ble_eq_true rfl, Nat.le_of_ble_eq_true rfl, Nat.le_of_ble_eq_true rfl⟩ (fun v56 q56 => ?_)
                      refine lv_if_ne (tgt := 212) hx hb dX4_readSum_207 (by decide) (fun c57 => ?_) (fun c57 => ?_)
                      · have b57 : ¬ v56.toInt = (0 : Int32).toInt := fun z9 => c57 (i_eq.mpr z9)
                        refine lv_aload_n hx hb dX4_readSum_212 rfl (lv_at hl 1 rfl) ?_
                        refine q_grS (T := TX4) C S53.1 ga0 0 kF_X4_39 dX4_readSum_213 rfl rfl (by decide) rfl (by decide) kSF_X4_tape (fun g58 => ?_)
                        refine callV_Ev C S53 (c_X9_next l D G (fR D H53 4 a0 0) g58) kV_X4_47 g58 (trivial) (by decide +kernel) dX4_readSum_216 hl.1 rfl rfl (by decide) cd_X9_next ⟨Nat.le_of_ble_eq_true rfl, Nat.le_of_ble_eq_true rfl, Nat.le_of_ble_eq_true rfl, Nat.le_of_ble_eq_true rfl, Nat.le_of_ble_eq_true rfl⟩ (fun H59 L59 S59 K59 q59 => ?_)
                        have tk59 : Lw D s.heap H59 a0 := tk53.trans (Lw.keep S53.1 ga0 K59 (by decide +kernel) (by decide +kernel) (by decide +kernel))
                        obtain ⟨v60, ev60⟩ : ∃ y : Int32, y = x1_2 + (1) := ⟨_, rfl⟩
                        have k_1 : (1 : Int32).toInt = 1 := by decide
                        have f61 : v60.toInt = x1_2.toInt + (1) := by rw [ev60]; exact i_addc k_1 (by omega) (by omega)
                        refine lv_iinc (v := v60) (lv' := [(1, .int v60), (0, .ref a0)]) hx hb dX4_readSum_219 hl (k := 0) rfl (by rw [ev60]; rfl) (by decide) rfl (fun ls hl => ?_)
                        refine lv_goto (tgt := 2) hx hb dX4_readSum_222 (by decide) ?_
                        exact ih2 v60 H59 L59 ls S59 (by omega) tk59 (by omega) (lv_sub hl [0, 1] rfl)
                      · have b57 : v56.toInt = (0 : Int32).toInt := i_eq.mp c57
                        refine lv_iconst (v := 1) hx hb dX4_readSum_210 (by decide) ?_
                        have k_1 : (1 : Int32).toInt = 1 := by decide
                        exact retE_z hQ C S53 hr dX4_readSum_211 (z01 (by omega) (by omega)) (⟨by omega, tk53⟩)
                    · have b54 : ¬ x1_2.toInt ≤ (0 : Int32).toInt := fun z9 => c54 (i_le.mpr z9)
                      refine lv_aload_n hx hb dX4_readSum_192 rfl (lv_at hl 1 rfl) ?_
                      refine lv_bipush (v := -14) hx hb dX4_readSum_193 (by decide) ?_
                      have k_m14 : (-14 : Int32).toInt = -14 := by decide
                      refine callV_Ev C S53 (c_X4_put l D G a0 (-14 : Int32) ga0) kV_X4_55 ga0 (trivial) (by decide +kernel) dX4_readSum_195 hl.1 rfl rfl (by decide) cd_X4_put ⟨Nat.le_of_ble_eq_true rfl, Nat.le_of_ble_eq_true rfl, Nat.le_of_ble_eq_true rfl, Nat.le_of_ble_eq_true rfl, Nat.le_of_ble_eq_true rfl⟩ (fun H62 L62 S62 K62 q62 => ?_)
                      obtain ⟨qa62, qb62, tq62⟩ := q62
                      have tk62 : Lw D s.heap H62 a0 := tk53.trans tq62
                      refine lv_aload_n hx hb dX4_readSum_198 rfl (lv_at hl 1 rfl) ?_
                      refine q_grS (T := TX4) C S62.1 ga0 0 kF_X4_39 dX4_readSum_199 rfl rfl (by decide) rfl (by decide) kSF_X4_tape (fun g63 => ?_)
                      refine lv_bipush (v := 43) hx hb dX4_readSum_202 (by decide) ?_
                      have k_43 : (43 : Int32).toInt = 43 := by decide
                      refine callV_Pi C S62.1 S62.2.1.2.1 (c_X9_isSign l D G (fR D H62 4 a0 0) (43 : Int32) g63) kV_X4_84 g63 (trivial) dX4_readSum_204 hl.1 rfl rfl (by decide) cd_X9_isSign ⟨Nat.le_of_ble_eq_true rfl, Nat.le_of_ble_eq_true rfl, Nat.le_of_ble_eq_true rfl, Nat.le_of_ble_eq_true rfl, Nat.le_of_ble_eq_true rfl⟩ (fun v64 q64 => ?_)
                      refine lv_if_ne (tgt := 212) hx hb dX4_readSum_207 (by decide) (fun c65 => ?_) (fun c65 => ?_)
                      · have b65 : ¬ v64.toInt = (0 : Int32).toInt := fun z9 => c65 (i_eq.mpr z9)
                        refine lv_aload_n hx hb dX4_readSum_212 rfl (lv_at hl 1 rfl) ?_
                        refine q_grS (T := TX4) C S62.1 ga0 0 kF_X4_39 dX4_readSum_213 rfl rfl (by decide) rfl (by decide) kSF_X4_tape (fun g66 => ?_)
                        refine callV_Ev C S62 (c_X9_next l D G (fR D H62 4 a0 0) g66) kV_X4_47 g66 (trivial) (by decide +kernel) dX4_readSum_216 hl.1 rfl rfl (by decide) cd_X9_next ⟨Nat.le_of_ble_eq_true rfl, Nat.le_of_ble_eq_true rfl, Nat.le_of_ble_eq_true rfl, Nat.le_of_ble_eq_true rfl, Nat.le_of_ble_eq_true rfl⟩ (fun H67 L67 S67 K67 q67 => ?_)
                        have tk67 : Lw D s.heap H67 a0 := tk62.trans (Lw.keep S62.1 ga0 K67 (by decide +kernel) (by decide +kernel) (by decide +kernel))
                        obtain ⟨v68, ev68⟩ : ∃ y : Int32, y = x1_2 + (1) := ⟨_, rfl⟩
                        have k_1 : (1 : Int32).toInt = 1 := by decide
                        have f69 : v68.toInt = x1_2.toInt + (1) := by rw [ev68]; exact i_addc k_1 (by omega) (by omega)
                        refine lv_iinc (v := v68) (lv' := [(1, .int v68), (0, .ref a0)]) hx hb dX4_readSum_219 hl (k := 0) rfl (by rw [ev68]; rfl) (by decide) rfl (fun ls hl => ?_)
                        refine lv_goto (tgt := 2) hx hb dX4_readSum_222 (by decide) ?_
                        exact ih2 v68 H67 L67 ls S67 (by omega) tk67 (by omega) (lv_sub hl [0, 1] rfl)
                      · have b65 : v64.toInt = (0 : Int32).toInt := i_eq.mp c65
                        refine lv_iconst (v := 1) hx hb dX4_readSum_210 (by decide) ?_
                        have k_1 : (1 : Int32).toInt = 1 := by decide
                        exact retE_z hQ C S62 hr dX4_readSum_211 (z01 (by omega) (by omega)) (⟨by omega, tk62⟩)
                · have b21 : ¬ v20.toInt = (0 : Int32).toInt := fun z9 => c21 (i_eq.mpr z9)
                  refine lv_aload_n hx hb dX4_readSum_122 rfl (lv_at hl 1 rfl) ?_
                  refine lv_bipush (v := -10) hx hb dX4_readSum_123 (by decide) ?_
                  have k_m10 : (-10 : Int32).toInt = -10 := by decide
                  refine callV_Ev C S_2 (c_X4_put l D G a0 (-10 : Int32) ga0) kV_X4_55 ga0 (trivial) (by decide +kernel) dX4_readSum_125 hl.1 rfl rfl (by decide) cd_X4_put ⟨Nat.le_of_ble_eq_true rfl, Nat.le_of_ble_eq_true rfl, Nat.le_of_ble_eq_true rfl, Nat.le_of_ble_eq_true rfl, Nat.le_of_ble_eq_true rfl⟩ (fun H70 L70 S70 K70 q70 => ?_)
                  obtain ⟨qa70, qb70, tq70⟩ := q70
                  have tk70 : Lw D s.heap H70 a0 := u2_0.trans tq70
                  refine lv_goto (tgt := 181) hx hb dX4_readSum_128 (by decide) ?_
                  refine lv_aload_n hx hb dX4_readSum_181 rfl (lv_at hl 1 rfl) ?_
                  refine q_grS (T := TX4) C S70.1 ga0 0 kF_X4_39 dX4_readSum_182 rfl rfl (by decide) rfl (by decide) kSF_X4_tape (fun g71 => ?_)
                  refine callV_Ev C S70 (c_X9_next l D G (fR D H70 4 a0 0) g71) kV_X4_47 g71 (trivial) (by decide +kernel) dX4_readSum_185 hl.1 rfl rfl (by decide) cd_X9_next ⟨Nat.le_of_ble_eq_true rfl, Nat.le_of_ble_eq_true rfl, Nat.le_of_ble_eq_true rfl, Nat.le_of_ble_eq_true rfl, Nat.le_of_ble_eq_true rfl⟩ (fun H72 L72 S72 K72 q72 => ?_)
                  have tk72 : Lw D s.heap H72 a0 := tk70.trans (Lw.keep S70.1 ga0 K72 (by decide +kernel) (by decide +kernel) (by decide +kernel))
                  refine lv_iload_n hx hb dX4_readSum_188 rfl (lv_at hl 0 rfl) ?_
                  refine lv_if_le (tgt := 198) hx hb dX4_readSum_189 (by decide) (fun c73 => ?_) (fun c73 => ?_)
                  · have b73 : x1_2.toInt ≤ (0 : Int32).toInt := i_le.mp c73
                    refine lv_aload_n hx hb dX4_readSum_198 rfl (lv_at hl 1 rfl) ?_
                    refine q_grS (T := TX4) C S72.1 ga0 0 kF_X4_39 dX4_readSum_199 rfl rfl (by decide) rfl (by decide) kSF_X4_tape (fun g74 => ?_)
                    refine lv_bipush (v := 43) hx hb dX4_readSum_202 (by decide) ?_
                    have k_43 : (43 : Int32).toInt = 43 := by decide
                    refine callV_Pi C S72.1 S72.2.1.2.1 (c_X9_isSign l D G (fR D H72 4 a0 0) (43 : Int32) g74) kV_X4_84 g74 (trivial) dX4_readSum_204 hl.1 rfl rfl (by decide) cd_X9_isSign ⟨Nat.le_of_ble_eq_true rfl, Nat.le_of_ble_eq_true rfl, Nat.le_of_ble_eq_true rfl, Nat.le_of_ble_eq_true rfl, Nat.le_of_ble_eq_true rfl⟩ (fun v75 q75 => ?_)
                    refine lv_if_ne (tgt := 212) hx hb dX4_readSum_207 (by decide) (fun c76 => ?_) (fun c76 => ?_)
                    · have b76 : ¬ v75.toInt = (0 : Int32).toInt := fun z9 => c76 (i_eq.mpr z9)
                      refine lv_aload_n hx hb dX4_readSum_212 rfl (lv_at hl 1 rfl) ?_
                      refine q_grS (T := TX4) C S72.1 ga0 0 kF_X4_39 dX4_readSum_213 rfl rfl (by decide) rfl (by decide) kSF_X4_tape (fun g77 => ?_)
                      refine callV_Ev C S72 (c_X9_next l D G (fR D H72 4 a0 0) g77) kV_X4_47 g77 (trivial) (by decide +kernel) dX4_readSum_216 hl.1 rfl rfl (by decide) cd_X9_next ⟨Nat.le_of_ble_eq_true rfl, Nat.le_of_ble_eq_true rfl, Nat.le_of_ble_eq_true rfl, Nat.le_of_ble_eq_true rfl, Nat.le_of_ble_eq_true rfl⟩ (fun H78 L78 S78 K78 q78 => ?_)
                      have tk78 : Lw D s.heap H78 a0 := tk72.trans (Lw.keep S72.1 ga0 K78 (by decide +kernel) (by decide +kernel) (by decide +kernel))
                      obtain ⟨v79, ev79⟩ : ∃ y : Int32, y = x1_2 + (1) := ⟨_, rfl⟩
                      have k_1 : (1 : Int32).toInt = 1 := by decide
                      have f80 : v79.toInt = x1_2.toInt + (1) := by rw [ev79]; exact i_addc k_1 (by omega) (by omega)
                      refine lv_iinc (v := v79) (lv' := [(1, .int v79), (0, .ref a0)]) hx hb dX4_readSum_219 hl (k := 0) rfl (by rw [ev79]; rfl) (by decide) rfl (fun ls hl => ?_)
                      refine lv_goto (tgt := 2) hx hb dX4_readSum_222 (by decide) ?_
                      exact ih2 v79 H78 L78 ls S78 (by omega) tk78 (by omega) (lv_sub hl [0, 1] rfl)
                    · have b76 : v75.toInt = (0 : Int32).toInt := i_eq.mp c76
                      refine lv_iconst (v := 1) hx hb dX4_readSum_210 (by decide) ?_
                      have k_1 : (1 : Int32).toInt = 1 := by decide
                      exact retE_z hQ C S72 hr dX4_readSum_211 (z01 (by omega) (by omega)) (⟨by omega, tk72⟩)
                  · have b73 : ¬ x1_2.toInt ≤ (0 : Int32).toInt := fun z9 => c73 (i_le.mpr z9)
                    refine lv_aload_n hx hb dX4_readSum_192 rfl (lv_at hl 1 rfl) ?_
                    refine lv_bipush (v := -14) hx hb dX4_readSum_193 (by decide) ?_
                    have k_m14 : (-14 : Int32).toInt = -14 := by decide
                    refine callV_Ev C S72 (c_X4_put l D G a0 (-14 : Int32) ga0) kV_X4_55 ga0 (trivial) (by decide +kernel) dX4_readSum_195 hl.1 rfl rfl (by decide) cd_X4_put ⟨Nat.le_of_ble_eq_true rfl, Nat.le_of_ble_eq_true rfl, Nat.le_of_ble_eq_true rfl, Nat.le_of_ble_eq_true rfl, Nat.le_of_ble_eq_true rfl⟩ (fun H81 L81 S81 K81 q81 => ?_)
                    obtain ⟨qa81, qb81, tq81⟩ := q81
                    have tk81 : Lw D s.heap H81 a0 := tk72.trans tq81
                    refine lv_aload_n hx hb dX4_readSum_198 rfl (lv_at hl 1 rfl) ?_
                    refine q_grS (T := TX4) C S81.1 ga0 0 kF_X4_39 dX4_readSum_199 rfl rfl (by decide) rfl (by decide) kSF_X4_tape (fun g82 => ?_)
                    refine lv_bipush (v := 43) hx hb dX4_readSum_202 (by decide) ?_
                    have k_43 : (43 : Int32).toInt = 43 := by decide
                    refine callV_Pi C S81.1 S81.2.1.2.1 (c_X9_isSign l D G (fR D H81 4 a0 0) (43 : Int32) g82) kV_X4_84 g82 (trivial) dX4_readSum_204 hl.1 rfl rfl (by decide) cd_X9_isSign ⟨Nat.le_of_ble_eq_true rfl, Nat.le_of_ble_eq_true rfl, Nat.le_of_ble_eq_true rfl, Nat.le_of_ble_eq_true rfl, Nat.le_of_ble_eq_true rfl⟩ (fun v83 q83 => ?_)
                    refine lv_if_ne (tgt := 212) hx hb dX4_readSum_207 (by decide) (fun c84 => ?_) (fun c84 => ?_)
                    · have b84 : ¬ v83.toInt = (0 : Int32).toInt := fun z9 => c84 (i_eq.mpr z9)
                      refine lv_aload_n hx hb dX4_readSum_212 rfl (lv_at hl 1 rfl) ?_
                      refine q_grS (T := TX4) C S81.1 ga0 0 kF_X4_39 dX4_readSum_213 rfl rfl (by decide) rfl (by decide) kSF_X4_tape (fun g85 => ?_)
                      refine callV_Ev C S81 (c_X9_next l D G (fR D H81 4 a0 0) g85) kV_X4_47 g85 (trivial) (by decide +kernel) dX4_readSum_216 hl.1 rfl rfl (by decide) cd_X9_next ⟨Nat.le_of_ble_eq_true rfl, Nat.le_of_ble_eq_true rfl, Nat.le_of_ble_eq_true rfl, Nat.le_of_ble_eq_true rfl, Nat.le_of_ble_eq_true rfl⟩ (fun H86 L86 S86 K86 q86 => ?_)
                      have tk86 : Lw D s.heap H86 a0 := tk81.trans (Lw.keep S81.1 ga0 K86 (by decide +kernel) (by decide +kernel) (by decide +kernel))
                      obtain ⟨v87, ev87⟩ : ∃ y : Int32, y = x1_2 + (1) := ⟨_, rfl⟩
                      have k_1 : (1 : Int32).toInt = 1 := by decide
                      have f88 : v87.toInt = x1_2.toInt + (1) := by rw [ev87]; exact i_addc k_1 (by omega) (by omega)
                      refine lv_iinc (v := v87) (lv' := [(1, .int v87), (0, .ref a0)]) hx hb dX4_readSum_219 hl (k := 0) rfl (by rw [ev87]; rfl) (by decide) rfl (fun ls hl => ?_)
                      refine lv_goto (tgt := 2) hx hb dX4_readSum_222 (by decide) ?_
                      exact ih2 v87 H86 L86 ls S86 (by omega) tk86 (by omega) (lv_sub hl [0, 1] rfl)
                    · have b84 : v83.toInt = (0 : Int32).toInt := i_eq.mp c84
                      refine lv_iconst (v := 1) hx hb dX4_readSum_210 (by decide) ?_
                      have k_1 : (1 : Int32).toInt = 1 := by decide
                      exact retE_z hQ C S81 hr dX4_readSum_211 (z01 (by omega) (by omega)) (⟨by omega, tk81⟩)
              · have b17 : ¬ v16.toInt = (0 : Int32).toInt := fun z9 => c17 (i_eq.mpr z9)
                refine lv_aload_n hx hb dX4_readSum_101 rfl (lv_at hl 1 rfl) ?_
                refine lv_bipush (v := -9) hx hb dX4_readSum_102 (by decide) ?_
                have k_m9 : (-9 : Int32).toInt = -9 := by decide
                refine callV_Ev C S_2 (c_X4_put l D G a0 (-9 : Int32) ga0) kV_X4_55 ga0 (trivial) (by decide +kernel) dX4_readSum_104 hl.1 rfl rfl (by decide) cd_X4_put ⟨Nat.le_of_ble_eq_true rfl, Nat.le_of_ble_eq_true rfl, Nat.le_of_ble_eq_true rfl, Nat.le_of_ble_eq_true rfl, Nat.le_of_ble_eq_true rfl⟩ (fun H89 L89 S89 K89 q89 => ?_)
                obtain ⟨qa89, qb89, tq89⟩ := q89
                have tk89 : Lw D s.heap H89 a0 := u2_0.trans tq89
                refine lv_goto (tgt := 181) hx hb dX4_readSum_107 (by decide) ?_
                refine lv_aload_n hx hb dX4_readSum_181 rfl (lv_at hl 1 rfl) ?_
                refine q_grS (T := TX4) C S89.1 ga0 0 kF_X4_39 dX4_readSum_182 rfl rfl (by decide) rfl (by decide) kSF_X4_tape (fun g90 => ?_)
                refine callV_Ev C S89 (c_X9_next l D G (fR D H89 4 a0 0) g90) kV_X4_47 g90 (trivial) (by decide +kernel) dX4_readSum_185 hl.1 rfl rfl (by decide) cd_X9_next ⟨Nat.le_of_ble_eq_true rfl, Nat.le_of_ble_eq_true rfl, Nat.le_of_ble_eq_true rfl, Nat.le_of_ble_eq_true rfl, Nat.le_of_ble_eq_true rfl⟩ (fun H91 L91 S91 K91 q91 => ?_)
                have tk91 : Lw D s.heap H91 a0 := tk89.trans (Lw.keep S89.1 ga0 K91 (by decide +kernel) (by decide +kernel) (by decide +kernel))
                refine lv_iload_n hx hb dX4_readSum_188 rfl (lv_at hl 0 rfl) ?_
                refine lv_if_le (tgt := 198) hx hb dX4_readSum_189 (by decide) (fun c92 => ?_) (fun c92 => ?_)
                · have b92 : x1_2.toInt ≤ (0 : Int32).toInt := i_le.mp c92
                  refine lv_aload_n hx hb dX4_readSum_198 rfl (lv_at hl 1 rfl) ?_
                  refine q_grS (T := TX4) C S91.1 ga0 0 kF_X4_39 dX4_readSum_199 rfl rfl (by decide) rfl (by decide) kSF_X4_tape (fun g93 => ?_)
                  refine lv_bipush (v := 43) hx hb dX4_readSum_202 (by decide) ?_
                  have k_43 : (43 : Int32).toInt = 43 := by decide
                  refine callV_Pi C S91.1 S91.2.1.2.1 (c_X9_isSign l D G (fR D H91 4 a0 0) (43 : Int32) g93) kV_X4_84 g93 (trivial) dX4_readSum_204 hl.1 rfl rfl (by decide) cd_X9_isSign ⟨Nat.le_of_ble_eq_true rfl, Nat.le_of_ble_eq_true rfl, Nat.le_of_ble_eq_true rfl, Nat.le_of_ble_eq_true rfl, Nat.le_of_ble_eq_true rfl⟩ (fun v94 q94 => ?_)
                  refine lv_if_ne (tgt := 212) hx hb dX4_readSum_207 (by decide) (fun c95 => ?_) (fun c95 => ?_)
                  · have b95 : ¬ v94.toInt = (0 : Int32).toInt := fun z9 => c95 (i_eq.mpr z9)
                    refine lv_aload_n hx hb dX4_readSum_212 rfl (lv_at hl 1 rfl) ?_
                    refine q_grS (T := TX4) C S91.1 ga0 0 kF_X4_39 dX4_readSum_213 rfl rfl (by decide) rfl (by decide) kSF_X4_tape (fun g96 => ?_)
                    refine callV_Ev C S91 (c_X9_next l D G (fR D H91 4 a0 0) g96) kV_X4_47 g96 (trivial) (by decide +kernel) dX4_readSum_216 hl.1 rfl rfl (by decide) cd_X9_next ⟨Nat.le_of_ble_eq_true rfl, Nat.le_of_ble_eq_true rfl, Nat.le_of_ble_eq_true rfl, Nat.le_of_ble_eq_true rfl, Nat.le_of_ble_eq_true rfl⟩ (fun H97 L97 S97 K97 q97 => ?_)
                    have tk97 : Lw D s.heap H97 a0 := tk91.trans (Lw.keep S91.1 ga0 K97 (by decide +kernel) (by decide +kernel) (by decide +kernel))
                    obtain ⟨v98, ev98⟩ : ∃ y : Int32, y = x1_2 + (1) := ⟨_, rfl⟩
                    have k_1 : (1 : Int32).toInt = 1 := by decide
                    have f99 : v98.toInt = x1_2.toInt + (1) := by rw [ev98]; exact i_addc k_1 (by omega) (by omega)
                    refine lv_iinc (v := v98) (lv' := [(1, .int v98), (0, .ref a0)]) hx hb dX4_readSum_219 hl (k := 0) rfl (by rw [ev98]; rfl) (by decide) rfl (fun ls hl => ?_)
                    refine lv_goto (tgt := 2) hx hb dX4_readSum_222 (by decide) ?_
                    exact ih2 v98 H97 L97 ls S97 (by omega) tk97 (by omega) (lv_sub hl [0, 1] rfl)
                  · have b95 : v94.toInt = (0 : Int32).toInt := i_eq.mp c95
                    refine lv_iconst (v := 1) hx hb dX4_readSum_210 (by decide) ?_
                    have k_1 : (1 : Int32).toInt = 1 := by decide
                    exact retE_z hQ C S91 hr dX4_readSum_211 (z01 (by omega) (by omega)) (⟨by omega, tk91⟩)
                · have b92 : ¬ x1_2.toInt ≤ (0 : Int32).toInt := fun z9 => c92 (i_le.mpr z9)
                  refine lv_aload_n hx hb dX4_readSum_192 rfl (lv_at hl 1 rfl) ?_
                  refine lv_bipush (v := -14) hx hb dX4_readSum_193 (by decide) ?_
                  have k_m14 : (-14 : Int32).toInt = -14 := by decide
                  refine callV_Ev C S91 (c_X4_put l D G a0 (-14 : Int32) ga0) kV_X4_55 ga0 (trivial) (by decide +kernel) dX4_readSum_195 hl.1 rfl rfl (by decide) cd_X4_put ⟨Nat.le_of_ble_eq_true rfl, Nat.le_of_ble_eq_true rfl, Nat.le_of_ble_eq_true rfl, Nat.le_of_ble_eq_true rfl, Nat.le_of_ble_eq_true rfl⟩ (fun H100 L100 S100 K100 q100 => ?_)
                  obtain ⟨qa100, qb100, tq100⟩ := q100
                  have tk100 : Lw D s.heap H100 a0 := tk91.trans tq100
                  refine lv_aload_n hx hb dX4_readSum_198 rfl (lv_at hl 1 rfl) ?_
                  refine q_grS (T := TX4) C S100.1 ga0 0 kF_X4_39 dX4_readSum_199 rfl rfl (by decide) rfl (by decide) kSF_X4_tape (fun g101 => ?_)
                  refine lv_bipush (v := 43) hx hb dX4_readSum_202 (by decide) ?_
                  have k_43 : (43 : Int32).toInt = 43 := by decide
                  refine callV_Pi C S100.1 S100.2.1.2.1 (c_X9_isSign l D G (fR D H100 4 a0 0) (43 : Int32) g101) kV_X4_84 g101 (trivial) dX4_readSum_204 hl.1 rfl rfl (by decide) cd_X9_isSign ⟨Nat.le_of_ble_eq_true rfl, Nat.le_of_ble_eq_true rfl, Nat.le_of_ble_eq_true rfl, Nat.le_of_ble_eq_true rfl, Nat.le_of_ble_eq_true rfl⟩ (fun v102 q102 => ?_)
                  refine lv_if_ne (tgt := 212) hx hb dX4_readSum_207 (by decide) (fun c103 => ?_) (fun c103 => ?_)
                  · have b103 : ¬ v102.toInt = (0 : Int32).toInt := fun z9 => c103 (i_eq.mpr z9)
                    refine lv_aload_n hx hb dX4_readSum_212 rfl (lv_at hl 1 rfl) ?_
                    refine q_grS (T := TX4) C S100.1 ga0 0 kF_X4_39 dX4_readSum_213 rfl rfl (by decide) rfl (by decide) kSF_X4_tape (fun g104 => ?_)
                    refine callV_Ev C S100 (c_X9_next l D G (fR D H100 4 a0 0) g104) kV_X4_47 g104 (trivial) (by decide +kernel) dX4_readSum_216 hl.1 rfl rfl (by decide) cd_X9_next ⟨Nat.le_of_ble_eq_true rfl, Nat.le_of_ble_eq_true rfl, Nat.le_of_ble_eq_true rfl, Nat.le_of_ble_eq_true rfl, Nat.le_of_ble_eq_true rfl⟩ (fun H105 L105 S105 K105 q105 => ?_)
                    have tk105 : Lw D s.heap H105 a0 := tk100.trans (Lw.keep S100.1 ga0 K105 (by decide +kernel) (by decide +kernel) (by decide +kernel))
                    obtain ⟨v106, ev106⟩ : ∃ y : Int32, y = x1_2 + (1) := ⟨_, rfl⟩
                    have k_1 : (1 : Int32).toInt = 1 := by decide
                    have f107 : v106.toInt = x1_2.toInt + (1) := by rw [ev106]; exact i_addc k_1 (by omega) (by omega)
                    refine lv_iinc (v := v106) (lv' := [(1, .int v106), (0, .ref a0)]) hx hb dX4_readSum_219 hl (k := 0) rfl (by rw [ev106]; rfl) (by decide) rfl (fun ls hl => ?_)
                    refine lv_goto (tgt := 2) hx hb dX4_readSum_222 (by decide) ?_
                    exact ih2 v106 H105 L105 ls S105 (by omega) tk105 (by omega) (lv_sub hl [0, 1] rfl)
                  · have b103 : v102.toInt = (0 : Int32).toInt := i_eq.mp c103
                    refine lv_iconst (v := 1) hx hb dX4_readSum_210 (by decide) ?_
                    have k_1 : (1 : Int32).toInt = 1 := by decide
                    exact retE_z hQ C S100 hr dX4_readSum_211 (z01 (by omega) (by omega)) (⟨by omega, tk100⟩)
            · have b13 : ¬ v12.toInt = (0 : Int32).toInt := fun z9 => c13 (i_eq.mpr z9)
              refine lv_aload_n hx hb dX4_readSum_80 rfl (lv_at hl 1 rfl) ?_
              refine lv_bipush (v := -8) hx hb dX4_readSum_81 (by decide) ?_
              have k_m8 : (-8 : Int32).toInt = -8 := by decide
              refine callV_Ev C S_2 (c_X4_put l D G a0 (-8 : Int32) ga0) kV_X4_55 ga0 (trivial) (by decide +kernel) dX4_readSum_83 hl.1 rfl rfl (by decide) cd_X4_put ⟨Nat.le_of_ble_eq_true rfl, Nat.le_of_ble_eq_true rfl, Nat.le_of_ble_eq_true rfl, Nat.le_of_ble_eq_true rfl, Nat.le_of_ble_eq_true rfl⟩ (fun H108 L108 S108 K108 q108 => ?_)
              obtain ⟨qa108, qb108, tq108⟩ := q108
              have tk108 : Lw D s.heap H108 a0 := u2_0.trans tq108
              refine lv_goto (tgt := 181) hx hb dX4_readSum_86 (by decide) ?_
              refine lv_aload_n hx hb dX4_readSum_181 rfl (lv_at hl 1 rfl) ?_
              refine q_grS (T := TX4) C S108.1 ga0 0 kF_X4_39 dX4_readSum_182 rfl rfl (by decide) rfl (by decide) kSF_X4_tape (fun g109 => ?_)
              refine callV_Ev C S108 (c_X9_next l D G (fR D H108 4 a0 0) g109) kV_X4_47 g109 (trivial) (by decide +kernel) dX4_readSum_185 hl.1 rfl rfl (by decide) cd_X9_next ⟨Nat.le_of_ble_eq_true rfl, Nat.le_of_ble_eq_true rfl, Nat.le_of_ble_eq_true rfl, Nat.le_of_ble_eq_true rfl, Nat.le_of_ble_eq_true rfl⟩ (fun H110 L110 S110 K110 q110 => ?_)
              have tk110 : Lw D s.heap H110 a0 := tk108.trans (Lw.keep S108.1 ga0 K110 (by decide +kernel) (by decide +kernel) (by decide +kernel))
              refine lv_iload_n hx hb dX4_readSum_188 rfl (lv_at hl 0 rfl) ?_
              refine lv_if_le (tgt := 198) hx hb dX4_readSum_189 (by decide) (fun c111 => ?_) (fun c111 => ?_)
              · have b111 : x1_2.toInt ≤ (0 : Int32).toInt := i_le.mp c111
                refine lv_aload_n hx hb dX4_readSum_198 rfl (lv_at hl 1 rfl) ?_
                refine q_grS (T := TX4) C S110.1 ga0 0 kF_X4_39 dX4_readSum_199 rfl rfl (by decide) rfl (by decide) kSF_X4_tape (fun g112 => ?_)
                refine lv_bipush (v := 43) hx hb dX4_readSum_202 (by decide) ?_
                have k_43 : (43 : Int32).toInt = 43 := by decide
                refine callV_Pi C S110.1 S110.2.1.2.1 (c_X9_isSign l D G (fR D H110 4 a0 0) (43 : Int32) g112) kV_X4_84 g112 (trivial) dX4_readSum_204 hl.1 rfl rfl (by decide) cd_X9_isSign ⟨Nat.le_of_ble_eq_true rfl, Nat.le_of_ble_eq_true rfl, Nat.le_of_ble_eq_true rfl, Nat.le_of_ble_eq_true rfl, Nat.le_of_ble_eq_true rfl⟩ (fun v113 q113 => ?_)
                refine lv_if_ne (tgt := 212) hx hb dX4_readSum_207 (by decide) (fun c114 => ?_) (fun c114 => ?_)
                · have b114 : ¬ v113.toInt = (0 : Int32).toInt := fun z9 => c114 (i_eq.mpr z9)
                  refine lv_aload_n hx hb dX4_readSum_212 rfl (lv_at hl 1 rfl) ?_
                  refine q_grS (T := TX4) C S110.1 ga0 0 kF_X4_39 dX4_readSum_213 rfl rfl (by decide) rfl (by decide) kSF_X4_tape (fun g115 => ?_)
                  refine callV_Ev C S110 (c_X9_next l D G (fR D H110 4 a0 0) g115) kV_X4_47 g115 (trivial) (by decide +kernel) dX4_readSum_216 hl.1 rfl rfl (by decide) cd_X9_next ⟨Nat.le_of_ble_eq_true rfl, Nat.le_of_ble_eq_true rfl, Nat.le_of_ble_eq_true rfl, Nat.le_of_ble_eq_true rfl, Nat.le_of_ble_eq_true rfl⟩ (fun H116 L116 S116 K116 q116 => ?_)
                  have tk116 : Lw D s.heap H116 a0 := tk110.trans (Lw.keep S110.1 ga0 K116 (by decide +kernel) (by decide +kernel) (by decide +kernel))
                  obtain ⟨v117, ev117⟩ : ∃ y : Int32, y = x1_2 + (1) := ⟨_, rfl⟩
                  have k_1 : (1 : Int32).toInt = 1 := by decide
                  have f118 : v117.toInt = x1_2.toInt + (1) := by rw [ev117]; exact i_addc k_1 (by omega) (by omega)
                  refine lv_iinc (v := v117) (lv' := [(1, .int v117), (0, .ref a0)]) hx hb dX4_readSum_219 hl (k := 0) rfl (by rw [ev117]; rfl) (by decide) rfl (fun ls hl => ?_)
                  refine lv_goto (tgt := 2) hx hb dX4_readSum_222 (by decide) ?_
                  exact ih2 v117 H116 L116 ls S116 (by omega) tk116 (by omega) (lv_sub hl [0, 1] rfl)
                · have b114 : v113.toInt = (0 : Int32).toInt := i_eq.mp c114
                  refine lv_iconst (v := 1) hx hb dX4_readSum_210 (by decide) ?_
                  have k_1 : (1 : Int32).toInt = 1 := by decide
                  exact retE_z hQ C S110 hr dX4_readSum_211 (z01 (by omega) (by omega)) (⟨by omega, tk110⟩)
              · have b111 : ¬ x1_2.toInt ≤ (0 : Int32).toInt := fun z9 => c111 (i_le.mpr z9)
                refine lv_aload_n hx hb dX4_readSum_192 rfl (lv_at hl 1 rfl) ?_
                refine lv_bipush (v := -14) hx hb dX4_readSum_193 (by decide) ?_
                have k_m14 : (-14 : Int32).toInt = -14 := by decide
                refine callV_Ev C S110 (c_X4_put l D G a0 (-14 : Int32) ga0) kV_X4_55 ga0 (trivial) (by decide +kernel) dX4_readSum_195 hl.1 rfl rfl (by decide) cd_X4_put ⟨Nat.le_of_ble_eq_true rfl, Nat.le_of_ble_eq_true rfl, Nat.le_of_ble_eq_true rfl, Nat.le_of_ble_eq_true rfl, Nat.le_of_ble_eq_true rfl⟩ (fun H119 L119 S119 K119 q119 => ?_)
                obtain ⟨qa119, qb119, tq119⟩ := q119
                have tk119 : Lw D s.heap H119 a0 := tk110.trans tq119
                refine lv_aload_n hx hb dX4_readSum_198 rfl (lv_at hl 1 rfl) ?_
                refine q_grS (T := TX4) C S119.1 ga0 0 kF_X4_39 dX4_readSum_199 rfl rfl (by decide) rfl (by decide) kSF_X4_tape (fun g120 => ?_)
                refine lv_bipush (v := 43) hx hb dX4_readSum_202 (by decide) ?_
                have k_43 : (43 : Int32).toInt = 43 := by decide
                refine callV_Pi C S119.1 S119.2.1.2.1 (c_X9_isSign l D G (fR D H119 4 a0 0) (43 : Int32) g120) kV_X4_84 g120 (trivial) dX4_readSum_204 hl.1 rfl rfl (by decide) cd_X9_isSign ⟨Nat.le_of_ble_eq_true rfl, Nat.le_of_ble_eq_true rfl, Nat.le_of_ble_eq_true rfl, Nat.le_of_ble_eq_true rfl, Nat.le_of_ble_eq_true rfl⟩ (fun v121 q121 => ?_)
                refine lv_if_ne (tgt := 212) hx hb dX4_readSum_207 (by decide) (fun c122 => ?_) (fun c122 => ?_)
                · have b122 : ¬ v121.toInt = (0 : Int32).toInt := fun z9 => c122 (i_eq.mpr z9)
                  refine lv_aload_n hx hb dX4_readSum_212 rfl (lv_at hl 1 rfl) ?_
                  refine q_grS (T := TX4) C S119.1 ga0 0 kF_X4_39 dX4_readSum_213 rfl rfl (by decide) rfl (by decide) kSF_X4_tape (fun g123 => ?_)
                  refine callV_Ev C S119 (c_X9_next l D G (fR D H119 4 a0 0) g123) kV_X4_47 g123 (trivial) (by decide +kernel) dX4_readSum_216 hl.1 rfl rfl (by decide) cd_X9_next ⟨Nat.le_of_ble_eq_true rfl, Nat.le_of_ble_eq_true rfl, Nat.le_of_ble_eq_true rfl, Nat.le_of_ble_eq_true rfl, Nat.le_of_ble_eq_true rfl⟩ (fun H124 L124 S124 K124 q124 => ?_)
                  have tk124 : Lw D s.heap H124 a0 := tk119.trans (Lw.keep S119.1 ga0 K124 (by decide +kernel) (by decide +kernel) (by decide +kernel))
                  obtain ⟨v125, ev125⟩ : ∃ y : Int32, y = x1_2 + (1) := ⟨_, rfl⟩
                  have k_1 : (1 : Int32).toInt = 1 := by decide
                  have f126 : v125.toInt = x1_2.toInt + (1) := by rw [ev125]; exact i_addc k_1 (by omega) (by omega)
                  refine lv_iinc (v := v125) (lv' := [(1, .int v125), (0, .ref a0)]) hx hb dX4_readSum_219 hl (k := 0) rfl (by rw [ev125]; rfl) (by decide) rfl (fun ls hl => ?_)
                  refine lv_goto (tgt := 2) hx hb dX4_readSum_222 (by decide) ?_
                  exact ih2 v125 H124 L124 ls S124 (by omega) tk124 (by omega) (lv_sub hl [0, 1] rfl)
                · have b122 : v121.toInt = (0 : Int32).toInt := i_eq.mp c122
                  refine lv_iconst (v := 1) hx hb dX4_readSum_210 (by decide) ?_
                  have k_1 : (1 : Int32).toInt = 1 := by decide
                  exact retE_z hQ C S119 hr dX4_readSum_211 (z01 (by omega) (by omega)) (⟨by omega, tk119⟩)
          · have b9 : ¬ v8.toInt = (0 : Int32).toInt := fun z9 => c9 (i_eq.mpr z9)
            refine lv_aload_n hx hb dX4_readSum_59 rfl (lv_at hl 1 rfl) ?_
            refine lv_bipush (v := -7) hx hb dX4_readSum_60 (by decide) ?_
            have k_m7 : (-7 : Int32).toInt = -7 := by decide
            refine callV_Ev C S_2 (c_X4_put l D G a0 (-7 : Int32) ga0) kV_X4_55 ga0 (trivial) (by decide +kernel) dX4_readSum_62 hl.1 rfl rfl (by decide) cd_X4_put ⟨Nat.le_of_ble_eq_true rfl, Nat.le_of_ble_eq_true rfl, Nat.le_of_ble_eq_true rfl, Nat.le_of_ble_eq_true rfl, Nat.le_of_ble_eq_true rfl⟩ (fun H127 L127 S127 K127 q127 => ?_)
            obtain ⟨qa127, qb127, tq127⟩ := q127
            have tk127 : Lw D s.heap H127 a0 := u2_0.trans tq127
            refine lv_goto (tgt := 181) hx hb dX4_readSum_65 (by decide) ?_
            refine lv_aload_n hx hb dX4_readSum_181 rfl (lv_at hl 1 rfl) ?_
            refine q_grS (T := TX4) C S127.1 ga0 0 kF_X4_39 dX4_readSum_182 rfl rfl (by decide) rfl (by decide) kSF_X4_tape (fun g128 => ?_)
            refine callV_Ev C S127 (c_X9_next l D G (fR D H127 4 a0 0) g128) kV_X4_47 g128 (trivial) (by decide +kernel) dX4_readSum_185 hl.1 rfl rfl (by decide) cd_X9_next ⟨Nat.le_of_ble_eq_true rfl, Nat.le_of_ble_eq_true rfl, Nat.le_of_ble_eq_true rfl, Nat.le_of_ble_eq_true rfl, Nat.le_of_ble_eq_true rfl⟩ (fun H129 L129 S129 K129 q129 => ?_)
            have tk129 : Lw D s.heap H129 a0 := tk127.trans (Lw.keep S127.1 ga0 K129 (by decide +kernel) (by decide +kernel) (by decide +kernel))
            refine lv_iload_n hx hb dX4_readSum_188 rfl (lv_at hl 0 rfl) ?_
            refine lv_if_le (tgt := 198) hx hb dX4_readSum_189 (by decide) (fun c130 => ?_) (fun c130 => ?_)
            · have b130 : x1_2.toInt ≤ (0 : Int32).toInt := i_le.mp c130
              refine lv_aload_n hx hb dX4_readSum_198 rfl (lv_at hl 1 rfl) ?_
              refine q_grS (T := TX4) C S129.1 ga0 0 kF_X4_39 dX4_readSum_199 rfl rfl (by decide) rfl (by decide) kSF_X4_tape (fun g131 => ?_)
              refine lv_bipush (v := 43) hx hb dX4_readSum_202 (by decide) ?_
              have k_43 : (43 : Int32).toInt = 43 := by decide
              refine callV_Pi C S129.1 S129.2.1.2.1 (c_X9_isSign l D G (fR D H129 4 a0 0) (43 : Int32) g131) kV_X4_84 g131 (trivial) dX4_readSum_204 hl.1 rfl rfl (by decide) cd_X9_isSign ⟨Nat.le_of_ble_eq_true rfl, Nat.le_of_ble_eq_true rfl, Nat.le_of_ble_eq_true rfl, Nat.le_of_ble_eq_true rfl, Nat.le_of_ble_eq_true rfl⟩ (fun v132 q132 => ?_)
              refine lv_if_ne (tgt := 212) hx hb dX4_readSum_207 (by decide) (fun c133 => ?_) (fun c133 => ?_)
              · have b133 : ¬ v132.toInt = (0 : Int32).toInt := fun z9 => c133 (i_eq.mpr z9)
                refine lv_aload_n hx hb dX4_readSum_212 rfl (lv_at hl 1 rfl) ?_
                refine q_grS (T := TX4) C S129.1 ga0 0 kF_X4_39 dX4_readSum_213 rfl rfl (by decide) rfl (by decide) kSF_X4_tape (fun g134 => ?_)
                refine callV_Ev C S129 (c_X9_next l D G (fR D H129 4 a0 0) g134) kV_X4_47 g134 (trivial) (by decide +kernel) dX4_readSum_216 hl.1 rfl rfl (by decide) cd_X9_next ⟨Nat.le_of_ble_eq_true rfl, Nat.le_of_ble_eq_true rfl, Nat.le_of_ble_eq_true rfl, Nat.le_of_ble_eq_true rfl, Nat.le_of_ble_eq_true rfl⟩ (fun H135 L135 S135 K135 q135 => ?_)
                have tk135 : Lw D s.heap H135 a0 := tk129.trans (Lw.keep S129.1 ga0 K135 (by decide +kernel) (by decide +kernel) (by decide +kernel))
                obtain ⟨v136, ev136⟩ : ∃ y : Int32, y = x1_2 + (1) := ⟨_, rfl⟩
                have k_1 : (1 : Int32).toInt = 1 := by decide
                have f137 : v136.toInt = x1_2.toInt + (1) := by rw [ev136]; exact i_addc k_1 (by omega) (by omega)
                refine lv_iinc (v := v136) (lv' := [(1, .int v136), (0, .ref a0)]) hx hb dX4_readSum_219 hl (k := 0) rfl (by rw [ev136]; rfl) (by decide) rfl (fun ls hl => ?_)
                refine lv_goto (tgt := 2) hx hb dX4_readSum_222 (by decide) ?_
                exact ih2 v136 H135 L135 ls S135 (by omega) tk135 (by omega) (lv_sub hl [0, 1] rfl)
              · have b133 : v132.toInt = (0 : Int32).toInt := i_eq.mp c133
                refine lv_iconst (v := 1) hx hb dX4_readSum_210 (by decide) ?_
                have k_1 : (1 : Int32).toInt = 1 := by decide
                exact retE_z hQ C S129 hr dX4_readSum_211 (z01 (by omega) (by omega)) (⟨by omega, tk129⟩)
            · have b130 : ¬ x1_2.toInt ≤ (0 : Int32).toInt := fun z9 => c130 (i_le.mpr z9)
              refine lv_aload_n hx hb dX4_readSum_192 rfl (lv_at hl 1 rfl) ?_
              refine lv_bipush (v := -14) hx hb dX4_readSum_193 (by decide) ?_
              have k_m14 : (-14 : Int32).toInt = -14 := by decide
              refine callV_Ev C S129 (c_X4_put l D G a0 (-14 : Int32) ga0) kV_X4_55 ga0 (trivial) (by decide +kernel) dX4_readSum_195 hl.1 rfl rfl (by decide) cd_X4_put ⟨Nat.le_of_ble_eq_true rfl, Nat.le_of_ble_eq_true rfl, Nat.le_of_ble_eq_true rfl, Nat.le_of_ble_eq_true rfl, Nat.le_of_ble_eq_true rfl⟩ (fun H138 L138 S138 K138 q138 => ?_)
              obtain ⟨qa138, qb138, tq138⟩ := q138
              have tk138 : Lw D s.heap H138 a0 := tk129.trans tq138
              refine lv_aload_n hx hb dX4_readSum_198 rfl (lv_at hl 1 rfl) ?_
              refine q_grS (T := TX4) C S138.1 ga0 0 kF_X4_39 dX4_readSum_199 rfl rfl (by decide) rfl (by decide) kSF_X4_tape (fun g139 => ?_)
              refine lv_bipush (v := 43) hx hb dX4_readSum_202 (by decide) ?_
              have k_43 : (43 : Int32).toInt = 43 := by decide
              refine callV_Pi C S138.1 S138.2.1.2.1 (c_X9_isSign l D G (fR D H138 4 a0 0) (43 : Int32) g139) kV_X4_84 g139 (trivial) dX4_readSum_204 hl.1 rfl rfl (by decide) cd_X9_isSign ⟨Nat.le_of_ble_eq_true rfl, Nat.le_of_ble_eq_true rfl, Nat.le_of_ble_eq_true rfl, Nat.le_of_ble_eq_true rfl, Nat.le_of_ble_eq_true rfl⟩ (fun v140 q140 => ?_)
              refine lv_if_ne (tgt := 212) hx hb dX4_readSum_207 (by decide) (fun c141 => ?_) (fun c141 => ?_)
              · have b141 : ¬ v140.toInt = (0 : Int32).toInt := fun z9 => c141 (i_eq.mpr z9)
                refine lv_aload_n hx hb dX4_readSum_212 rfl (lv_at hl 1 rfl) ?_
                refine q_grS (T := TX4) C S138.1 ga0 0 kF_X4_39 dX4_readSum_213 rfl rfl (by decide) rfl (by decide) kSF_X4_tape (fun g142 => ?_)
                refine callV_Ev C S138 (c_X9_next l D G (fR D H138 4 a0 0) g142) kV_X4_47 g142 (trivial) (by decide +kernel) dX4_readSum_216 hl.1 rfl rfl (by decide) cd_X9_next ⟨Nat.le_of_ble_eq_true rfl, Nat.le_of_ble_eq_true rfl, Nat.le_of_ble_eq_true rfl, Nat.le_of_ble_eq_true rfl, Nat.le_of_ble_eq_true rfl⟩ (fun H143 L143 S143 K143 q143 => ?_)
                have tk143 : Lw D s.heap H143 a0 := tk138.trans (Lw.keep S138.1 ga0 K143 (by decide +kernel) (by decide +kernel) (by decide +kernel))
                obtain ⟨v144, ev144⟩ : ∃ y : Int32, y = x1_2 + (1) := ⟨_, rfl⟩
                have k_1 : (1 : Int32).toInt = 1 := by decide
                have f145 : v144.toInt = x1_2.toInt + (1) := by rw [ev144]; exact i_addc k_1 (by omega) (by omega)
                refine lv_iinc (v := v144) (lv' := [(1, .int v144), (0, .ref a0)]) hx hb dX4_readSum_219 hl (k := 0) rfl (by rw [ev144]; rfl) (by decide) rfl (fun ls hl => ?_)
                refine lv_goto (tgt := 2) hx hb dX4_readSum_222 (by decide) ?_
                exact ih2 v144 H143 L143 ls S143 (by omega) tk143 (by omega) (lv_sub hl [0, 1] rfl)
              · have b141 : v140.toInt = (0 : Int32).toInt := i_eq.mp c141
                refine lv_iconst (v := 1) hx hb dX4_readSum_210 (by decide) ?_
                have k_1 : (1 : Int32).toInt = 1 := by decide
                exact retE_z hQ C S138 hr dX4_readSum_211 (z01 (by omega) (by omega)) (⟨by omega, tk138⟩)
        · have b5 : (fI D H_2 9 (fR D H_2 4 a0 0) 3).toInt = (2 : Int32).toInt := i_eq.mp c5
          refine lv_aload_n hx hb dX4_readSum_20 rfl (lv_at hl 1 rfl) ?_
          refine q_grS (T := TX4) C S_2.1 ga0 0 kF_X4_39 dX4_readSum_21 rfl rfl (by decide) rfl (by decide) kSF_X4_tape (fun g146 => ?_)
          refine q_gi (T := TX9) C S_2.1 g146 6 kF_X4_113 dX4_readSum_24 rfl rfl (by decide) rfl (by decide) rfl ?_
          refine lv_sipush (v := 999) hx hb dX4_readSum_27 (by decide) ?_
          have k_999 : (999 : Int32).toInt = 999 := by decide
          refine lv_icmp_gt (tgt := 47) hx hb dX4_readSum_30 (by decide) (fun c147 => ?_) (fun c147 => ?_)
          · have b147 : (999 : Int32).toInt < (fI D H_2 9 (fR D H_2 4 a0 0) 6).toInt := i_lt.mp c147
            refine lv_aload_n hx hb dX4_readSum_47 rfl (lv_at hl 1 rfl) ?_
            refine q_grS (T := TX4) C S_2.1 ga0 0 kF_X4_39 dX4_readSum_48 rfl rfl (by decide) rfl (by decide) kSF_X4_tape (fun g148 => ?_)
            refine q_lds C ks_X4_116 dX4_readSum_51 (fun a149 ha149 => ?_)
            refine callV_Pi C S_2.1 S_2.2.1.2.1 (c_X9_isWord l D G (fR D H_2 4 a0 0) a149 5 g148 ha149) kV_X4_61 g148 (trivial) dX4_readSum_53 hl.1 rfl rfl (by decide) cd_X9_isWord ⟨Nat.le_of_ble_eq_true rfl, Nat.le_of_ble_eq_true rfl, Nat.le_of_ble_eq_true rfl, Nat.le_of_ble_eq_true rfl, Nat.le_of_ble_eq_true rfl⟩ (fun v150 q150 => ?_)
            have k_0 : (0 : Int32).toInt = 0 := by decide
            refine lv_if_eq (tgt := 68) hx hb dX4_readSum_56 (by decide) (fun c151 => ?_) (fun c151 => ?_)
            · have b151 : v150.toInt = (0 : Int32).toInt := i_eq.mp c151
              refine lv_aload_n hx hb dX4_readSum_68 rfl (lv_at hl 1 rfl) ?_
              refine q_grS (T := TX4) C S_2.1 ga0 0 kF_X4_39 dX4_readSum_69 rfl rfl (by decide) rfl (by decide) kSF_X4_tape (fun g152 => ?_)
              refine q_lds C ks_X4_118 dX4_readSum_72 (fun a153 ha153 => ?_)
              refine callV_Pi C S_2.1 S_2.2.1.2.1 (c_X9_isWord l D G (fR D H_2 4 a0 0) a153 4 g152 ha153) kV_X4_61 g152 (trivial) dX4_readSum_74 hl.1 rfl rfl (by decide) cd_X9_isWord ⟨Nat.le_of_ble_eq_true rfl, Nat.le_of_ble_eq_true rfl, Nat.le_of_ble_eq_true rfl, Nat.le_of_ble_eq_true rfl, Nat.le_of_ble_eq_true rfl⟩ (fun v154 q154 => ?_)
              refine lv_if_eq (tgt := 89) hx hb dX4_readSum_77 (by decide) (fun c155 => ?_) (fun c155 => ?_)
              · have b155 : v154.toInt = (0 : Int32).toInt := i_eq.mp c155
                refine lv_aload_n hx hb dX4_readSum_89 rfl (lv_at hl 1 rfl) ?_
                refine q_grS (T := TX4) C S_2.1 ga0 0 kF_X4_39 dX4_readSum_90 rfl rfl (by decide) rfl (by decide) kSF_X4_tape (fun g156 => ?_)
                refine q_lds C ks_X4_120 dX4_readSum_93 (fun a157 ha157 => ?_)
                refine callV_Pi C S_2.1 S_2.2.1.2.1 (c_X9_isWord l D G (fR D H_2 4 a0 0) a157 4 g156 ha157) kV_X4_61 g156 (trivial) dX4_readSum_95 hl.1 rfl rfl (by decide) cd_X9_isWord ⟨Nat.le_of_ble_eq_true rfl, Nat.le_of_ble_eq_true rfl, Nat.le_of_ble_eq_true rfl, Nat.le_of_ble_eq_true rfl, Nat.le_of_ble_eq_true rfl⟩ (fun v158 q158 => ?_)
                refine lv_if_eq (tgt := 110) hx hb dX4_readSum_98 (by decide) (fun c159 => ?_) (fun c159 => ?_)
                · have b159 : v158.toInt = (0 : Int32).toInt := i_eq.mp c159
                  refine lv_aload_n hx hb dX4_readSum_110 rfl (lv_at hl 1 rfl) ?_
                  refine q_grS (T := TX4) C S_2.1 ga0 0 kF_X4_39 dX4_readSum_111 rfl rfl (by decide) rfl (by decide) kSF_X4_tape (fun g160 => ?_)
                  refine q_lds C ks_X4_122 dX4_readSum_114 (fun a161 ha161 => ?_)
                  refine callV_Pi C S_2.1 S_2.2.1.2.1 (c_X9_isWord l D G (fR D H_2 4 a0 0) a161 7 g160 ha161) kV_X4_61 g160 (trivial) dX4_readSum_116 hl.1 rfl rfl (by decide) cd_X9_isWord ⟨Nat.le_of_ble_eq_true rfl, Nat.le_of_ble_eq_true rfl, Nat.le_of_ble_eq_true rfl, Nat.le_of_ble_eq_true rfl, Nat.le_of_ble_eq_true rfl⟩ (fun v162 q162 => ?_)
                  refine lv_if_eq (tgt := 131) hx hb dX4_readSum_119 (by decide) (fun c163 => ?_) (fun c163 => ?_)
                  · have b163 : v162.toInt = (0 : Int32).toInt := i_eq.mp c163
                    refine lv_aload_n hx hb dX4_readSum_131 rfl (lv_at hl 1 rfl) ?_
                    refine q_grS (T := TX4) C S_2.1 ga0 0 kF_X4_39 dX4_readSum_132 rfl rfl (by decide) rfl (by decide) kSF_X4_tape (fun g164 => ?_)
                    refine q_lds C ks_X4_124 dX4_readSum_135 (fun a165 ha165 => ?_)
                    refine callV_Pi C S_2.1 S_2.2.1.2.1 (c_X9_isWord l D G (fR D H_2 4 a0 0) a165 7 g164 ha165) kV_X4_61 g164 (trivial) dX4_readSum_137 hl.1 rfl rfl (by decide) cd_X9_isWord ⟨Nat.le_of_ble_eq_true rfl, Nat.le_of_ble_eq_true rfl, Nat.le_of_ble_eq_true rfl, Nat.le_of_ble_eq_true rfl, Nat.le_of_ble_eq_true rfl⟩ (fun v166 q166 => ?_)
                    refine lv_if_eq (tgt := 152) hx hb dX4_readSum_140 (by decide) (fun c167 => ?_) (fun c167 => ?_)
                    · have b167 : v166.toInt = (0 : Int32).toInt := i_eq.mp c167
                      refine lv_aload_n hx hb dX4_readSum_152 rfl (lv_at hl 1 rfl) ?_
                      refine q_grS (T := TX4) C S_2.1 ga0 0 kF_X4_39 dX4_readSum_153 rfl rfl (by decide) rfl (by decide) kSF_X4_tape (fun g168 => ?_)
                      refine q_lds C ks_X4_126 dX4_readSum_156 (fun a169 ha169 => ?_)
                      refine callV_Pi C S_2.1 S_2.2.1.2.1 (c_X9_isWord l D G (fR D H_2 4 a0 0) a169 7 g168 ha169) kV_X4_61 g168 (trivial) dX4_readSum_158 hl.1 rfl rfl (by decide) cd_X9_isWord ⟨Nat.le_of_ble_eq_true rfl, Nat.le_of_ble_eq_true rfl, Nat.le_of_ble_eq_true rfl, Nat.le_of_ble_eq_true rfl, Nat.le_of_ble_eq_true rfl⟩ (fun v170 q170 => ?_)
                      refine lv_if_eq (tgt := 173) hx hb dX4_readSum_161 (by decide) (fun c171 => ?_) (fun c171 => ?_)
                      · have b171 : v170.toInt = (0 : Int32).toInt := i_eq.mp c171
                        refine lv_aload_n hx hb dX4_readSum_173 rfl (lv_at hl 1 rfl) ?_
                        refine q_grS (T := TX4) C S_2.1 ga0 0 kF_X4_39 dX4_readSum_174 rfl rfl (by decide) rfl (by decide) kSF_X4_tape (fun g172 => ?_)
                        refine callV_Ei C S_2 (c_X9_refuse l D G (fR D H_2 4 a0 0) g172) kV_X4_43 g172 (trivial) (by decide +kernel) dX4_readSum_177 hl.1 rfl rfl (by decide) cd_X9_refuse ⟨Nat.le_of_ble_eq_true rfl, Nat.le_of_ble_eq_true rfl, Nat.le_of_ble_eq_true rfl, Nat.le_of_ble_eq_true rfl, Nat.le_of_ble_eq_true rfl⟩ (fun v173 H173 L173 S173 K173 q173 => ?_)
                        have tk173 : Lw D s.heap H173 a0 := u2_0.trans (Lw.keep S_2.1 ga0 K173 (by decide +kernel) (by decide +kernel) (by decide +kernel))
                        exact retE_z hQ C S173 hr dX4_readSum_180 (z01 (by omega) (by omega)) (⟨by omega, tk173⟩)
                      · have b171 : ¬ v170.toInt = (0 : Int32).toInt := fun z9 => c171 (i_eq.mpr z9)
                        refine lv_aload_n hx hb dX4_readSum_164 rfl (lv_at hl 1 rfl) ?_
                        refine lv_bipush (v := -12) hx hb dX4_readSum_165 (by decide) ?_
                        have k_m12 : (-12 : Int32).toInt = -12 := by decide
                        refine callV_Ev C S_2 (c_X4_put l D G a0 (-12 : Int32) ga0) kV_X4_55 ga0 (trivial) (by decide +kernel) dX4_readSum_167 hl.1 rfl rfl (by decide) cd_X4_put ⟨Nat.le_of_ble_eq_true rfl, Nat.le_of_ble_eq_true rfl, Nat.le_of_ble_eq_true rfl, Nat.le_of_ble_eq_true rfl, Nat.le_of_ble_eq_true rfl⟩ (fun H174 L174 S174 K174 q174 => ?_)
                        obtain ⟨qa174, qb174, tq174⟩ := q174
                        have tk174 : Lw D s.heap H174 a0 := u2_0.trans tq174
                        refine lv_goto (tgt := 181) hx hb dX4_readSum_170 (by decide) ?_
                        refine lv_aload_n hx hb dX4_readSum_181 rfl (lv_at hl 1 rfl) ?_
                        refine q_grS (T := TX4) C S174.1 ga0 0 kF_X4_39 dX4_readSum_182 rfl rfl (by decide) rfl (by decide) kSF_X4_tape (fun g175 => ?_)
                        refine callV_Ev C S174 (c_X9_next l D G (fR D H174 4 a0 0) g175) kV_X4_47 g175 (trivial) (by decide +kernel) dX4_readSum_185 hl.1 rfl rfl (by decide) cd_X9_next ⟨Nat.le_of_ble_eq_true rfl, Nat.le_of_ble_eq_true rfl, Nat.le_of_ble_eq_true rfl, Nat.le_of_ble_eq_true rfl, Nat.le_of_ble_eq_true rfl⟩ (fun H176 L176 S176 K176 q176 => ?_)
                        have tk176 : Lw D s.heap H176 a0 := tk174.trans (Lw.keep S174.1 ga0 K176 (by decide +kernel) (by decide +kernel) (by decide +kernel))
                        refine lv_iload_n hx hb dX4_readSum_188 rfl (lv_at hl 0 rfl) ?_
                        refine lv_if_le (tgt := 198) hx hb dX4_readSum_189 (by decide) (fun c177 => ?_) (fun c177 => ?_)
                        · have b177 : x1_2.toInt ≤ (0 : Int32).toInt := i_le.mp c177
                          refine lv_aload_n hx hb dX4_readSum_198 rfl (lv_at hl 1 rfl) ?_
                          refine q_grS (T := TX4) C S176.1 ga0 0 kF_X4_39 dX4_readSum_199 rfl rfl (by decide) rfl (by decide) kSF_X4_tape (fun g178 => ?_)
                          refine lv_bipush (v := 43) hx hb dX4_readSum_202 (by decide) ?_
                          have k_43 : (43 : Int32).toInt = 43 := by decide
                          refine callV_Pi C S176.1 S176.2.1.2.1 (c_X9_isSign l D G (fR D H176 4 a0 0) (43 : Int32) g178) kV_X4_84 g178 (trivial) dX4_readSum_204 hl.1 rfl rfl (by decide) cd_X9_isSign ⟨Nat.le_of_ble_eq_true rfl, Nat.le_of_ble_eq_true rfl, Nat.le_of_ble_eq_true rfl, Nat.le_of_ble_eq_true rfl, Nat.le_of_ble_eq_true rfl⟩ (fun v179 q179 => ?_)
                          refine lv_if_ne (tgt := 212) hx hb dX4_readSum_207 (by decide) (fun c180 => ?_) (fun c180 => ?_)
                          · have b180 : ¬ v179.toInt = (0 : Int32).toInt := fun z9 => c180 (i_eq.mpr z9)
                            refine lv_aload_n hx hb dX4_readSum_212 rfl (lv_at hl 1 rfl) ?_
                            refine q_grS (T := TX4) C S176.1 ga0 0 kF_X4_39 dX4_readSum_213 rfl rfl (by decide) rfl (by decide) kSF_X4_tape (fun g181 => ?_)
                            refine callV_Ev C S176 (c_X9_next l D G (fR D H176 4 a0 0) g181) kV_X4_47 g181 (trivial) (by decide +kernel) dX4_readSum_216 hl.1 rfl rfl (by decide) cd_X9_next ⟨Nat.le_of_ble_eq_true rfl, Nat.le_of_ble_eq_true rfl, Nat.le_of_ble_eq_true rfl, Nat.le_of_ble_eq_true rfl, Nat.le_of_ble_eq_true rfl⟩ (fun H182 L182 S182 K182 q182 => ?_)
                            have tk182 : Lw D s.heap H182 a0 := tk176.trans (Lw.keep S176.1 ga0 K182 (by decide +kernel) (by decide +kernel) (by decide +kernel))
                            obtain ⟨v183, ev183⟩ : ∃ y : Int32, y = x1_2 + (1) := ⟨_, rfl⟩
                            have k_1 : (1 : Int32).toInt = 1 := by decide
                            have f184 : v183.toInt = x1_2.toInt + (1) := by rw [ev183]; exact i_addc k_1 (by omega) (by omega)
                            refine lv_iinc (v := v183) (lv' := [(1, .int v183), (0, .ref a0)]) hx hb dX4_readSum_219 hl (k := 0) rfl (by rw [ev183]; rfl) (by decide) rfl (fun ls hl => ?_)
                            refine lv_goto (tgt := 2) hx hb dX4_readSum_222 (by decide) ?_
                            exact ih2 v183 H182 L182 ls S182 (by omega) tk182 (by omega) (lv_sub hl [0, 1] rfl)
                          · have b180 : v179.toInt = (0 : Int32).toInt := i_eq.mp c180
                            refine lv_iconst (v := 1) hx hb dX4_readSum_210 (by decide) ?_
                            have k_1 : (1 : Int32).toInt = 1 := by decide
                            exact retE_z hQ C S176 hr dX4_readSum_211 (z01 (by omega) (by omega)) (⟨by omega, tk176⟩)
                        · have b177 : ¬ x1_2.toInt ≤ (0 : Int32).toInt := fun z9 => c177 (i_le.mpr z9)
                          refine lv_aload_n hx hb dX4_readSum_192 rfl (lv_at hl 1 rfl) ?_
                          refine lv_bipush (v := -14) hx hb dX4_readSum_193 (by decide) ?_
                          have k_m14 : (-14 : Int32).toInt = -14 := by decide
                          refine callV_Ev C S176 (c_X4_put l D G a0 (-14 : Int32) ga0) kV_X4_55 ga0 (trivial) (by decide +kernel) dX4_readSum_195 hl.1 rfl rfl (by decide) cd_X4_put ⟨Nat.le_of_ble_eq_true rfl, Nat.le_of_ble_eq_true rfl, Nat.le_of_ble_eq_true rfl, Nat.le_of_ble_eq_true rfl, Nat.le_of_ble_eq_true rfl⟩ (fun H185 L185 S185 K185 q185 => ?_)
                          obtain ⟨qa185, qb185, tq185⟩ := q185
                          have tk185 : Lw D s.heap H185 a0 := tk176.trans tq185
                          refine lv_aload_n hx hb dX4_readSum_198 rfl (lv_at hl 1 rfl) ?_
                          refine q_grS (T := TX4) C S185.1 ga0 0 kF_X4_39 dX4_readSum_199 rfl rfl (by decide) rfl (by decide) kSF_X4_tape (fun g186 => ?_)
                          refine lv_bipush (v := 43) hx hb dX4_readSum_202 (by decide) ?_
                          have k_43 : (43 : Int32).toInt = 43 := by decide
                          refine callV_Pi C S185.1 S185.2.1.2.1 (c_X9_isSign l D G (fR D H185 4 a0 0) (43 : Int32) g186) kV_X4_84 g186 (trivial) dX4_readSum_204 hl.1 rfl rfl (by decide) cd_X9_isSign ⟨Nat.le_of_ble_eq_true rfl, Nat.le_of_ble_eq_true rfl, Nat.le_of_ble_eq_true rfl, Nat.le_of_ble_eq_true rfl, Nat.le_of_ble_eq_true rfl⟩ (fun v187 q187 => ?_)
                          refine lv_if_ne (tgt := 212) hx hb dX4_readSum_207 (by decide) (fun c188 => ?_) (fun c188 => ?_)
                          · have b188 : ¬ v187.toInt = (0 : Int32).toInt := fun z9 => c188 (i_eq.mpr z9)
                            refine lv_aload_n hx hb dX4_readSum_212 rfl (lv_at hl 1 rfl) ?_
                            refine q_grS (T := TX4) C S185.1 ga0 0 kF_X4_39 dX4_readSum_213 rfl rfl (by decide) rfl (by decide) kSF_X4_tape (fun g189 => ?_)
                            refine callV_Ev C S185 (c_X9_next l D G (fR D H185 4 a0 0) g189) kV_X4_47 g189 (trivial) (by decide +kernel) dX4_readSum_216 hl.1 rfl rfl (by decide) cd_X9_next ⟨Nat.le_of_ble_eq_true rfl, Nat.le_of_ble_eq_true rfl, Nat.le_of_ble_eq_true rfl, Nat.le_of_ble_eq_true rfl, Nat.le_of_ble_eq_true rfl⟩ (fun H190 L190 S190 K190 q190 => ?_)
                            have tk190 : Lw D s.heap H190 a0 := tk185.trans (Lw.keep S185.1 ga0 K190 (by decide +kernel) (by decide +kernel) (by decide +kernel))
                            obtain ⟨v191, ev191⟩ : ∃ y : Int32, y = x1_2 + (1) := ⟨_, rfl⟩
                            have k_1 : (1 : Int32).toInt = 1 := by decide
                            have f192 : v191.toInt = x1_2.toInt + (1) := by rw [ev191]; exact i_addc k_1 (by omega) (by omega)
                            refine lv_iinc (v := v191) (lv' := [(1, .int v191), (0, .ref a0)]) hx hb dX4_readSum_219 hl (k := 0) rfl (by rw [ev191]; rfl) (by decide) rfl (fun ls hl => ?_)
                            refine lv_goto (tgt := 2) hx hb dX4_readSum_222 (by decide) ?_
                            exact ih2 v191 H190 L190 ls S190 (by omega) tk190 (by omega) (lv_sub hl [0, 1] rfl)
                          · have b188 : v187.toInt = (0 : Int32).toInt := i_eq.mp c188
                            refine lv_iconst (v := 1) hx hb dX4_readSum_210 (by decide) ?_
                            have k_1 : (1 : Int32).toInt = 1 := by decide
                            exact retE_z hQ C S185 hr dX4_readSum_211 (z01 (by omega) (by omega)) (⟨by omega, tk185⟩)
                    · have b167 : ¬ v166.toInt = (0 : Int32).toInt := fun z9 => c167 (i_eq.mpr z9)
                      refine lv_aload_n hx hb dX4_readSum_143 rfl (lv_at hl 1 rfl) ?_
                      refine lv_bipush (v := -11) hx hb dX4_readSum_144 (by decide) ?_
                      have k_m11 : (-11 : Int32).toInt = -11 := by decide
                      refine callV_Ev C S_2 (c_X4_put l D G a0 (-11 : Int32) ga0) kV_X4_55 ga0 (trivial) (by decide +kernel) dX4_readSum_146 hl.1 rfl rfl (by decide) cd_X4_put ⟨Nat.le_of_ble_eq_true rfl, Nat.le_of_ble_eq_true rfl, Nat.le_of_ble_eq_true rfl, Nat.le_of_ble_eq_true rfl, Nat.le_of_ble_eq_true rfl⟩ (fun H193 L193 S193 K193 q193 => ?_)
                      obtain ⟨qa193, qb193, tq193⟩ := q193
                      have tk193 : Lw D s.heap H193 a0 := u2_0.trans tq193
                      refine lv_goto (tgt := 181) hx hb dX4_readSum_149 (by decide) ?_
                      refine lv_aload_n hx hb dX4_readSum_181 rfl (lv_at hl 1 rfl) ?_
                      refine q_grS (T := TX4) C S193.1 ga0 0 kF_X4_39 dX4_readSum_182 rfl rfl (by decide) rfl (by decide) kSF_X4_tape (fun g194 => ?_)
                      refine callV_Ev C S193 (c_X9_next l D G (fR D H193 4 a0 0) g194) kV_X4_47 g194 (trivial) (by decide +kernel) dX4_readSum_185 hl.1 rfl rfl (by decide) cd_X9_next ⟨Nat.le_of_ble_eq_true rfl, Nat.le_of_ble_eq_true rfl, Nat.le_of_ble_eq_true rfl, Nat.le_of_ble_eq_true rfl, Nat.le_of_ble_eq_true rfl⟩ (fun H195 L195 S195 K195 q195 => ?_)
                      have tk195 : Lw D s.heap H195 a0 := tk193.trans (Lw.keep S193.1 ga0 K195 (by decide +kernel) (by decide +kernel) (by decide +kernel))
                      refine lv_iload_n hx hb dX4_readSum_188 rfl (lv_at hl 0 rfl) ?_
                      refine lv_if_le (tgt := 198) hx hb dX4_readSum_189 (by decide) (fun c196 => ?_) (fun c196 => ?_)
                      · have b196 : x1_2.toInt ≤ (0 : Int32).toInt := i_le.mp c196
                        refine lv_aload_n hx hb dX4_readSum_198 rfl (lv_at hl 1 rfl) ?_
                        refine q_grS (T := TX4) C S195.1 ga0 0 kF_X4_39 dX4_readSum_199 rfl rfl (by decide) rfl (by decide) kSF_X4_tape (fun g197 => ?_)
                        refine lv_bipush (v := 43) hx hb dX4_readSum_202 (by decide) ?_
                        have k_43 : (43 : Int32).toInt = 43 := by decide
                        refine callV_Pi C S195.1 S195.2.1.2.1 (c_X9_isSign l D G (fR D H195 4 a0 0) (43 : Int32) g197) kV_X4_84 g197 (trivial) dX4_readSum_204 hl.1 rfl rfl (by decide) cd_X9_isSign ⟨Nat.le_of_ble_eq_true rfl, Nat.le_of_ble_eq_true rfl, Nat.le_of_ble_eq_true rfl, Nat.le_of_ble_eq_true rfl, Nat.le_of_ble_eq_true rfl⟩ (fun v198 q198 => ?_)
                        refine lv_if_ne (tgt := 212) hx hb dX4_readSum_207 (by decide) (fun c199 => ?_) (fun c199 => ?_)
                        · have b199 : ¬ v198.toInt = (0 : Int32).toInt := fun z9 => c199 (i_eq.mpr z9)
                          refine lv_aload_n hx hb dX4_readSum_212 rfl (lv_at hl 1 rfl) ?_
                          refine q_grS (T := TX4) C S195.1 ga0 0 kF_X4_39 dX4_readSum_213 rfl rfl (by decide) rfl (by decide) kSF_X4_tape (fun g200 => ?_)
                          refine callV_Ev C S195 (c_X9_next l D G (fR D H195 4 a0 0) g200) kV_X4_47 g200 (trivial) (by decide +kernel) dX4_readSum_216 hl.1 rfl rfl (by decide) cd_X9_next ⟨Nat.le_of_ble_eq_true rfl, Nat.le_of_ble_eq_true rfl, Nat.le_of_ble_eq_true rfl, Nat.le_of_ble_eq_true rfl, Nat.le_of_ble_eq_true rfl⟩ (fun H201 L201 S201 K201 q201 => ?_)
                          have tk201 : Lw D s.heap H201 a0 := tk195.trans (Lw.keep S195.1 ga0 K201 (by decide +kernel) (by decide +kernel) (by decide +kernel))
                          obtain ⟨v202, ev202⟩ : ∃ y : Int32, y = x1_2 + (1) := ⟨_, rfl⟩
                          have k_1 : (1 : Int32).toInt = 1 := by decide
                          have f203 : v202.toInt = x1_2.toInt + (1) := by rw [ev202]; exact i_addc k_1 (by omega) (by omega)
                          refine lv_iinc (v := v202) (lv' := [(1, .int v202), (0, .ref a0)]) hx hb dX4_readSum_219 hl (k := 0) rfl (by rw [ev202]; rfl) (by decide) rfl (fun ls hl => ?_)
                          refine lv_goto (tgt := 2) hx hb dX4_readSum_222 (by decide) ?_
                          exact ih2 v202 H201 L201 ls S201 (by omega) tk201 (by omega) (lv_sub hl [0, 1] rfl)
                        · have b199 : v198.toInt = (0 : Int32).toInt := i_eq.mp c199
                          refine lv_iconst (v := 1) hx hb dX4_readSum_210 (by decide) ?_
                          have k_1 : (1 : Int32).toInt = 1 := by decide
                          exact retE_z hQ C S195 hr dX4_readSum_211 (z01 (by omega) (by omega)) (⟨by omega, tk195⟩)
                      · have b196 : ¬ x1_2.toInt ≤ (0 : Int32).toInt := fun z9 => c196 (i_le.mpr z9)
                        refine lv_aload_n hx hb dX4_readSum_192 rfl (lv_at hl 1 rfl) ?_
                        refine lv_bipush (v := -14) hx hb dX4_readSum_193 (by decide) ?_
                        have k_m14 : (-14 : Int32).toInt = -14 := by decide
                        refine callV_Ev C S195 (c_X4_put l D G a0 (-14 : Int32) ga0) kV_X4_55 ga0 (trivial) (by decide +kernel) dX4_readSum_195 hl.1 rfl rfl (by decide) cd_X4_put ⟨Nat.le_of_ble_eq_true rfl, Nat.le_of_ble_eq_true rfl, Nat.le_of_ble_eq_true rfl, Nat.le_of_ble_eq_true rfl, Nat.le_of_ble_eq_true rfl⟩ (fun H204 L204 S204 K204 q204 => ?_)
                        obtain ⟨qa204, qb204, tq204⟩ := q204
                        have tk204 : Lw D s.heap H204 a0 := tk195.trans tq204
                        refine lv_aload_n hx hb dX4_readSum_198 rfl (lv_at hl 1 rfl) ?_
                        refine q_grS (T := TX4) C S204.1 ga0 0 kF_X4_39 dX4_readSum_199 rfl rfl (by decide) rfl (by decide) kSF_X4_tape (fun g205 => ?_)
                        refine lv_bipush (v := 43) hx hb dX4_readSum_202 (by decide) ?_
                        have k_43 : (43 : Int32).toInt = 43 := by decide
                        refine callV_Pi C S204.1 S204.2.1.2.1 (c_X9_isSign l D G (fR D H204 4 a0 0) (43 : Int32) g205) kV_X4_84 g205 (trivial) dX4_readSum_204 hl.1 rfl rfl (by decide) cd_X9_isSign ⟨Nat.le_of_ble_eq_true rfl, Nat.le_of_ble_eq_true rfl, Nat.le_of_ble_eq_true rfl, Nat.le_of_ble_eq_true rfl, Nat.le_of_ble_eq_true rfl⟩ (fun v206 q206 => ?_)
                        refine lv_if_ne (tgt := 212) hx hb dX4_readSum_207 (by decide) (fun c207 => ?_) (fun c207 => ?_)
                        · have b207 : ¬ v206.toInt = (0 : Int32).toInt := fun z9 => c207 (i_eq.mpr z9)
                          refine lv_aload_n hx hb dX4_readSum_212 rfl (lv_at hl 1 rfl) ?_
                          refine q_grS (T := TX4) C S204.1 ga0 0 kF_X4_39 dX4_readSum_213 rfl rfl (by decide) rfl (by decide) kSF_X4_tape (fun g208 => ?_)
                          refine callV_Ev C S204 (c_X9_next l D G (fR D H204 4 a0 0) g208) kV_X4_47 g208 (trivial) (by decide +kernel) dX4_readSum_216 hl.1 rfl rfl (by decide) cd_X9_next ⟨Nat.le_of_ble_eq_true rfl, Nat.le_of_ble_eq_true rfl, Nat.le_of_ble_eq_true rfl, Nat.le_of_ble_eq_true rfl, Nat.le_of_ble_eq_true rfl⟩ (fun H209 L209 S209 K209 q209 => ?_)
                          have tk209 : Lw D s.heap H209 a0 := tk204.trans (Lw.keep S204.1 ga0 K209 (by decide +kernel) (by decide +kernel) (by decide +kernel))
                          obtain ⟨v210, ev210⟩ : ∃ y : Int32, y = x1_2 + (1) := ⟨_, rfl⟩
                          have k_1 : (1 : Int32).toInt = 1 := by decide
                          have f211 : v210.toInt = x1_2.toInt + (1) := by rw [ev210]; exact i_addc k_1 (by omega) (by omega)
                          refine lv_iinc (v := v210) (lv' := [(1, .int v210), (0, .ref a0)]) hx hb dX4_readSum_219 hl (k := 0) rfl (by rw [ev210]; rfl) (by decide) rfl (fun ls hl => ?_)
                          refine lv_goto (tgt := 2) hx hb dX4_readSum_222 (by decide) ?_
                          exact ih2 v210 H209 L209 ls S209 (by omega) tk209 (by omega) (lv_sub hl [0, 1] rfl)
                        · have b207 : v206.toInt = (0 : Int32).toInt := i_eq.mp c207
                          refine lv_iconst (v := 1) hx hb dX4_readSum_210 (by decide) ?_
                          have k_1 : (1 : Int32).toInt = 1 := by decide
                          exact retE_z hQ C S204 hr dX4_readSum_211 (z01 (by omega) (by omega)) (⟨by omega, tk204⟩)
                  · have b163 : ¬ v162.toInt = (0 : Int32).toInt := fun z9 => c163 (i_eq.mpr z9)
                    refine lv_aload_n hx hb dX4_readSum_122 rfl (lv_at hl 1 rfl) ?_
                    refine lv_bipush (v := -10) hx hb dX4_readSum_123 (by decide) ?_
                    have k_m10 : (-10 : Int32).toInt = -10 := by decide
                    refine callV_Ev C S_2 (c_X4_put l D G a0 (-10 : Int32) ga0) kV_X4_55 ga0 (trivial) (by decide +kernel) dX4_readSum_125 hl.1 rfl rfl (by decide) cd_X4_put ⟨Nat.le_of_ble_eq_true rfl, Nat.le_of_ble_eq_true rfl, Nat.le_of_ble_eq_true rfl, Nat.le_of_ble_eq_true rfl, Nat.le_of_ble_eq_true rfl⟩ (fun H212 L212 S212 K212 q212 => ?_)
                    obtain ⟨qa212, qb212, tq212⟩ := q212
                    have tk212 : Lw D s.heap H212 a0 := u2_0.trans tq212
                    refine lv_goto (tgt := 181) hx hb dX4_readSum_128 (by decide) ?_
                    refine lv_aload_n hx hb dX4_readSum_181 rfl (lv_at hl 1 rfl) ?_
                    refine q_grS (T := TX4) C S212.1 ga0 0 kF_X4_39 dX4_readSum_182 rfl rfl (by decide) rfl (by decide) kSF_X4_tape (fun g213 => ?_)
                    refine callV_Ev C S212 (c_X9_next l D G (fR D H212 4 a0 0) g213) kV_X4_47 g213 (trivial) (by decide +kernel) dX4_readSum_185 hl.1 rfl rfl (by decide) cd_X9_next ⟨Nat.le_of_ble_eq_true rfl, Nat.le_of_ble_eq_true rfl, Nat.le_of_ble_eq_true rfl, Nat.le_of_ble_eq_true rfl, Nat.le_of_ble_eq_true rfl⟩ (fun H214 L214 S214 K214 q214 => ?_)
                    have tk214 : Lw D s.heap H214 a0 := tk212.trans (Lw.keep S212.1 ga0 K214 (by decide +kernel) (by decide +kernel) (by decide +kernel))
                    refine lv_iload_n hx hb dX4_readSum_188 rfl (lv_at hl 0 rfl) ?_
                    refine lv_if_le (tgt := 198) hx hb dX4_readSum_189 (by decide) (fun c215 => ?_) (fun c215 => ?_)
                    · have b215 : x1_2.toInt ≤ (0 : Int32).toInt := i_le.mp c215
                      refine lv_aload_n hx hb dX4_readSum_198 rfl (lv_at hl 1 rfl) ?_
                      refine q_grS (T := TX4) C S214.1 ga0 0 kF_X4_39 dX4_readSum_199 rfl rfl (by decide) rfl (by decide) kSF_X4_tape (fun g216 => ?_)
                      refine lv_bipush (v := 43) hx hb dX4_readSum_202 (by decide) ?_
                      have k_43 : (43 : Int32).toInt = 43 := by decide
                      refine callV_Pi C S214.1 S214.2.1.2.1 (c_X9_isSign l D G (fR D H214 4 a0 0) (43 : Int32) g216) kV_X4_84 g216 (trivial) dX4_readSum_204 hl.1 rfl rfl (by decide) cd_X9_isSign ⟨Nat.le_of_ble_eq_true rfl, Nat.le_of_ble_eq_true rfl, Nat.le_of_ble_eq_true rfl, Nat.le_of_ble_eq_true rfl, Nat.le_of_ble_eq_true rfl⟩ (fun v217 q217 => ?_)
                      refine lv_if_ne (tgt := 212) hx hb dX4_readSum_207 (by decide) (fun c218 => ?_) (fun c218 => ?_)
                      · have b218 : ¬ v217.toInt = (0 : Int32).toInt := fun z9 => c218 (i_eq.mpr z9)
                        refine lv_aload_n hx hb dX4_readSum_212 rfl (lv_at hl 1 rfl) ?_
                        refine q_grS (T := TX4) C S214.1 ga0 0 kF_X4_39 dX4_readSum_213 rfl rfl (by decide) rfl (by decide) kSF_X4_tape (fun g219 => ?_)
                        refine callV_Ev C S214 (c_X9_next l D G (fR D H214 4 a0 0) g219) kV_X4_47 g219 (trivial) (by decide +kernel) dX4_readSum_216 hl.1 rfl rfl (by decide) cd_X9_next ⟨Nat.le_of_ble_eq_true rfl, Nat.le_of_ble_eq_true rfl, Nat.le_of_ble_eq_true rfl, Nat.le_of_ble_eq_true rfl, Nat.le_of_ble_eq_true rfl⟩ (fun H220 L220 S220 K220 q220 => ?_)
                        have tk220 : Lw D s.heap H220 a0 := tk214.trans (Lw.keep S214.1 ga0 K220 (by decide +kernel) (by decide +kernel) (by decide +kernel))
                        obtain ⟨v221, ev221⟩ : ∃ y : Int32, y = x1_2 + (1) := ⟨_, rfl⟩
                        have k_1 : (1 : Int32).toInt = 1 := by decide
                        have f222 : v221.toInt = x1_2.toInt + (1) := by rw [ev221]; exact i_addc k_1 (by omega) (by omega)
                        refine lv_iinc (v := v221) (lv' := [(1, .int v221), (0, .ref a0)]) hx hb dX4_readSum_219 hl (k := 0) rfl (by rw [ev221]; rfl) (by decide) rfl (fun ls hl => ?_)
                        refine lv_goto (tgt := 2) hx hb dX4_readSum_222 (by decide) ?_
                        exact ih2 v221 H220 L220 ls S220 (by omega) tk220 (by omega) (lv_sub hl [0, 1] rfl)
                      · have b218 : v217.toInt = (0 : Int32).toInt := i_eq.mp c218
                        refine lv_iconst (v := 1) hx hb dX4_readSum_210 (by decide) ?_
                        have k_1 : (1 : Int32).toInt = 1 := by decide
                        exact retE_z hQ C S214 hr dX4_readSum_211 (z01 (by omega) (by omega)) (⟨by omega, tk214⟩)
                    · have b215 : ¬ x1_2.toInt ≤ (0 : Int32).toInt := fun z9 => c215 (i_le.mpr z9)
                      refine lv_aload_n hx hb dX4_readSum_192 rfl (lv_at hl 1 rfl) ?_
                      refine lv_bipush (v := -14) hx hb dX4_readSum_193 (by decide) ?_
                      have k_m14 : (-14 : Int32).toInt = -14 := by decide
                      refine callV_Ev C S214 (c_X4_put l D G a0 (-14 : Int32) ga0) kV_X4_55 ga0 (trivial) (by decide +kernel) dX4_readSum_195 hl.1 rfl rfl (by decide) cd_X4_put ⟨Nat.le_of_ble_eq_true rfl, Nat.le_of_ble_eq_true rfl, Nat.le_of_ble_eq_true rfl, Nat.le_of_ble_eq_true rfl, Nat.le_of_ble_eq_true rfl⟩ (fun H223 L223 S223 K223 q223 => ?_)
                      obtain ⟨qa223, qb223, tq223⟩ := q223
                      have tk223 : Lw D s.heap H223 a0 := tk214.trans tq223
                      refine lv_aload_n hx hb dX4_readSum_198 rfl (lv_at hl 1 rfl) ?_
                      refine q_grS (T := TX4) C S223.1 ga0 0 kF_X4_39 dX4_readSum_199 rfl rfl (by decide) rfl (by decide) kSF_X4_tape (fun g224 => ?_)
                      refine lv_bipush (v := 43) hx hb dX4_readSum_202 (by decide) ?_
                      have k_43 : (43 : Int32).toInt = 43 := by decide
                      refine callV_Pi C S223.1 S223.2.1.2.1 (c_X9_isSign l D G (fR D H223 4 a0 0) (43 : Int32) g224) kV_X4_84 g224 (trivial) dX4_readSum_204 hl.1 rfl rfl (by decide) cd_X9_isSign ⟨Nat.le_of_ble_eq_true rfl, Nat.le_of_ble_eq_true rfl, Nat.le_of_ble_eq_true rfl, Nat.le_of_ble_eq_true rfl, Nat.le_of_ble_eq_true rfl⟩ (fun v225 q225 => ?_)
                      refine lv_if_ne (tgt := 212) hx hb dX4_readSum_207 (by decide) (fun c226 => ?_) (fun c226 => ?_)
                      · have b226 : ¬ v225.toInt = (0 : Int32).toInt := fun z9 => c226 (i_eq.mpr z9)
                        refine lv_aload_n hx hb dX4_readSum_212 rfl (lv_at hl 1 rfl) ?_
                        refine q_grS (T := TX4) C S223.1 ga0 0 kF_X4_39 dX4_readSum_213 rfl rfl (by decide) rfl (by decide) kSF_X4_tape (fun g227 => ?_)
                        refine callV_Ev C S223 (c_X9_next l D G (fR D H223 4 a0 0) g227) kV_X4_47 g227 (trivial) (by decide +kernel) dX4_readSum_216 hl.1 rfl rfl (by decide) cd_X9_next ⟨Nat.le_of_ble_eq_true rfl, Nat.le_of_ble_eq_true rfl, Nat.le_of_ble_eq_true rfl, Nat.le_of_ble_eq_true rfl, Nat.le_of_ble_eq_true rfl⟩ (fun H228 L228 S228 K228 q228 => ?_)
                        have tk228 : Lw D s.heap H228 a0 := tk223.trans (Lw.keep S223.1 ga0 K228 (by decide +kernel) (by decide +kernel) (by decide +kernel))
                        obtain ⟨v229, ev229⟩ : ∃ y : Int32, y = x1_2 + (1) := ⟨_, rfl⟩
                        have k_1 : (1 : Int32).toInt = 1 := by decide
                        have f230 : v229.toInt = x1_2.toInt + (1) := by rw [ev229]; exact i_addc k_1 (by omega) (by omega)
                        refine lv_iinc (v := v229) (lv' := [(1, .int v229), (0, .ref a0)]) hx hb dX4_readSum_219 hl (k := 0) rfl (by rw [ev229]; rfl) (by decide) rfl (fun ls hl => ?_)
                        refine lv_goto (tgt := 2) hx hb dX4_readSum_222 (by decide) ?_
                        exact ih2 v229 H228 L228 ls S228 (by omega) tk228 (by omega) (lv_sub hl [0, 1] rfl)
                      · have b226 : v225.toInt = (0 : Int32).toInt := i_eq.mp c226
                        refine lv_iconst (v := 1) hx hb dX4_readSum_210 (by decide) ?_
                        have k_1 : (1 : Int32).toInt = 1 := by decide
                        exact retE_z hQ C S223 hr dX4_readSum_211 (z01 (by omega) (by omega)) (⟨by omega, tk223⟩)
                · have b159 : ¬ v158.toInt = (0 : Int32).toInt := fun z9 => c159 (i_eq.mpr z9)
                  refine lv_aload_n hx hb dX4_readSum_101 rfl (lv_at hl 1 rfl) ?_
                  refine lv_bipush (v := -9) hx hb dX4_readSum_102 (by decide) ?_
                  have k_m9 : (-9 : Int32).toInt = -9 := by decide
                  refine callV_Ev C S_2 (c_X4_put l D G a0 (-9 : Int32) ga0) kV_X4_55 ga0 (trivial) (by decide +kernel) dX4_readSum_104 hl.1 rfl rfl (by decide) cd_X4_put ⟨Nat.le_of_ble_eq_true rfl, Nat.le_of_ble_eq_true rfl, Nat.le_of_ble_eq_true rfl, Nat.le_of_ble_eq_true rfl, Nat.le_of_ble_eq_true rfl⟩ (fun H231 L231 S231 K231 q231 => ?_)
                  obtain ⟨qa231, qb231, tq231⟩ := q231
                  have tk231 : Lw D s.heap H231 a0 := u2_0.trans tq231
                  refine lv_goto (tgt := 181) hx hb dX4_readSum_107 (by decide) ?_
                  refine lv_aload_n hx hb dX4_readSum_181 rfl (lv_at hl 1 rfl) ?_
                  refine q_grS (T := TX4) C S231.1 ga0 0 kF_X4_39 dX4_readSum_182 rfl rfl (by decide) rfl (by decide) kSF_X4_tape (fun g232 => ?_)
                  refine callV_Ev C S231 (c_X9_next l D G (fR D H231 4 a0 0) g232) kV_X4_47 g232 (trivial) (by decide +kernel) dX4_readSum_185 hl.1 rfl rfl (by decide) cd_X9_next ⟨Nat.le_of_ble_eq_true rfl, Nat.le_of_ble_eq_true rfl, Nat.le_of_ble_eq_true rfl, Nat.le_of_ble_eq_true rfl, Nat.le_of_ble_eq_true rfl⟩ (fun H233 L233 S233 K233 q233 => ?_)
                  have tk233 : Lw D s.heap H233 a0 := tk231.trans (Lw.keep S231.1 ga0 K233 (by decide +kernel) (by decide +kernel) (by decide +kernel))
                  refine lv_iload_n hx hb dX4_readSum_188 rfl (lv_at hl 0 rfl) ?_
                  refine lv_if_le (tgt := 198) hx hb dX4_readSum_189 (by decide) (fun c234 => ?_) (fun c234 => ?_)
                  · have b234 : x1_2.toInt ≤ (0 : Int32).toInt := i_le.mp c234
                    refine lv_aload_n hx hb dX4_readSum_198 rfl (lv_at hl 1 rfl) ?_
                    refine q_grS (T := TX4) C S233.1 ga0 0 kF_X4_39 dX4_readSum_199 rfl rfl (by decide) rfl (by decide) kSF_X4_tape (fun g235 => ?_)
                    refine lv_bipush (v := 43) hx hb dX4_readSum_202 (by decide) ?_
                    have k_43 : (43 : Int32).toInt = 43 := by decide
                    refine callV_Pi C S233.1 S233.2.1.2.1 (c_X9_isSign l D G (fR D H233 4 a0 0) (43 : Int32) g235) kV_X4_84 g235 (trivial) dX4_readSum_204 hl.1 rfl rfl (by decide) cd_X9_isSign ⟨Nat.le_of_ble_eq_true rfl, Nat.le_of_ble_eq_true rfl, Nat.le_of_ble_eq_true rfl, Nat.le_of_ble_eq_true rfl, Nat.le_of_ble_eq_true rfl⟩ (fun v236 q236 => ?_)
                    refine lv_if_ne (tgt := 212) hx hb dX4_readSum_207 (by decide) (fun c237 => ?_) (fun c237 => ?_)
                    · have b237 : ¬ v236.toInt = (0 : Int32).toInt := fun z9 => c237 (i_eq.mpr z9)
                      refine lv_aload_n hx hb dX4_readSum_212 rfl (lv_at hl 1 rfl) ?_
                      refine q_grS (T := TX4) C S233.1 ga0 0 kF_X4_39 dX4_readSum_213 rfl rfl (by decide) rfl (by decide) kSF_X4_tape (fun g238 => ?_)
                      refine callV_Ev C S233 (c_X9_next l D G (fR D H233 4 a0 0) g238) kV_X4_47 g238 (trivial) (by decide +kernel) dX4_readSum_216 hl.1 rfl rfl (by decide) cd_X9_next ⟨Nat.le_of_ble_eq_true rfl, Nat.le_of_ble_eq_true rfl, Nat.le_of_ble_eq_true rfl, Nat.le_of_ble_eq_true rfl, Nat.le_of_ble_eq_true rfl⟩ (fun H239 L239 S239 K239 q239 => ?_)
                      have tk239 : Lw D s.heap H239 a0 := tk233.trans (Lw.keep S233.1 ga0 K239 (by decide +kernel) (by decide +kernel) (by decide +kernel))
                      obtain ⟨v240, ev240⟩ : ∃ y : Int32, y = x1_2 + (1) := ⟨_, rfl⟩
                      have k_1 : (1 : Int32).toInt = 1 := by decide
                      have f241 : v240.toInt = x1_2.toInt + (1) := by rw [ev240]; exact i_addc k_1 (by omega) (by omega)
                      refine lv_iinc (v := v240) (lv' := [(1, .int v240), (0, .ref a0)]) hx hb dX4_readSum_219 hl (k := 0) rfl (by rw [ev240]; rfl) (by decide) rfl (fun ls hl => ?_)
                      refine lv_goto (tgt := 2) hx hb dX4_readSum_222 (by decide) ?_
                      exact ih2 v240 H239 L239 ls S239 (by omega) tk239 (by omega) (lv_sub hl [0, 1] rfl)
                    · have b237 : v236.toInt = (0 : Int32).toInt := i_eq.mp c237
                      refine lv_iconst (v := 1) hx hb dX4_readSum_210 (by decide) ?_
                      have k_1 : (1 : Int32).toInt = 1 := by decide
                      exact retE_z hQ C S233 hr dX4_readSum_211 (z01 (by omega) (by omega)) (⟨by omega, tk233⟩)
                  · have b234 : ¬ x1_2.toInt ≤ (0 : Int32).toInt := fun z9 => c234 (i_le.mpr z9)
                    refine lv_aload_n hx hb dX4_readSum_192 rfl (lv_at hl 1 rfl) ?_
                    refine lv_bipush (v := -14) hx hb dX4_readSum_193 (by decide) ?_
                    have k_m14 : (-14 : Int32).toInt = -14 := by decide
                    refine callV_Ev C S233 (c_X4_put l D G a0 (-14 : Int32) ga0) kV_X4_55 ga0 (trivial) (by decide +kernel) dX4_readSum_195 hl.1 rfl rfl (by decide) cd_X4_put ⟨Nat.le_of_ble_eq_true rfl, Nat.le_of_ble_eq_true rfl, Nat.le_of_ble_eq_true rfl, Nat.le_of_ble_eq_true rfl, Nat.le_of_ble_eq_true rfl⟩ (fun H242 L242 S242 K242 q242 => ?_)
                    obtain ⟨qa242, qb242, tq242⟩ := q242
                    have tk242 : Lw D s.heap H242 a0 := tk233.trans tq242
                    refine lv_aload_n hx hb dX4_readSum_198 rfl (lv_at hl 1 rfl) ?_
                    refine q_grS (T := TX4) C S242.1 ga0 0 kF_X4_39 dX4_readSum_199 rfl rfl (by decide) rfl (by decide) kSF_X4_tape (fun g243 => ?_)
                    refine lv_bipush (v := 43) hx hb dX4_readSum_202 (by decide) ?_
                    have k_43 : (43 : Int32).toInt = 43 := by decide
                    refine callV_Pi C S242.1 S242.2.1.2.1 (c_X9_isSign l D G (fR D H242 4 a0 0) (43 : Int32) g243) kV_X4_84 g243 (trivial) dX4_readSum_204 hl.1 rfl rfl (by decide) cd_X9_isSign ⟨Nat.le_of_ble_eq_true rfl, Nat.le_of_ble_eq_true rfl, Nat.le_of_ble_eq_true rfl, Nat.le_of_ble_eq_true rfl, Nat.le_of_ble_eq_true rfl⟩ (fun v244 q244 => ?_)
                    refine lv_if_ne (tgt := 212) hx hb dX4_readSum_207 (by decide) (fun c245 => ?_) (fun c245 => ?_)
                    · have b245 : ¬ v244.toInt = (0 : Int32).toInt := fun z9 => c245 (i_eq.mpr z9)
                      refine lv_aload_n hx hb dX4_readSum_212 rfl (lv_at hl 1 rfl) ?_
                      refine q_grS (T := TX4) C S242.1 ga0 0 kF_X4_39 dX4_readSum_213 rfl rfl (by decide) rfl (by decide) kSF_X4_tape (fun g246 => ?_)
                      refine callV_Ev C S242 (c_X9_next l D G (fR D H242 4 a0 0) g246) kV_X4_47 g246 (trivial) (by decide +kernel) dX4_readSum_216 hl.1 rfl rfl (by decide) cd_X9_next ⟨Nat.le_of_ble_eq_true rfl, Nat.le_of_ble_eq_true rfl, Nat.le_of_ble_eq_true rfl, Nat.le_of_ble_eq_true rfl, Nat.le_of_ble_eq_true rfl⟩ (fun H247 L247 S247 K247 q247 => ?_)
                      have tk247 : Lw D s.heap H247 a0 := tk242.trans (Lw.keep S242.1 ga0 K247 (by decide +kernel) (by decide +kernel) (by decide +kernel))
                      obtain ⟨v248, ev248⟩ : ∃ y : Int32, y = x1_2 + (1) := ⟨_, rfl⟩
                      have k_1 : (1 : Int32).toInt = 1 := by decide
                      have f249 : v248.toInt = x1_2.toInt + (1) := by rw [ev248]; exact i_addc k_1 (by omega) (by omega)
                      refine lv_iinc (v := v248) (lv' := [(1, .int v248), (0, .ref a0)]) hx hb dX4_readSum_219 hl (k := 0) rfl (by rw [ev248]; rfl) (by decide) rfl (fun ls hl => ?_)
                      refine lv_goto (tgt := 2) hx hb dX4_readSum_222 (by decide) ?_
                      exact ih2 v248 H247 L247 ls S247 (by omega) tk247 (by omega) (lv_sub hl [0, 1] rfl)
                    · have b245 : v244.toInt = (0 : Int32).toInt := i_eq.mp c245
                      refine lv_iconst (v := 1) hx hb dX4_readSum_210 (by decide) ?_
                      have k_1 : (1 : Int32).toInt = 1 := by decide
                      exact retE_z hQ C S242 hr dX4_readSum_211 (z01 (by omega) (by omega)) (⟨by omega, tk242⟩)
              · have b155 : ¬ v154.toInt = (0 : Int32).toInt := fun z9 => c155 (i_eq.mpr z9)
                refine lv_aload_n hx hb dX4_readSum_80 rfl (lv_at hl 1 rfl) ?_
                refine lv_bipush (v := -8) hx hb dX4_readSum_81 (by decide) ?_
                have k_m8 : (-8 : Int32).toInt = -8 := by decide
                refine callV_Ev C S_2 (c_X4_put l D G a0 (-8 : Int32) ga0) kV_X4_55 ga0 (trivial) (by decide +kernel) dX4_readSum_83 hl.1 rfl rfl (by decide) cd_X4_put ⟨Nat.le_of_ble_eq_true rfl, Nat.le_of_ble_eq_true rfl, Nat.le_of_ble_eq_true rfl, Nat.le_of_ble_eq_true rfl, Nat.le_of_ble_eq_true rfl⟩ (fun H250 L250 S250 K250 q250 => ?_)
                obtain ⟨qa250, qb250, tq250⟩ := q250
                have tk250 : Lw D s.heap H250 a0 := u2_0.trans tq250
                refine lv_goto (tgt := 181) hx hb dX4_readSum_86 (by decide) ?_
                refine lv_aload_n hx hb dX4_readSum_181 rfl (lv_at hl 1 rfl) ?_
                refine q_grS (T := TX4) C S250.1 ga0 0 kF_X4_39 dX4_readSum_182 rfl rfl (by decide) rfl (by decide) kSF_X4_tape (fun g251 => ?_)
                refine callV_Ev C S250 (c_X9_next l D G (fR D H250 4 a0 0) g251) kV_X4_47 g251 (trivial) (by decide +kernel) dX4_readSum_185 hl.1 rfl rfl (by decide) cd_X9_next ⟨Nat.le_of_ble_eq_true rfl, Nat.le_of_ble_eq_true rfl, Nat.le_of_ble_eq_true rfl, Nat.le_of_ble_eq_true rfl, Nat.le_of_ble_eq_true rfl⟩ (fun H252 L252 S252 K252 q252 => ?_)
                have tk252 : Lw D s.heap H252 a0 := tk250.trans (Lw.keep S250.1 ga0 K252 (by decide +kernel) (by decide +kernel) (by decide +kernel))
                refine lv_iload_n hx hb dX4_readSum_188 rfl (lv_at hl 0 rfl) ?_
                refine lv_if_le (tgt := 198) hx hb dX4_readSum_189 (by decide) (fun c253 => ?_) (fun c253 => ?_)
                · have b253 : x1_2.toInt ≤ (0 : Int32).toInt := i_le.mp c253
                  refine lv_aload_n hx hb dX4_readSum_198 rfl (lv_at hl 1 rfl) ?_
                  refine q_grS (T := TX4) C S252.1 ga0 0 kF_X4_39 dX4_readSum_199 rfl rfl (by decide) rfl (by decide) kSF_X4_tape (fun g254 => ?_)
                  refine lv_bipush (v := 43) hx hb dX4_readSum_202 (by decide) ?_
                  have k_43 : (43 : Int32).toInt = 43 := by decide
                  refine callV_Pi C S252.1 S252.2.1.2.1 (c_X9_isSign l D G (fR D H252 4 a0 0) (43 : Int32) g254) kV_X4_84 g254 (trivial) dX4_readSum_204 hl.1 rfl rfl (by decide) cd_X9_isSign ⟨Nat.le_of_ble_eq_true rfl, Nat.le_of_ble_eq_true rfl, Nat.le_of_ble_eq_true rfl, Nat.le_of_ble_eq_true rfl, Nat.le_of_ble_eq_true rfl⟩ (fun v255 q255 => ?_)
                  refine lv_if_ne (tgt := 212) hx hb dX4_readSum_207 (by decide) (fun c256 => ?_) (fun c256 => ?_)
                  · have b256 : ¬ v255.toInt = (0 : Int32).toInt := fun z9 => c256 (i_eq.mpr z9)
                    refine lv_aload_n hx hb dX4_readSum_212 rfl (lv_at hl 1 rfl) ?_
                    refine q_grS (T := TX4) C S252.1 ga0 0 kF_X4_39 dX4_readSum_213 rfl rfl (by decide) rfl (by decide) kSF_X4_tape (fun g257 => ?_)
                    refine callV_Ev C S252 (c_X9_next l D G (fR D H252 4 a0 0) g257) kV_X4_47 g257 (trivial) (by decide +kernel) dX4_readSum_216 hl.1 rfl rfl (by decide) cd_X9_next ⟨Nat.le_of_ble_eq_true rfl, Nat.le_of_ble_eq_true rfl, Nat.le_of_ble_eq_true rfl, Nat.le_of_ble_eq_true rfl, Nat.le_of_ble_eq_true rfl⟩ (fun H258 L258 S258 K258 q258 => ?_)
                    have tk258 : Lw D s.heap H258 a0 := tk252.trans (Lw.keep S252.1 ga0 K258 (by decide +kernel) (by decide +kernel) (by decide +kernel))
                    obtain ⟨v259, ev259⟩ : ∃ y : Int32, y = x1_2 + (1) := ⟨_, rfl⟩
                    have k_1 : (1 : Int32).toInt = 1 := by decide
                    have f260 : v259.toInt = x1_2.toInt + (1) := by rw [ev259]; exact i_addc k_1 (by omega) (by omega)
                    refine lv_iinc (v := v259) (lv' := [(1, .int v259), (0, .ref a0)]) hx hb dX4_readSum_219 hl (k := 0) rfl (by rw [ev259]; rfl) (by decide) rfl (fun ls hl => ?_)
                    refine lv_goto (tgt := 2) hx hb dX4_readSum_222 (by decide) ?_
                    exact ih2 v259 H258 L258 ls S258 (by omega) tk258 (by omega) (lv_sub hl [0, 1] rfl)
                  · have b256 : v255.toInt = (0 : Int32).toInt := i_eq.mp c256
                    refine lv_iconst (v := 1) hx hb dX4_readSum_210 (by decide) ?_
                    have k_1 : (1 : Int32).toInt = 1 := by decide
                    exact retE_z hQ C S252 hr dX4_readSum_211 (z01 (by omega) (by omega)) (⟨by omega, tk252⟩)
                · have b253 : ¬ x1_2.toInt ≤ (0 : Int32).toInt := fun z9 => c253 (i_le.mpr z9)
                  refine lv_aload_n hx hb dX4_readSum_192 rfl (lv_at hl 1 rfl) ?_
                  refine lv_bipush (v := -14) hx hb dX4_readSum_193 (by decide) ?_
                  have k_m14 : (-14 : Int32).toInt = -14 := by decide
                  refine callV_Ev C S252 (c_X4_put l D G a0 (-14 : Int32) ga0) kV_X4_55 ga0 (trivial) (by decide +kernel) dX4_readSum_195 hl.1 rfl rfl (by decide) cd_X4_put ⟨Nat.le_of_ble_eq_true rfl, Nat.le_of_ble_eq_true rfl, Nat.le_of_ble_eq_true rfl, Nat.le_of_ble_eq_true rfl, Nat.le_of_ble_eq_true rfl⟩ (fun H261 L261 S261 K261 q261 => ?_)
                  obtain ⟨qa261, qb261, tq261⟩ := q261
                  have tk261 : Lw D s.heap H261 a0 := tk252.trans tq261
                  refine lv_aload_n hx hb dX4_readSum_198 rfl (lv_at hl 1 rfl) ?_
                  refine q_grS (T := TX4) C S261.1 ga0 0 kF_X4_39 dX4_readSum_199 rfl rfl (by decide) rfl (by decide) kSF_X4_tape (fun g262 => ?_)
                  refine lv_bipush (v := 43) hx hb dX4_readSum_202 (by decide) ?_
                  have k_43 : (43 : Int32).toInt = 43 := by decide
                  refine callV_Pi C S261.1 S261.2.1.2.1 (c_X9_isSign l D G (fR D H261 4 a0 0) (43 : Int32) g262) kV_X4_84 g262 (trivial) dX4_readSum_204 hl.1 rfl rfl (by decide) cd_X9_isSign ⟨Nat.le_of_ble_eq_true rfl, Nat.le_of_ble_eq_true rfl, Nat.le_of_ble_eq_true rfl, Nat.le_of_ble_eq_true rfl, Nat.le_of_ble_eq_true rfl⟩ (fun v263 q263 => ?_)
                  refine lv_if_ne (tgt := 212) hx hb dX4_readSum_207 (by decide) (fun c264 => ?_) (fun c264 => ?_)
                  · have b264 : ¬ v263.toInt = (0 : Int32).toInt := fun z9 => c264 (i_eq.mpr z9)
                    refine lv_aload_n hx hb dX4_readSum_212 rfl (lv_at hl 1 rfl) ?_
                    refine q_grS (T := TX4) C S261.1 ga0 0 kF_X4_39 dX4_readSum_213 rfl rfl (by decide) rfl (by decide) kSF_X4_tape (fun g265 => ?_)
                    refine callV_Ev C S261 (c_X9_next l D G (fR D H261 4 a0 0) g265) kV_X4_47 g265 (trivial) (by decide +kernel) dX4_readSum_216 hl.1 rfl rfl (by decide) cd_X9_next ⟨Nat.le_of_ble_eq_true rfl, Nat.le_of_ble_eq_true rfl, Nat.le_of_ble_eq_true rfl, Nat.le_of_ble_eq_true rfl, Nat.le_of_ble_eq_true rfl⟩ (fun H266 L266 S266 K266 q266 => ?_)
                    have tk266 : Lw D s.heap H266 a0 := tk261.trans (Lw.keep S261.1 ga0 K266 (by decide +kernel) (by decide +kernel) (by decide +kernel))
                    obtain ⟨v267, ev267⟩ : ∃ y : Int32, y = x1_2 + (1) := ⟨_, rfl⟩
                    have k_1 : (1 : Int32).toInt = 1 := by decide
                    have f268 : v267.toInt = x1_2.toInt + (1) := by rw [ev267]; exact i_addc k_1 (by omega) (by omega)
                    refine lv_iinc (v := v267) (lv' := [(1, .int v267), (0, .ref a0)]) hx hb dX4_readSum_219 hl (k := 0) rfl (by rw [ev267]; rfl) (by decide) rfl (fun ls hl => ?_)
                    refine lv_goto (tgt := 2) hx hb dX4_readSum_222 (by decide) ?_
                    exact ih2 v267 H266 L266 ls S266 (by omega) tk266 (by omega) (lv_sub hl [0, 1] rfl)
                  · have b264 : v263.toInt = (0 : Int32).toInt := i_eq.mp c264
                    refine lv_iconst (v := 1) hx hb dX4_readSum_210 (by decide) ?_
                    have k_1 : (1 : Int32).toInt = 1 := by decide
                    exact retE_z hQ C S261 hr dX4_readSum_211 (z01 (by omega) (by omega)) (⟨by omega, tk261⟩)
            · have b151 : ¬ v150.toInt = (0 : Int32).toInt := fun z9 => c151 (i_eq.mpr z9)
              refine lv_aload_n hx hb dX4_readSum_59 rfl (lv_at hl 1 rfl) ?_
              refine lv_bipush (v := -7) hx hb dX4_readSum_60 (by decide) ?_
              have k_m7 : (-7 : Int32).toInt = -7 := by decide
              refine callV_Ev C S_2 (c_X4_put l D G a0 (-7 : Int32) ga0) kV_X4_55 ga0 (trivial) (by decide +kernel) dX4_readSum_62 hl.1 rfl rfl (by decide) cd_X4_put ⟨Nat.le_of_ble_eq_true rfl, Nat.le_of_ble_eq_true rfl, Nat.le_of_ble_eq_true rfl, Nat.le_of_ble_eq_true rfl, Nat.le_of_ble_eq_true rfl⟩ (fun H269 L269 S269 K269 q269 => ?_)
              obtain ⟨qa269, qb269, tq269⟩ := q269
              have tk269 : Lw D s.heap H269 a0 := u2_0.trans tq269
              refine lv_goto (tgt := 181) hx hb dX4_readSum_65 (by decide) ?_
              refine lv_aload_n hx hb dX4_readSum_181 rfl (lv_at hl 1 rfl) ?_
              refine q_grS (T := TX4) C S269.1 ga0 0 kF_X4_39 dX4_readSum_182 rfl rfl (by decide) rfl (by decide) kSF_X4_tape (fun g270 => ?_)
              refine callV_Ev C S269 (c_X9_next l D G (fR D H269 4 a0 0) g270) kV_X4_47 g270 (trivial) (by decide +kernel) dX4_readSum_185 hl.1 rfl rfl (by decide) cd_X9_next ⟨Nat.le_of_ble_eq_true rfl, Nat.le_of_ble_eq_true rfl, Nat.le_of_ble_eq_true rfl, Nat.le_of_ble_eq_true rfl, Nat.le_of_ble_eq_true rfl⟩ (fun H271 L271 S271 K271 q271 => ?_)
              have tk271 : Lw D s.heap H271 a0 := tk269.trans (Lw.keep S269.1 ga0 K271 (by decide +kernel) (by decide +kernel) (by decide +kernel))
              refine lv_iload_n hx hb dX4_readSum_188 rfl (lv_at hl 0 rfl) ?_
              refine lv_if_le (tgt := 198) hx hb dX4_readSum_189 (by decide) (fun c272 => ?_) (fun c272 => ?_)
              · have b272 : x1_2.toInt ≤ (0 : Int32).toInt := i_le.mp c272
                refine lv_aload_n hx hb dX4_readSum_198 rfl (lv_at hl 1 rfl) ?_
                refine q_grS (T := TX4) C S271.1 ga0 0 kF_X4_39 dX4_readSum_199 rfl rfl (by decide) rfl (by decide) kSF_X4_tape (fun g273 => ?_)
                refine lv_bipush (v := 43) hx hb dX4_readSum_202 (by decide) ?_
                have k_43 : (43 : Int32).toInt = 43 := by decide
                refine callV_Pi C S271.1 S271.2.1.2.1 (c_X9_isSign l D G (fR D H271 4 a0 0) (43 : Int32) g273) kV_X4_84 g273 (trivial) dX4_readSum_204 hl.1 rfl rfl (by decide) cd_X9_isSign ⟨Nat.le_of_ble_eq_true rfl, Nat.le_of_ble_eq_true rfl, Nat.le_of_ble_eq_true rfl, Nat.le_of_ble_eq_true rfl, Nat.le_of_ble_eq_true rfl⟩ (fun v274 q274 => ?_)
                refine lv_if_ne (tgt := 212) hx hb dX4_readSum_207 (by decide) (fun c275 => ?_) (fun c275 => ?_)
                · have b275 : ¬ v274.toInt = (0 : Int32).toInt := fun z9 => c275 (i_eq.mpr z9)
                  refine lv_aload_n hx hb dX4_readSum_212 rfl (lv_at hl 1 rfl) ?_
                  refine q_grS (T := TX4) C S271.1 ga0 0 kF_X4_39 dX4_readSum_213 rfl rfl (by decide) rfl (by decide) kSF_X4_tape (fun g276 => ?_)
                  refine callV_Ev C S271 (c_X9_next l D G (fR D H271 4 a0 0) g276) kV_X4_47 g276 (trivial) (by decide +kernel) dX4_readSum_216 hl.1 rfl rfl (by decide) cd_X9_next ⟨Nat.le_of_ble_eq_true rfl, Nat.le_of_ble_eq_true rfl, Nat.le_of_ble_eq_true rfl, Nat.le_of_ble_eq_true rfl, Nat.le_of_ble_eq_true rfl⟩ (fun H277 L277 S277 K277 q277 => ?_)
                  have tk277 : Lw D s.heap H277 a0 := tk271.trans (Lw.keep S271.1 ga0 K277 (by decide +kernel) (by decide +kernel) (by decide +kernel))
                  obtain ⟨v278, ev278⟩ : ∃ y : Int32, y = x1_2 + (1) := ⟨_, rfl⟩
                  have k_1 : (1 : Int32).toInt = 1 := by decide
                  have f279 : v278.toInt = x1_2.toInt + (1) := by rw [ev278]; exact i_addc k_1 (by omega) (by omega)
                  refine lv_iinc (v := v278) (lv' := [(1, .int v278), (0, .ref a0)]) hx hb dX4_readSum_219 hl (k := 0) rfl (by rw [ev278]; rfl) (by decide) rfl (fun ls hl => ?_)
                  refine lv_goto (tgt := 2) hx hb dX4_readSum_222 (by decide) ?_
                  exact ih2 v278 H277 L277 ls S277 (by omega) tk277 (by omega) (lv_sub hl [0, 1] rfl)
                · have b275 : v274.toInt = (0 : Int32).toInt := i_eq.mp c275
                  refine lv_iconst (v := 1) hx hb dX4_readSum_210 (by decide) ?_
                  have k_1 : (1 : Int32).toInt = 1 := by decide
                  exact retE_z hQ C S271 hr dX4_readSum_211 (z01 (by omega) (by omega)) (⟨by omega, tk271⟩)
              · have b272 : ¬ x1_2.toInt ≤ (0 : Int32).toInt := fun z9 => c272 (i_le.mpr z9)
                refine lv_aload_n hx hb dX4_readSum_192 rfl (lv_at hl 1 rfl) ?_
                refine lv_bipush (v := -14) hx hb dX4_readSum_193 (by decide) ?_
                have k_m14 : (-14 : Int32).toInt = -14 := by decide
                refine callV_Ev C S271 (c_X4_put l D G a0 (-14 : Int32) ga0) kV_X4_55 ga0 (trivial) (by decide +kernel) dX4_readSum_195 hl.1 rfl rfl (by decide) cd_X4_put ⟨Nat.le_of_ble_eq_true rfl, Nat.le_of_ble_eq_true rfl, Nat.le_of_ble_eq_true rfl, Nat.le_of_ble_eq_true rfl, Nat.le_of_ble_eq_true rfl⟩ (fun H280 L280 S280 K280 q280 => ?_)
                obtain ⟨qa280, qb280, tq280⟩ := q280
                have tk280 : Lw D s.heap H280 a0 := tk271.trans tq280
                refine lv_aload_n hx hb dX4_readSum_198 rfl (lv_at hl 1 rfl) ?_
                refine q_grS (T := TX4) C S280.1 ga0 0 kF_X4_39 dX4_readSum_199 rfl rfl (by decide) rfl (by decide) kSF_X4_tape (fun g281 => ?_)
                refine lv_bipush (v := 43) hx hb dX4_readSum_202 (by decide) ?_
                have k_43 : (43 : Int32).toInt = 43 := by decide
                refine callV_Pi C S280.1 S280.2.1.2.1 (c_X9_isSign l D G (fR D H280 4 a0 0) (43 : Int32) g281) kV_X4_84 g281 (trivial) dX4_readSum_204 hl.1 rfl rfl (by decide) cd_X9_isSign ⟨Nat.le_of_ble_eq_true rfl, Nat.le_of_ble_eq_true rfl, Nat.le_of_ble_eq_true rfl, Nat.le_of_ble_eq_true rfl, Nat.le_of_ble_eq_true rfl⟩ (fun v282 q282 => ?_)
                refine lv_if_ne (tgt := 212) hx hb dX4_readSum_207 (by decide) (fun c283 => ?_) (fun c283 => ?_)
                · have b283 : ¬ v282.toInt = (0 : Int32).toInt := fun z9 => c283 (i_eq.mpr z9)
                  refine lv_aload_n hx hb dX4_readSum_212 rfl (lv_at hl 1 rfl) ?_
                  refine q_grS (T := TX4) C S280.1 ga0 0 kF_X4_39 dX4_readSum_213 rfl rfl (by decide) rfl (by decide) kSF_X4_tape (fun g284 => ?_)
                  refine callV_Ev C S280 (c_X9_next l D G (fR D H280 4 a0 0) g284) kV_X4_47 g284 (trivial) (by decide +kernel) dX4_readSum_216 hl.1 rfl rfl (by decide) cd_X9_next ⟨Nat.le_of_ble_eq_true rfl, Nat.le_of_ble_eq_true rfl, Nat.le_of_ble_eq_true rfl, Nat.le_of_ble_eq_true rfl, Nat.le_of_ble_eq_true rfl⟩ (fun H285 L285 S285 K285 q285 => ?_)
                  have tk285 : Lw D s.heap H285 a0 := tk280.trans (Lw.keep S280.1 ga0 K285 (by decide +kernel) (by decide +kernel) (by decide +kernel))
                  obtain ⟨v286, ev286⟩ : ∃ y : Int32, y = x1_2 + (1) := ⟨_, rfl⟩
                  have k_1 : (1 : Int32).toInt = 1 := by decide
                  have f287 : v286.toInt = x1_2.toInt + (1) := by rw [ev286]; exact i_addc k_1 (by omega) (by omega)
                  refine lv_iinc (v := v286) (lv' := [(1, .int v286), (0, .ref a0)]) hx hb dX4_readSum_219 hl (k := 0) rfl (by rw [ev286]; rfl) (by decide) rfl (fun ls hl => ?_)
                  refine lv_goto (tgt := 2) hx hb dX4_readSum_222 (by decide) ?_
                  exact ih2 v286 H285 L285 ls S285 (by omega) tk285 (by omega) (lv_sub hl [0, 1] rfl)
                · have b283 : v282.toInt = (0 : Int32).toInt := i_eq.mp c283
                  refine lv_iconst (v := 1) hx hb dX4_readSum_210 (by decide) ?_
                  have k_1 : (1 : Int32).toInt = 1 := by decide
                  exact retE_z hQ C S280 hr dX4_readSum_211 (z01 (by omega) (by omega)) (⟨by omega, tk280⟩)
          · have b147 : ¬ (999 : Int32).toInt < (fI D H_2 9 (fR D H_2 4 a0 0) 6).toInt := fun z9 => c147 (i_lt.mpr z9)
            refine lv_aload_n hx hb dX4_readSum_33 rfl (lv_at hl 1 rfl) ?_
            refine lv_aload_n hx hb dX4_readSum_34 rfl (lv_at hl 1 rfl) ?_
            refine q_grS (T := TX4) C S_2.1 ga0 0 kF_X4_39 dX4_readSum_35 rfl rfl (by decide) rfl (by decide) kSF_X4_tape (fun g288 => ?_)
            refine q_gi (T := TX9) C S_2.1 g288 6 kF_X4_113 dX4_readSum_38 rfl rfl (by decide) rfl (by decide) rfl ?_
            refine callV_Ev C S_2 (c_X4_put l D G a0 (fI D H_2 9 (fR D H_2 4 a0 0) 6) ga0) kV_X4_55 ga0 (trivial) (by decide +kernel) dX4_readSum_41 hl.1 rfl rfl (by decide) cd_X4_put ⟨Nat.le_of_ble_eq_true rfl, Nat.le_of_ble_eq_true rfl, Nat.le_of_ble_eq_true rfl, Nat.le_of_ble_eq_true rfl, Nat.le_of_ble_eq_true rfl⟩ (fun H289 L289 S289 K289 q289 => ?_)
            obtain ⟨qa289, qb289, tq289⟩ := q289
            have tk289 : Lw D s.heap H289 a0 := u2_0.trans tq289
            refine lv_goto (tgt := 181) hx hb dX4_readSum_44 (by decide) ?_
            refine lv_aload_n hx hb dX4_readSum_181 rfl (lv_at hl 1 rfl) ?_
            refine q_grS (T := TX4) C S289.1 ga0 0 kF_X4_39 dX4_readSum_182 rfl rfl (by decide) rfl (by decide) kSF_X4_tape (fun g290 => ?_)
            refine callV_Ev C S289 (c_X9_next l D G (fR D H289 4 a0 0) g290) kV_X4_47 g290 (trivial) (by decide +kernel) dX4_readSum_185 hl.1 rfl rfl (by decide) cd_X9_next ⟨Nat.le_of_ble_eq_true rfl, Nat.le_of_ble_eq_true rfl, Nat.le_of_ble_eq_true rfl, Nat.le_of_ble_eq_true rfl, Nat.le_of_ble_eq_true rfl⟩ (fun H291 L291 S291 K291 q291 => ?_)
            have tk291 : Lw D s.heap H291 a0 := tk289.trans (Lw.keep S289.1 ga0 K291 (by decide +kernel) (by decide +kernel) (by decide +kernel))
            refine lv_iload_n hx hb dX4_readSum_188 rfl (lv_at hl 0 rfl) ?_
            have k_0 : (0 : Int32).toInt = 0 := by decide
            refine lv_if_le (tgt := 198) hx hb dX4_readSum_189 (by decide) (fun c292 => ?_) (fun c292 => ?_)
            · have b292 : x1_2.toInt ≤ (0 : Int32).toInt := i_le.mp c292
              refine lv_aload_n hx hb dX4_readSum_198 rfl (lv_at hl 1 rfl) ?_
              refine q_grS (T := TX4) C S291.1 ga0 0 kF_X4_39 dX4_readSum_199 rfl rfl (by decide) rfl (by decide) kSF_X4_tape (fun g293 => ?_)
              refine lv_bipush (v := 43) hx hb dX4_readSum_202 (by decide) ?_
              have k_43 : (43 : Int32).toInt = 43 := by decide
              refine callV_Pi C S291.1 S291.2.1.2.1 (c_X9_isSign l D G (fR D H291 4 a0 0) (43 : Int32) g293) kV_X4_84 g293 (trivial) dX4_readSum_204 hl.1 rfl rfl (by decide) cd_X9_isSign ⟨Nat.le_of_ble_eq_true rfl, Nat.le_of_ble_eq_true rfl, Nat.le_of_ble_eq_true rfl, Nat.le_of_ble_eq_true rfl, Nat.le_of_ble_eq_true rfl⟩ (fun v294 q294 => ?_)
              refine lv_if_ne (tgt := 212) hx hb dX4_readSum_207 (by decide) (fun c295 => ?_) (fun c295 => ?_)
              · have b295 : ¬ v294.toInt = (0 : Int32).toInt := fun z9 => c295 (i_eq.mpr z9)
                refine lv_aload_n hx hb dX4_readSum_212 rfl (lv_at hl 1 rfl) ?_
                refine q_grS (T := TX4) C S291.1 ga0 0 kF_X4_39 dX4_readSum_213 rfl rfl (by decide) rfl (by decide) kSF_X4_tape (fun g296 => ?_)
                refine callV_Ev C S291 (c_X9_next l D G (fR D H291 4 a0 0) g296) kV_X4_47 g296 (trivial) (by decide +kernel) dX4_readSum_216 hl.1 rfl rfl (by decide) cd_X9_next ⟨Nat.le_of_ble_eq_true rfl, Nat.le_of_ble_eq_true rfl, Nat.le_of_ble_eq_true rfl, Nat.le_of_ble_eq_true rfl, Nat.le_of_ble_eq_true rfl⟩ (fun H297 L297 S297 K297 q297 => ?_)
                have tk297 : Lw D s.heap H297 a0 := tk291.trans (Lw.keep S291.1 ga0 K297 (by decide +kernel) (by decide +kernel) (by decide +kernel))
                obtain ⟨v298, ev298⟩ : ∃ y : Int32, y = x1_2 + (1) := ⟨_, rfl⟩
                have k_1 : (1 : Int32).toInt = 1 := by decide
                have f299 : v298.toInt = x1_2.toInt + (1) := by rw [ev298]; exact i_addc k_1 (by omega) (by omega)
                refine lv_iinc (v := v298) (lv' := [(1, .int v298), (0, .ref a0)]) hx hb dX4_readSum_219 hl (k := 0) rfl (by rw [ev298]; rfl) (by decide) rfl (fun ls hl => ?_)
                refine lv_goto (tgt := 2) hx hb dX4_readSum_222 (by decide) ?_
                exact ih2 v298 H297 L297 ls S297 (by omega) tk297 (by omega) (lv_sub hl [0, 1] rfl)
              · have b295 : v294.toInt = (0 : Int32).toInt := i_eq.mp c295
                refine lv_iconst (v := 1) hx hb dX4_readSum_210 (by decide) ?_
                have k_1 : (1 : Int32).toInt = 1 := by decide
                exact retE_z hQ C S291 hr dX4_readSum_211 (z01 (by omega) (by omega)) (⟨by omega, tk291⟩)
            · have b292 : ¬ x1_2.toInt ≤ (0 : Int32).toInt := fun z9 => c292 (i_le.mpr z9)
              refine lv_aload_n hx hb dX4_readSum_192 rfl (lv_at hl 1 rfl) ?_
              refine lv_bipush (v := -14) hx hb dX4_readSum_193 (by decide) ?_
              have k_m14 : (-14 : Int32).toInt = -14 := by decide
              refine callV_Ev C S291 (c_X4_put l D G a0 (-14 : Int32) ga0) kV_X4_55 ga0 (trivial) (by decide +kernel) dX4_readSum_195 hl.1 rfl rfl (by decide) cd_X4_put ⟨Nat.le_of_ble_eq_true rfl, Nat.le_of_ble_eq_true rfl, Nat.le_of_ble_eq_true rfl, Nat.le_of_ble_eq_true rfl, Nat.le_of_ble_eq_true rfl⟩ (fun H300 L300 S300 K300 q300 => ?_)
              obtain ⟨qa300, qb300, tq300⟩ := q300
              have tk300 : Lw D s.heap H300 a0 := tk291.trans tq300
              refine lv_aload_n hx hb dX4_readSum_198 rfl (lv_at hl 1 rfl) ?_
              refine q_grS (T := TX4) C S300.1 ga0 0 kF_X4_39 dX4_readSum_199 rfl rfl (by decide) rfl (by decide) kSF_X4_tape (fun g301 => ?_)
              refine lv_bipush (v := 43) hx hb dX4_readSum_202 (by decide) ?_
              have k_43 : (43 : Int32).toInt = 43 := by decide
              refine callV_Pi C S300.1 S300.2.1.2.1 (c_X9_isSign l D G (fR D H300 4 a0 0) (43 : Int32) g301) kV_X4_84 g301 (trivial) dX4_readSum_204 hl.1 rfl rfl (by decide) cd_X9_isSign ⟨Nat.le_of_ble_eq_true rfl, Nat.le_of_ble_eq_true rfl, Nat.le_of_ble_eq_true rfl, Nat.le_of_ble_eq_true rfl, Nat.le_of_ble_eq_true rfl⟩ (fun v302 q302 => ?_)
              refine lv_if_ne (tgt := 212) hx hb dX4_readSum_207 (by decide) (fun c303 => ?_) (fun c303 => ?_)
              · have b303 : ¬ v302.toInt = (0 : Int32).toInt := fun z9 => c303 (i_eq.mpr z9)
                refine lv_aload_n hx hb dX4_readSum_212 rfl (lv_at hl 1 rfl) ?_
                refine q_grS (T := TX4) C S300.1 ga0 0 kF_X4_39 dX4_readSum_213 rfl rfl (by decide) rfl (by decide) kSF_X4_tape (fun g304 => ?_)
                refine callV_Ev C S300 (c_X9_next l D G (fR D H300 4 a0 0) g304) kV_X4_47 g304 (trivial) (by decide +kernel) dX4_readSum_216 hl.1 rfl rfl (by decide) cd_X9_next ⟨Nat.le_of_ble_eq_true rfl, Nat.le_of_ble_eq_true rfl, Nat.le_of_ble_eq_true rfl, Nat.le_of_ble_eq_true rfl, Nat.le_of_ble_eq_true rfl⟩ (fun H305 L305 S305 K305 q305 => ?_)
                have tk305 : Lw D s.heap H305 a0 := tk300.trans (Lw.keep S300.1 ga0 K305 (by decide +kernel) (by decide +kernel) (by decide +kernel))
                obtain ⟨v306, ev306⟩ : ∃ y : Int32, y = x1_2 + (1) := ⟨_, rfl⟩
                have k_1 : (1 : Int32).toInt = 1 := by decide
                have f307 : v306.toInt = x1_2.toInt + (1) := by rw [ev306]; exact i_addc k_1 (by omega) (by omega)
                refine lv_iinc (v := v306) (lv' := [(1, .int v306), (0, .ref a0)]) hx hb dX4_readSum_219 hl (k := 0) rfl (by rw [ev306]; rfl) (by decide) rfl (fun ls hl => ?_)
                refine lv_goto (tgt := 2) hx hb dX4_readSum_222 (by decide) ?_
                exact ih2 v306 H305 L305 ls S305 (by omega) tk305 (by omega) (lv_sub hl [0, 1] rfl)
              · have b303 : v302.toInt = (0 : Int32).toInt := i_eq.mp c303
                refine lv_iconst (v := 1) hx hb dX4_readSum_210 (by decide) ?_
                have k_1 : (1 : Int32).toInt = 1 := by decide
                exact retE_z hQ C S300 hr dX4_readSum_211 (z01 (by omega) (by omega)) (⟨by omega, tk300⟩)
  have k_0 : (0 : Int32).toInt = 0 := by decide
  exact Lp2 2147483648 (0 : Int32) s.heap [] ls S (by omega) tk0  (by omega) (lv_sub hl [0, 1] rfl)

set_option maxRecDepth 100000 in
set_option maxHeartbeats 4000000 in
theorem c_X4_readComparison (l : Launch) (D : DD) (G : Nat → Nat) (a0 : Nat) (ga0 : G a0 = 21) : CE l D G yX4_readComparison cX4_readComparison 2 (some .boolean) 6 [.ref a0] (fun _ => True) [(2, 3), (2, 4), (2, 5), (2, 6), (2, 2), (22, 0), (21, 3)] (xI (fun H r H1 => (0 ≤ r.toInt ∧ r.toInt ≤ 1) ∧ (Lw D H H1 a0))) := by
  refine enter (by decide) (Nat.le_of_ble_eq_true rfl) ?_
  intro p e s m args below meth c ls Q hA hQ C hr hO hpre hl
  have hx := C.1
  have hb := C.2.1
  have S : Sd D G [(2, 3), (2, 4), (2, 5), (2, 6), (2, 2), (22, 0), (21, 3)] s.heap s.heap [] := Sd.start hO
  have hl : lv_has ls 2 [(0, .ref a0)] := hl
  have tk0 : Lw D s.heap s.heap a0 := Lw.refl
  refine lv_aload_n hx hb dX4_readComparison_0 rfl (lv_at hl 0 rfl) ?_
  refine callV_Ei C S (c_X4_readSum l D G a0 ga0) kV_X4_107 ga0 (trivial) (by decide +kernel) dX4_readComparison_1 hl.1 rfl rfl (by decide) cd_X4_readSum ⟨Nat.le_of_ble_eq_true rfl, Nat.le_of_ble_eq_true rfl, Nat.le_of_ble_eq_true rfl, Nat.le_of_ble_eq_true rfl, Nat.le_of_ble_eq_true rfl⟩ (fun v1 H1 L1 S1 K1 q1 => ?_)
  obtain ⟨q1, tq1⟩ := q1
  have tk1 : Lw D s.heap H1 a0 := tk0.trans tq1
  have k_0 : (0 : Int32).toInt = 0 := by decide
  refine lv_if_ne (tgt := 9) hx hb dX4_readComparison_4 (by decide) (fun c2 => ?_) (fun c2 => ?_)
  · have b2 : ¬ v1.toInt = (0 : Int32).toInt := fun z9 => c2 (i_eq.mpr z9)
    refine lv_aload_n hx hb dX4_readComparison_9 rfl (lv_at hl 0 rfl) ?_
    refine q_grS (T := TX4) C S1.1 ga0 0 kF_X4_39 dX4_readComparison_10 rfl rfl (by decide) rfl (by decide) kSF_X4_tape (fun g3 => ?_)
    refine lv_bipush (v := 60) hx hb dX4_readComparison_13 (by decide) ?_
    have k_60 : (60 : Int32).toInt = 60 := by decide
    refine callV_Pi C S1.1 S1.2.1.2.1 (c_X9_isSign l D G (fR D H1 4 a0 0) (60 : Int32) g3) kV_X4_84 g3 (trivial) dX4_readComparison_15 hl.1 rfl rfl (by decide) cd_X9_isSign ⟨Nat.le_of_ble_eq_true rfl, Nat.le_of_ble_eq_true rfl, Nat.le_of_ble_eq_true rfl, Nat.le_of_ble_eq_true rfl, Nat.le_of_ble_eq_true rfl⟩ (fun v4 q4 => ?_)
    refine lv_istore_n (lv' := [(1, .int v4), (0, .ref a0)]) hx hb dX4_readComparison_18 rfl hl (by decide) rfl (fun ls hl => ?_)
    refine lv_iload_n hx hb dX4_readComparison_19 rfl (lv_at hl 0 rfl) ?_
    refine lv_if_ne (tgt := 43) hx hb dX4_readComparison_20 (by decide) (fun c5 => ?_) (fun c5 => ?_)
    · have b5 : ¬ v4.toInt = (0 : Int32).toInt := fun z9 => c5 (i_eq.mpr z9)
      refine lv_aload_n hx hb dX4_readComparison_43 rfl (lv_at hl 1 rfl) ?_
      refine q_grS (T := TX4) C S1.1 ga0 0 kF_X4_39 dX4_readComparison_44 rfl rfl (by decide) rfl (by decide) kSF_X4_tape (fun g6 => ?_)
      refine callV_Ev C S1 (c_X9_next l D G (fR D H1 4 a0 0) g6) kV_X4_47 g6 (trivial) (by decide +kernel) dX4_readComparison_47 hl.1 rfl rfl (by decide) cd_X9_next ⟨Nat.le_of_ble_eq_true rfl, Nat.le_of_ble_eq_true rfl, Nat.le_of_ble_eq_true rfl, Nat.le_of_ble_eq_true rfl, Nat.le_of_ble_eq_true rfl⟩ (fun H7 L7 S7 K7 q7 => ?_)
      have tk7 : Lw D s.heap H7 a0 := tk1.trans (Lw.keep S1.1 ga0 K7 (by decide +kernel) (by decide +kernel) (by decide +kernel))
      refine lv_aload_n hx hb dX4_readComparison_50 rfl (lv_at hl 1 rfl) ?_
      refine callV_Ei C S7 (c_X4_readSum l D G a0 ga0) kV_X4_107 ga0 (trivial) (by decide +kernel) dX4_readComparison_51 hl.1 rfl rfl (by decide) cd_X4_readSum ⟨Nat.le_of_ble_eq_true rfl, Nat.le_of_ble_eq_true rfl, Nat.le_of_ble_eq_true rfl, Nat.le_of_ble_eq_true rfl, Nat.le_of_ble_eq_true rfl⟩ (fun v8 H8 L8 S8 K8 q8 => ?_)
      obtain ⟨q8, tq8⟩ := q8
      have tk8 : Lw D s.heap H8 a0 := tk7.trans tq8
      refine lv_if_ne (tgt := 59) hx hb dX4_readComparison_54 (by decide) (fun c9 => ?_) (fun c9 => ?_)
      · have b9 : ¬ v8.toInt = (0 : Int32).toInt := fun z9 => c9 (i_eq.mpr z9)
        refine lv_aload_n hx hb dX4_readComparison_59 rfl (lv_at hl 1 rfl) ?_
        refine lv_iload_n hx hb dX4_readComparison_60 rfl (lv_at hl 0 rfl) ?_
        refine lv_if_eq (tgt := 69) hx hb dX4_readComparison_61 (by decide) (fun c10 => ?_) (fun c10 => ?_)
        · have b10 : v4.toInt = (0 : Int32).toInt := i_eq.mp c10
          exact absurd b10 (by omega)
        · have b10 : ¬ v4.toInt = (0 : Int32).toInt := fun z9 => c10 (i_eq.mpr z9)
          refine lv_bipush (v := -15) hx hb dX4_readComparison_64 (by decide) ?_
          refine lv_goto (tgt := 71) hx hb dX4_readComparison_66 (by decide) ?_
          have k_m15 : (-15 : Int32).toInt = -15 := by decide
          refine callV_Ev C S8 (c_X4_put l D G a0 (-15 : Int32) ga0) kV_X4_55 ga0 (trivial) (by decide +kernel) dX4_readComparison_71 hl.1 rfl rfl (by decide) cd_X4_put ⟨Nat.le_of_ble_eq_true rfl, Nat.le_of_ble_eq_true rfl, Nat.le_of_ble_eq_true rfl, Nat.le_of_ble_eq_true rfl, Nat.le_of_ble_eq_true rfl⟩ (fun H11 L11 S11 K11 q11 => ?_)
          obtain ⟨qa11, qb11, tq11⟩ := q11
          have tk11 : Lw D s.heap H11 a0 := tk8.trans tq11
          refine lv_iconst (v := 1) hx hb dX4_readComparison_74 (by decide) ?_
          have k_1 : (1 : Int32).toInt = 1 := by decide
          exact retE_z hQ C S11 hr dX4_readComparison_75 (z01 (by omega) (by omega)) (⟨by omega, tk11⟩)
      · have b9 : v8.toInt = (0 : Int32).toInt := i_eq.mp c9
        refine lv_iconst (v := 0) hx hb dX4_readComparison_57 (by decide) ?_
        exact retE_z hQ C S8 hr dX4_readComparison_58 (z01 (by omega) (by omega)) (⟨by omega, tk8⟩)
    · have b5 : v4.toInt = (0 : Int32).toInt := i_eq.mp c5
      refine lv_aload_n hx hb dX4_readComparison_23 rfl (lv_at hl 1 rfl) ?_
      refine q_grS (T := TX4) C S1.1 ga0 0 kF_X4_39 dX4_readComparison_24 rfl rfl (by decide) rfl (by decide) kSF_X4_tape (fun g12 => ?_)
      refine lv_bipush (v := 62) hx hb dX4_readComparison_27 (by decide) ?_
      have k_62 : (62 : Int32).toInt = 62 := by decide
      refine callV_Pi C S1.1 S1.2.1.2.1 (c_X9_isSign l D G (fR D H1 4 a0 0) (62 : Int32) g12) kV_X4_84 g12 (trivial) dX4_readComparison_29 hl.1 rfl rfl (by decide) cd_X9_isSign ⟨Nat.le_of_ble_eq_true rfl, Nat.le_of_ble_eq_true rfl, Nat.le_of_ble_eq_true rfl, Nat.le_of_ble_eq_true rfl, Nat.le_of_ble_eq_true rfl⟩ (fun v13 q13 => ?_)
      refine lv_if_ne (tgt := 43) hx hb dX4_readComparison_32 (by decide) (fun c14 => ?_) (fun c14 => ?_)
      · have b14 : ¬ v13.toInt = (0 : Int32).toInt := fun z9 => c14 (i_eq.mpr z9)
        refine lv_aload_n hx hb dX4_readComparison_43 rfl (lv_at hl 1 rfl) ?_
        refine q_grS (T := TX4) C S1.1 ga0 0 kF_X4_39 dX4_readComparison_44 rfl rfl (by decide) rfl (by decide) kSF_X4_tape (fun g15 => ?_)
        refine callV_Ev C S1 (c_X9_next l D G (fR D H1 4 a0 0) g15) kV_X4_47 g15 (trivial) (by decide +kernel) dX4_readComparison_47 hl.1 rfl rfl (by decide) cd_X9_next ⟨Nat.le_of_ble_eq_true rfl, Nat.le_of_ble_eq_true rfl, Nat.le_of_ble_eq_true rfl, Nat.le_of_ble_eq_true rfl, Nat.le_of_ble_eq_true rfl⟩ (fun H16 L16 S16 K16 q16 => ?_)
        have tk16 : Lw D s.heap H16 a0 := tk1.trans (Lw.keep S1.1 ga0 K16 (by decide +kernel) (by decide +kernel) (by decide +kernel))
        refine lv_aload_n hx hb dX4_readComparison_50 rfl (lv_at hl 1 rfl) ?_
        refine callV_Ei C S16 (c_X4_readSum l D G a0 ga0) kV_X4_107 ga0 (trivial) (by decide +kernel) dX4_readComparison_51 hl.1 rfl rfl (by decide) cd_X4_readSum ⟨Nat.le_of_ble_eq_true rfl, Nat.le_of_ble_eq_true rfl, Nat.le_of_ble_eq_true rfl, Nat.le_of_ble_eq_true rfl, Nat.le_of_ble_eq_true rfl⟩ (fun v17 H17 L17 S17 K17 q17 => ?_)
        obtain ⟨q17, tq17⟩ := q17
        have tk17 : Lw D s.heap H17 a0 := tk16.trans tq17
        refine lv_if_ne (tgt := 59) hx hb dX4_readComparison_54 (by decide) (fun c18 => ?_) (fun c18 => ?_)
        · have b18 : ¬ v17.toInt = (0 : Int32).toInt := fun z9 => c18 (i_eq.mpr z9)
          refine lv_aload_n hx hb dX4_readComparison_59 rfl (lv_at hl 1 rfl) ?_
          refine lv_iload_n hx hb dX4_readComparison_60 rfl (lv_at hl 0 rfl) ?_
          refine lv_if_eq (tgt := 69) hx hb dX4_readComparison_61 (by decide) (fun c19 => ?_) (fun c19 => ?_)
          · have b19 : v4.toInt = (0 : Int32).toInt := i_eq.mp c19
            refine lv_bipush (v := -16) hx hb dX4_readComparison_69 (by decide) ?_
            have k_m16 : (-16 : Int32).toInt = -16 := by decide
            refine callV_Ev C S17 (c_X4_put l D G a0 (-16 : Int32) ga0) kV_X4_55 ga0 (trivial) (by decide +kernel) dX4_readComparison_71 hl.1 rfl rfl (by decide) cd_X4_put ⟨Nat.le_of_ble_eq_true rfl, Nat.le_of_ble_eq_true rfl, Nat.le_of_ble_eq_true rfl, Nat.le_of_ble_eq_true rfl, Nat.le_of_ble_eq_true rfl⟩ (fun H20 L20 S20 K20 q20 => ?_)
            obtain ⟨qa20, qb20, tq20⟩ := q20
            have tk20 : Lw D s.heap H20 a0 := tk17.trans tq20
            refine lv_iconst (v := 1) hx hb dX4_readComparison_74 (by decide) ?_
            have k_1 : (1 : Int32).toInt = 1 := by decide
            exact retE_z hQ C S20 hr dX4_readComparison_75 (z01 (by omega) (by omega)) (⟨by omega, tk20⟩)
          · have b19 : ¬ v4.toInt = (0 : Int32).toInt := fun z9 => c19 (i_eq.mpr z9)
            exact absurd b19 (by omega)
        · have b18 : v17.toInt = (0 : Int32).toInt := i_eq.mp c18
          refine lv_iconst (v := 0) hx hb dX4_readComparison_57 (by decide) ?_
          exact retE_z hQ C S17 hr dX4_readComparison_58 (z01 (by omega) (by omega)) (⟨by omega, tk17⟩)
      · have b14 : v13.toInt = (0 : Int32).toInt := i_eq.mp c14
        refine lv_aload_n hx hb dX4_readComparison_35 rfl (lv_at hl 1 rfl) ?_
        refine q_grS (T := TX4) C S1.1 ga0 0 kF_X4_39 dX4_readComparison_36 rfl rfl (by decide) rfl (by decide) kSF_X4_tape (fun g21 => ?_)
        refine callV_Ei C S1 (c_X9_refuse l D G (fR D H1 4 a0 0) g21) kV_X4_43 g21 (trivial) (by decide +kernel) dX4_readComparison_39 hl.1 rfl rfl (by decide) cd_X9_refuse ⟨Nat.le_of_ble_eq_true rfl, Nat.le_of_ble_eq_true rfl, Nat.le_of_ble_eq_true rfl, Nat.le_of_ble_eq_true rfl, Nat.le_of_ble_eq_true rfl⟩ (fun v22 H22 L22 S22 K22 q22 => ?_)
        have tk22 : Lw D s.heap H22 a0 := tk1.trans (Lw.keep S1.1 ga0 K22 (by decide +kernel) (by decide +kernel) (by decide +kernel))
        exact retE_z hQ C S22 hr dX4_readComparison_42 (z01 (by omega) (by omega)) (⟨by omega, tk22⟩)
  · have b2 : v1.toInt = (0 : Int32).toInt := i_eq.mp c2
    refine lv_iconst (v := 0) hx hb dX4_readComparison_7 (by decide) ?_
    exact retE_z hQ C S1 hr dX4_readComparison_8 (z01 (by omega) (by omega)) (⟨by omega, tk1⟩)

set_option maxRecDepth 100000 in
set_option maxHeartbeats 4000000 in
theorem c_X4_readAtom_d6 (l : Launch) (D : DD) (G : Nat → Nat) (a0 : Nat) (x1 : Int32) (ga0 : G a0 = 21) (ix1 : 6 ≤ x1.toInt ∧ x1.toInt ≤ 6) : CE l D G yX4_readAtom cX4_readAtom 4 (some .boolean) 7 [.ref a0, .int x1] (fun _ => True) [(2, 3), (2, 4), (2, 5), (2, 6), (2, 2), (22, 0), (21, 3)] (xI (fun H r H1 => (0 ≤ r.toInt ∧ r.toInt ≤ 1) ∧ (Lw D H H1 a0))) := by
  refine enter (by decide) (Nat.le_of_ble_eq_true rfl) ?_
  intro p e s m args below meth c ls Q hA hQ C hr hO hpre hl
  have hx := C.1
  have hb := C.2.1
  have S : Sd D G [(2, 3), (2, 4), (2, 5), (2, 6), (2, 2), (22, 0), (21, 3)] s.heap s.heap [] := Sd.start hO
  have hl : lv_has ls 4 [(0, .ref a0), (1, .int x1)] := hl
  have tk0 : Lw D s.heap s.heap a0 := Lw.refl
  refine lv_aload_n hx hb dX4_readAtom_0 rfl (lv_at hl 0 rfl) ?_
  refine q_grS (T := TX4) C S.1 ga0 0 kF_X4_39 dX4_readAtom_1 rfl rfl (by decide) rfl (by decide) kSF_X4_tape (fun g1 => ?_)
  refine q_lds C ks_X4_82 dX4_readAtom_4 (fun a2 ha2 => ?_)
  refine callV_Pi C S.1 S.2.1.2.1 (c_X9_isWord l D G (fR D s.heap 4 a0 0) a2 3 g1 ha2) kV_X4_61 g1 (trivial) dX4_readAtom_6 hl.1 rfl rfl (by decide) cd_X9_isWord ⟨Nat.le_of_ble_eq_true rfl, Nat.le_of_ble_eq_true rfl, Nat.le_of_ble_eq_true rfl, Nat.le_of_ble_eq_true rfl, Nat.le_of_ble_eq_true rfl⟩ (fun v3 q3 => ?_)
  refine lv_istore_n (lv' := [(2, .int v3), (0, .ref a0), (1, .int x1)]) hx hb dX4_readAtom_9 rfl hl (by decide) rfl (fun ls hl => ?_)
  refine lv_iload_n hx hb dX4_readAtom_10 rfl (lv_at hl 0 rfl) ?_
  have k_0 : (0 : Int32).toInt = 0 := by decide
  refine lv_if_ne (tgt := 26) hx hb dX4_readAtom_11 (by decide) (fun c4 => ?_) (fun c4 => ?_)
  · have b4 : ¬ v3.toInt = (0 : Int32).toInt := fun z9 => c4 (i_eq.mpr z9)
    refine lv_iload_n hx hb dX4_readAtom_26 rfl (lv_at hl 2 rfl) ?_
    refine lv_bipush (v := 6) hx hb dX4_readAtom_27 (by decide) ?_
    have k_6 : (6 : Int32).toInt = 6 := by decide
    refine lv_icmp_lt (tgt := 40) hx hb dX4_readAtom_29 (by decide) (fun c5 => ?_) (fun c5 => ?_)
    · have b5 : x1.toInt < (6 : Int32).toInt := i_lt.mp c5
      exact absurd b5 (by omega)
    · have b5 : ¬ x1.toInt < (6 : Int32).toInt := fun z9 => c5 (i_lt.mpr z9)
      refine lv_aload_n hx hb dX4_readAtom_32 rfl (lv_at hl 1 rfl) ?_
      refine q_grS (T := TX4) C S.1 ga0 0 kF_X4_39 dX4_readAtom_33 rfl rfl (by decide) rfl (by decide) kSF_X4_tape (fun g6 => ?_)
      refine callV_Ei C S (c_X9_refuse l D G (fR D s.heap 4 a0 0) g6) kV_X4_43 g6 (trivial) (by decide +kernel) dX4_readAtom_36 hl.1 rfl rfl (by decide) cd_X9_refuse ⟨Nat.le_of_ble_eq_true rfl, Nat.le_of_ble_eq_true rfl, Nat.le_of_ble_eq_true rfl, Nat.le_of_ble_eq_true rfl, Nat.le_of_ble_eq_true rfl⟩ (fun v7 H7 L7 S7 K7 q7 => ?_)
      have tk7 : Lw D s.heap H7 a0 := tk0.trans (Lw.keep S.1 ga0 K7 (by decide +kernel) (by decide +kernel) (by decide +kernel))
      exact retE_z hQ C S7 hr dX4_readAtom_39 (z01 (by omega) (by omega)) (⟨by omega, tk7⟩)
  · have b4 : v3.toInt = (0 : Int32).toInt := i_eq.mp c4
    refine lv_aload_n hx hb dX4_readAtom_14 rfl (lv_at hl 1 rfl) ?_
    refine q_grS (T := TX4) C S.1 ga0 0 kF_X4_39 dX4_readAtom_15 rfl rfl (by decide) rfl (by decide) kSF_X4_tape (fun g8 => ?_)
    refine lv_bipush (v := 40) hx hb dX4_readAtom_18 (by decide) ?_
    have k_40 : (40 : Int32).toInt = 40 := by decide
    refine callV_Pi C S.1 S.2.1.2.1 (c_X9_isSign l D G (fR D s.heap 4 a0 0) (40 : Int32) g8) kV_X4_84 g8 (trivial) dX4_readAtom_20 hl.1 rfl rfl (by decide) cd_X9_isSign ⟨Nat.le_of_ble_eq_true rfl, Nat.le_of_ble_eq_true rfl, Nat.le_of_ble_eq_true rfl, Nat.le_of_ble_eq_true rfl, Nat.le_of_ble_eq_true rfl⟩ (fun v9 q9 => ?_)
    refine lv_if_eq (tgt := 99) hx hb dX4_readAtom_23 (by decide) (fun c10 => ?_) (fun c10 => ?_)
    · have b10 : v9.toInt = (0 : Int32).toInt := i_eq.mp c10
      refine lv_aload_n hx hb dX4_readAtom_99 rfl (lv_at hl 1 rfl) ?_
      refine callV_Pi C S.1 S.2.1.2.1 (c_X4_presentTruth l D G a0 ga0) kV_X4_91 ga0 (trivial) dX4_readAtom_100 hl.1 rfl rfl (by decide) cd_X4_presentTruth ⟨Nat.le_of_ble_eq_true rfl, Nat.le_of_ble_eq_true rfl, Nat.le_of_ble_eq_true rfl, Nat.le_of_ble_eq_true rfl, Nat.le_of_ble_eq_true rfl⟩ (fun v11 q11 => ?_)
      refine lv_istore_n (lv' := [(3, .int v11), (2, .int v3), (0, .ref a0), (1, .int x1)]) hx hb dX4_readAtom_103 rfl hl (by decide) rfl (fun ls hl => ?_)
      refine lv_iload_n hx hb dX4_readAtom_104 rfl (lv_at hl 0 rfl) ?_
      refine lv_iconst (v := -1) hx hb dX4_readAtom_105 (by decide) ?_
      have k_m1 : (-1 : Int32).toInt = -1 := by decide
      refine lv_icmp_ne (tgt := 114) hx hb dX4_readAtom_106 (by decide) (fun c12 => ?_) (fun c12 => ?_)
      · have b12 : ¬ v11.toInt = (-1 : Int32).toInt := fun z9 => c12 (i_eq.mpr z9)
        refine lv_aload_n hx hb dX4_readAtom_114 rfl (lv_at hl 2 rfl) ?_
        refine lv_iload_n hx hb dX4_readAtom_115 rfl (lv_at hl 0 rfl) ?_
        refine callV_Ev C S (c_X4_put l D G a0 v11 ga0) kV_X4_55 ga0 (trivial) (by decide +kernel) dX4_readAtom_116 hl.1 rfl rfl (by decide) cd_X4_put ⟨Nat.le_of_ble_eq_true rfl, Nat.le_of_ble_eq_true rfl, Nat.le_of_ble_eq_true rfl, Nat.le_of_ble_eq_true rfl, Nat.le_of_ble_eq_true rfl⟩ (fun H13 L13 S13 K13 q13 => ?_)
        obtain ⟨qa13, qb13, tq13⟩ := q13
        have tk13 : Lw D s.heap H13 a0 := tk0.trans tq13
        refine lv_aload_n hx hb dX4_readAtom_119 rfl (lv_at hl 2 rfl) ?_
        refine q_grS (T := TX4) C S13.1 ga0 0 kF_X4_39 dX4_readAtom_120 rfl rfl (by decide) rfl (by decide) kSF_X4_tape (fun g14 => ?_)
        refine callV_Ev C S13 (c_X9_next l D G (fR D H13 4 a0 0) g14) kV_X4_47 g14 (trivial) (by decide +kernel) dX4_readAtom_123 hl.1 rfl rfl (by decide) cd_X9_next ⟨Nat.le_of_ble_eq_true rfl, Nat.le_of_ble_eq_true rfl, Nat.le_of_ble_eq_true rfl, Nat.le_of_ble_eq_true rfl, Nat.le_of_ble_eq_true rfl⟩ (fun H15 L15 S15 K15 q15 => ?_)
        have tk15 : Lw D s.heap H15 a0 := tk13.trans (Lw.keep S13.1 ga0 K15 (by decide +kernel) (by decide +kernel) (by decide +kernel))
        refine lv_iconst (v := 1) hx hb dX4_readAtom_126 (by decide) ?_
        have k_1 : (1 : Int32).toInt = 1 := by decide
        exact retE_z hQ C S15 hr dX4_readAtom_127 (z01 (by omega) (by omega)) (⟨by omega, tk15⟩)
      · have b12 : v11.toInt = (-1 : Int32).toInt := i_eq.mp c12
        refine lv_aload_n hx hb dX4_readAtom_109 rfl (lv_at hl 2 rfl) ?_
        refine callV_Ei C S (c_X4_readComparison l D G a0 ga0) kV_X4_94 ga0 (trivial) (by decide +kernel) dX4_readAtom_110 hl.1 rfl rfl (by decide) cd_X4_readComparison ⟨Nat.le_of_ble_eq_true rfl, Nat.le_of_ble_eq_true rfl, Nat.le_of_ble_eq_true rfl, Nat.le_of_ble_eq_true rfl, Nat.le_of_ble_eq_true rfl⟩ (fun v16 H16 L16 S16 K16 q16 => ?_)
        obtain ⟨q16, tq16⟩ := q16
        have tk16 : Lw D s.heap H16 a0 := tk0.trans tq16
        exact retE_z hQ C S16 hr dX4_readAtom_113 (z01 (by omega) (by omega)) (⟨by omega, tk16⟩)
    · have b10 : ¬ v9.toInt = (0 : Int32).toInt := fun z9 => c10 (i_eq.mpr z9)
      refine lv_iload_n hx hb dX4_readAtom_26 rfl (lv_at hl 2 rfl) ?_
      refine lv_bipush (v := 6) hx hb dX4_readAtom_27 (by decide) ?_
      have k_6 : (6 : Int32).toInt = 6 := by decide
      refine lv_icmp_lt (tgt := 40) hx hb dX4_readAtom_29 (by decide) (fun c17 => ?_) (fun c17 => ?_)
      · have b17 : x1.toInt < (6 : Int32).toInt := i_lt.mp c17
        exact absurd b17 (by omega)
      · have b17 : ¬ x1.toInt < (6 : Int32).toInt := fun z9 => c17 (i_lt.mpr z9)
        refine lv_aload_n hx hb dX4_readAtom_32 rfl (lv_at hl 1 rfl) ?_
        refine q_grS (T := TX4) C S.1 ga0 0 kF_X4_39 dX4_readAtom_33 rfl rfl (by decide) rfl (by decide) kSF_X4_tape (fun g18 => ?_)
        refine callV_Ei C S (c_X9_refuse l D G (fR D s.heap 4 a0 0) g18) kV_X4_43 g18 (trivial) (by decide +kernel) dX4_readAtom_36 hl.1 rfl rfl (by decide) cd_X9_refuse ⟨Nat.le_of_ble_eq_true rfl, Nat.le_of_ble_eq_true rfl, Nat.le_of_ble_eq_true rfl, Nat.le_of_ble_eq_true rfl, Nat.le_of_ble_eq_true rfl⟩ (fun v19 H19 L19 S19 K19 q19 => ?_)
        have tk19 : Lw D s.heap H19 a0 := tk0.trans (Lw.keep S.1 ga0 K19 (by decide +kernel) (by decide +kernel) (by decide +kernel))
        exact retE_z hQ C S19 hr dX4_readAtom_39 (z01 (by omega) (by omega)) (⟨by omega, tk19⟩)

set_option maxRecDepth 100000 in
set_option maxHeartbeats 4000000 in
theorem c_X4_readCondition_d6 (l : Launch) (D : DD) (G : Nat → Nat) (a0 : Nat) (x1 : Int32) (ga0 : G a0 = 21) (ix1 : 6 ≤ x1.toInt ∧ x1.toInt ≤ 6) : CE l D G yX4_readCondition cX4_readCondition 5 (some .boolean) 8 [.ref a0, .int x1] (fun _ => True) [(2, 3), (2, 4), (2, 5), (2, 6), (2, 2), (22, 0), (21, 3)] (xI (fun H r H1 => (0 ≤ r.toInt ∧ r.toInt ≤ 1) ∧ (Lw D H H1 a0))) := by
  refine enter (by decide) (Nat.le_of_ble_eq_true rfl) ?_
  intro p e s m args below meth c ls Q hA hQ C hr hO hpre hl
  have hx := C.1
  have hb := C.2.1
  have S : Sd D G [(2, 3), (2, 4), (2, 5), (2, 6), (2, 2), (22, 0), (21, 3)] s.heap s.heap [] := Sd.start hO
  have hl : lv_has ls 5 [(0, .ref a0), (1, .int x1)] := hl
  have tk0 : Lw D s.heap s.heap a0 := Lw.refl
  refine lv_iconst (v := 0) hx hb dX4_readCondition_0 (by decide) ?_
  refine lv_istore_n (lv' := [(2, .int (0 : Int32)), (0, .ref a0), (1, .int x1)]) hx hb dX4_readCondition_1 rfl hl (by decide) rfl (fun ls hl => ?_)
  refine lv_iconst (v := 0) hx hb dX4_readCondition_2 (by decide) ?_
  refine lv_istore_n (lv' := [(3, .int (0 : Int32)), (2, .int (0 : Int32)), (0, .ref a0), (1, .int x1)]) hx hb dX4_readCondition_3 rfl hl (by decide) rfl (fun ls hl => ?_)
  refine lv_iconst (v := 0) hx hb dX4_readCondition_4 (by decide) ?_
  refine lv_istore (lv' := [(4, .int (0 : Int32)), (3, .int (0 : Int32)), (2, .int (0 : Int32)), (0, .ref a0), (1, .int x1)]) hx hb dX4_readCondition_5 hl (by decide) rfl (fun ls hl => ?_)
  have Lp7 : ∀ (n : Nat) (x4_7 : Int32) (x3_7 : Int32) (x2_7 : Int32) (H_7 : Heap) (L_7 : List Loc) (ls : Array Slot), (Sd D G [(2, 3), (2, 4), (2, 5), (2, 6), (2, 2), (22, 0), (21, 3)] s.heap H_7 L_7) → (0 ≤ x4_7.toInt ∧ x4_7.toInt ≤ 2147483647) → (0 ≤ x3_7.toInt ∧ x3_7.toInt ≤ 1) → (0 ≤ x2_7.toInt ∧ x2_7.toInt ≤ 1) → (Lw D s.heap H_7 a0) → 2147483648 - x4_7.toInt ≤ (n : Int) → lv_has ls 5 [(4, .int x4_7), (3, .int x3_7), (2, .int x2_7), (0, .ref a0), (1, .int x1)] → W p l e (rmU 8 0 0) s m args below meth c H_7 L_7 0 0 Q (F0 m 7 ls []) := by
    intro n
    induction n with
    | zero =>
      intro x4_7 x3_7 x2_7 H_7 L_7 ls S_7 j7_0 j7_1 j7_2 u7_0 hn hl
      exact absurd hn (by omega)
    | succ n ih7 =>
      intro x4_7 x3_7 x2_7 H_7 L_7 ls S_7 j7_0 j7_1 j7_2 u7_0 hn hl
      refine lv_iload hx hb dX4_readCondition_7 (lv_at hl 0 rfl) ?_
      refine lv_sipush (v := 400) hx hb dX4_readCondition_9 (by decide) ?_
      have k_400 : (400 : Int32).toInt = 400 := by decide
      refine lv_icmp_ge (tgt := 88) hx hb dX4_readCondition_12 (by decide) (fun c1 => ?_) (fun c1 => ?_)
      · have b1 : (400 : Int32).toInt ≤ x4_7.toInt := i_le.mp c1
        refine lv_aload_n hx hb dX4_readCondition_88 rfl (lv_at hl 3 rfl) ?_
        refine q_grS (T := TX4) C S_7.1 ga0 0 kF_X4_39 dX4_readCondition_89 rfl rfl (by decide) rfl (by decide) kSF_X4_tape (fun g2 => ?_)
        refine callV_Ei C S_7 (c_X9_refuse l D G (fR D H_7 4 a0 0) g2) kV_X4_43 g2 (trivial) (by decide +kernel) dX4_readCondition_92 hl.1 rfl rfl (by decide) cd_X9_refuse ⟨Nat.le_of_ble_eq_true rfl, Nat.le_of_ble_eq_true rfl, Nat.le_of_ble_eq_true rfl, Nat.le_of_ble_eq_true rfl, Nat.le_of_ble_eq_true rfl⟩ (fun v3 H3 L3 S3 K3 q3 => ?_)
        have tk3 : Lw D s.heap H3 a0 := u7_0.trans (Lw.keep S_7.1 ga0 K3 (by decide +kernel) (by decide +kernel) (by decide +kernel))
        exact retE_z hQ C S3 hr dX4_readCondition_95 (z01 (by omega) (by omega)) (⟨by omega, tk3⟩)
      · have b1 : ¬ (400 : Int32).toInt ≤ x4_7.toInt := fun z9 => c1 (i_le.mpr z9)
        refine lv_aload_n hx hb dX4_readCondition_15 rfl (lv_at hl 3 rfl) ?_
        refine lv_iload_n hx hb dX4_readCondition_16 rfl (lv_at hl 4 rfl) ?_
        refine callV_Ei C S_7 (c_X4_readAtom_d6 l D G a0 x1 ga0 (by omega)) kV_X4_75 ga0 (trivial) (by decide +kernel) dX4_readCondition_17 hl.1 rfl rfl (by decide) cd_X4_readAtom ⟨Nat.le_of_ble_eq_true rfl, Nat.le_of_ble_eq_true rfl, Nat.le_of_ble_eq_true rfl, Nat.le_of_ble_eq_true rfl, Nat.le_of_ble_eq_true rfl⟩ (fun v4 H4 L4 S4 K4 q4 => ?_)
        obtain ⟨q4, tq4⟩ := q4
        have tk4 : Lw D s.heap H4 a0 := u7_0.trans tq4
        have k_0 : (0 : Int32).toInt = 0 := by decide
        refine lv_if_ne (tgt := 25) hx hb dX4_readCondition_20 (by decide) (fun c5 => ?_) (fun c5 => ?_)
        · have b5 : ¬ v4.toInt = (0 : Int32).toInt := fun z9 => c5 (i_eq.mpr z9)
          refine lv_iload_n hx hb dX4_readCondition_25 rfl (lv_at hl 1 rfl) ?_
          refine lv_if_eq (tgt := 35) hx hb dX4_readCondition_26 (by decide) (fun c6 => ?_) (fun c6 => ?_)
          · have b6 : x3_7.toInt = (0 : Int32).toInt := i_eq.mp c6
            refine lv_aload_n hx hb dX4_readCondition_35 rfl (lv_at hl 3 rfl) ?_
            refine q_grS (T := TX4) C S4.1 ga0 0 kF_X4_39 dX4_readCondition_36 rfl rfl (by decide) rfl (by decide) kSF_X4_tape (fun g7 => ?_)
            refine q_lds C ks_X4_78 dX4_readCondition_39 (fun a8 ha8 => ?_)
            refine callV_Pi C S4.1 S4.2.1.2.1 (c_X9_isWord l D G (fR D H4 4 a0 0) a8 3 g7 ha8) kV_X4_61 g7 (trivial) dX4_readCondition_41 hl.1 rfl rfl (by decide) cd_X9_isWord ⟨Nat.le_of_ble_eq_true rfl, Nat.le_of_ble_eq_true rfl, Nat.le_of_ble_eq_true rfl, Nat.le_of_ble_eq_true rfl, Nat.le_of_ble_eq_true rfl⟩ (fun v9 q9 => ?_)
            refine lv_istore_n (lv' := [(3, .int v9), (4, .int x4_7), (2, .int x2_7), (0, .ref a0), (1, .int x1)]) hx hb dX4_readCondition_44 rfl hl (by decide) rfl (fun ls hl => ?_)
            refine lv_iload_n hx hb dX4_readCondition_45 rfl (lv_at hl 0 rfl) ?_
            refine lv_if_ne (tgt := 75) hx hb dX4_readCondition_46 (by decide) (fun c10 => ?_) (fun c10 => ?_)
            · have b10 : ¬ v9.toInt = (0 : Int32).toInt := fun z9 => c10 (i_eq.mpr z9)
              refine lv_aload_n hx hb dX4_readCondition_75 rfl (lv_at hl 3 rfl) ?_
              refine q_grS (T := TX4) C S4.1 ga0 0 kF_X4_39 dX4_readCondition_76 rfl rfl (by decide) rfl (by decide) kSF_X4_tape (fun g11 => ?_)
              refine callV_Ev C S4 (c_X9_next l D G (fR D H4 4 a0 0) g11) kV_X4_47 g11 (trivial) (by decide +kernel) dX4_readCondition_79 hl.1 rfl rfl (by decide) cd_X9_next ⟨Nat.le_of_ble_eq_true rfl, Nat.le_of_ble_eq_true rfl, Nat.le_of_ble_eq_true rfl, Nat.le_of_ble_eq_true rfl, Nat.le_of_ble_eq_true rfl⟩ (fun H12 L12 S12 K12 q12 => ?_)
              have tk12 : Lw D s.heap H12 a0 := tk4.trans (Lw.keep S4.1 ga0 K12 (by decide +kernel) (by decide +kernel) (by decide +kernel))
              obtain ⟨v13, ev13⟩ : ∃ y : Int32, y = x4_7 + (1) := ⟨_, rfl⟩
              have k_1 : (1 : Int32).toInt = 1 := by decide
              have f14 : v13.toInt = x4_7.toInt + (1) := by rw [ev13]; exact i_addc k_1 (by omega) (by omega)
              refine lv_iinc (v := v13) (lv' := [(4, .int v13), (3, .int v9), (2, .int x2_7), (0, .ref a0), (1, .int x1)]) hx hb dX4_readCondition_82 hl (k := 1) rfl (by rw [ev13]; rfl) (by decide) rfl (fun ls hl => ?_)
              refine lv_goto (tgt := 7) hx hb dX4_readCondition_85 (by decide) ?_
              exact ih7 v13 v9 x2_7 H12 L12 ls S12 (by omega) (by omega) (by omega) tk12 (by omega) (lv_sub hl [0, 1, 2, 3, 4] rfl)
            · have b10 : v9.toInt = (0 : Int32).toInt := i_eq.mp c10
              refine lv_iload_n hx hb dX4_readCondition_49 rfl (lv_at hl 2 rfl) ?_
              refine lv_if_eq (tgt := 59) hx hb dX4_readCondition_50 (by decide) (fun c15 => ?_) (fun c15 => ?_)
              · have b15 : x2_7.toInt = (0 : Int32).toInt := i_eq.mp c15
                refine lv_aload_n hx hb dX4_readCondition_59 rfl (lv_at hl 3 rfl) ?_
                refine q_grS (T := TX4) C S4.1 ga0 0 kF_X4_39 dX4_readCondition_60 rfl rfl (by decide) rfl (by decide) kSF_X4_tape (fun g16 => ?_)
                refine q_lds C ks_X4_80 dX4_readCondition_63 (fun a17 ha17 => ?_)
                refine callV_Pi C S4.1 S4.2.1.2.1 (c_X9_isWord l D G (fR D H4 4 a0 0) a17 2 g16 ha17) kV_X4_61 g16 (trivial) dX4_readCondition_65 hl.1 rfl rfl (by decide) cd_X9_isWord ⟨Nat.le_of_ble_eq_true rfl, Nat.le_of_ble_eq_true rfl, Nat.le_of_ble_eq_true rfl, Nat.le_of_ble_eq_true rfl, Nat.le_of_ble_eq_true rfl⟩ (fun v18 q18 => ?_)
                refine lv_istore_n (lv' := [(2, .int v18), (3, .int v9), (4, .int x4_7), (0, .ref a0), (1, .int x1)]) hx hb dX4_readCondition_68 rfl hl (by decide) rfl (fun ls hl => ?_)
                refine lv_iload_n hx hb dX4_readCondition_69 rfl (lv_at hl 0 rfl) ?_
                refine lv_if_ne (tgt := 75) hx hb dX4_readCondition_70 (by decide) (fun c19 => ?_) (fun c19 => ?_)
                · have b19 : ¬ v18.toInt = (0 : Int32).toInt := fun z9 => c19 (i_eq.mpr z9)
                  refine lv_aload_n hx hb dX4_readCondition_75 rfl (lv_at hl 3 rfl) ?_
                  refine q_grS (T := TX4) C S4.1 ga0 0 kF_X4_39 dX4_readCondition_76 rfl rfl (by decide) rfl (by decide) kSF_X4_tape (fun g20 => ?_)
                  refine callV_Ev C S4 (c_X9_next l D G (fR D H4 4 a0 0) g20) kV_X4_47 g20 (trivial) (by decide +kernel) dX4_readCondition_79 hl.1 rfl rfl (by decide) cd_X9_next ⟨Nat.le_of_ble_eq_true rfl, Nat.le_of_ble_eq_true rfl, Nat.le_of_ble_eq_true rfl, Nat.le_of_ble_eq_true rfl, Nat.le_of_ble_eq_true rfl⟩ (fun H21 L21 S21 K21 q21 => ?_)
                  have tk21 : Lw D s.heap H21 a0 := tk4.trans (Lw.keep S4.1 ga0 K21 (by decide +kernel) (by decide +kernel) (by decide +kernel))
                  obtain ⟨v22, ev22⟩ : ∃ y : Int32, y = x4_7 + (1) := ⟨_, rfl⟩
                  have k_1 : (1 : Int32).toInt = 1 := by decide
                  have f23 : v22.toInt = x4_7.toInt + (1) := by rw [ev22]; exact i_addc k_1 (by omega) (by omega)
                  refine lv_iinc (v := v22) (lv' := [(4, .int v22), (2, .int v18), (3, .int v9), (0, .ref a0), (1, .int x1)]) hx hb dX4_readCondition_82 hl (k := 2) rfl (by rw [ev22]; rfl) (by decide) rfl (fun ls hl => ?_)
                  refine lv_goto (tgt := 7) hx hb dX4_readCondition_85 (by decide) ?_
                  exact ih7 v22 v9 v18 H21 L21 ls S21 (by omega) (by omega) (by omega) tk21 (by omega) (lv_sub hl [0, 2, 1, 3, 4] rfl)
                · have b19 : v18.toInt = (0 : Int32).toInt := i_eq.mp c19
                  refine lv_iconst (v := 1) hx hb dX4_readCondition_73 (by decide) ?_
                  have k_1 : (1 : Int32).toInt = 1 := by decide
                  exact retE_z hQ C S4 hr dX4_readCondition_74 (z01 (by omega) (by omega)) (⟨by omega, tk4⟩)
              · have b15 : ¬ x2_7.toInt = (0 : Int32).toInt := fun z9 => c15 (i_eq.mpr z9)
                refine lv_aload_n hx hb dX4_readCondition_53 rfl (lv_at hl 3 rfl) ?_
                refine lv_bipush (v := -18) hx hb dX4_readCondition_54 (by decide) ?_
                have k_m18 : (-18 : Int32).toInt = -18 := by decide
                refine callV_Ev C S4 (c_X4_put l D G a0 (-18 : Int32) ga0) kV_X4_55 ga0 (trivial) (by decide +kernel) dX4_readCondition_56 hl.1 rfl rfl (by decide) cd_X4_put ⟨Nat.le_of_ble_eq_true rfl, Nat.le_of_ble_eq_true rfl, Nat.le_of_ble_eq_true rfl, Nat.le_of_ble_eq_true rfl, Nat.le_of_ble_eq_true rfl⟩ (fun H24 L24 S24 K24 q24 => ?_)
                obtain ⟨qa24, qb24, tq24⟩ := q24
                have tk24 : Lw D s.heap H24 a0 := tk4.trans tq24
                refine lv_aload_n hx hb dX4_readCondition_59 rfl (lv_at hl 3 rfl) ?_
                refine q_grS (T := TX4) C S24.1 ga0 0 kF_X4_39 dX4_readCondition_60 rfl rfl (by decide) rfl (by decide) kSF_X4_tape (fun g25 => ?_)
                refine q_lds C ks_X4_80 dX4_readCondition_63 (fun a26 ha26 => ?_)
                refine callV_Pi C S24.1 S24.2.1.2.1 (c_X9_isWord l D G (fR D H24 4 a0 0) a26 2 g25 ha26) kV_X4_61 g25 (trivial) dX4_readCondition_65 hl.1 rfl rfl (by decide) cd_X9_isWord ⟨Nat.le_of_ble_eq_true rfl, Nat.le_of_ble_eq_true rfl, Nat.le_of_ble_eq_true rfl, Nat.le_of_ble_eq_true rfl, Nat.le_of_ble_eq_true rfl⟩ (fun v27 q27 => ?_)
                refine lv_istore_n (lv' := [(2, .int v27), (3, .int v9), (4, .int x4_7), (0, .ref a0), (1, .int x1)]) hx hb dX4_readCondition_68 rfl hl (by decide) rfl (fun ls hl => ?_)
                refine lv_iload_n hx hb dX4_readCondition_69 rfl (lv_at hl 0 rfl) ?_
                refine lv_if_ne (tgt := 75) hx hb dX4_readCondition_70 (by decide) (fun c28 => ?_) (fun c28 => ?_)
                · have b28 : ¬ v27.toInt = (0 : Int32).toInt := fun z9 => c28 (i_eq.mpr z9)
                  refine lv_aload_n hx hb dX4_readCondition_75 rfl (lv_at hl 3 rfl) ?_
                  refine q_grS (T := TX4) C S24.1 ga0 0 kF_X4_39 dX4_readCondition_76 rfl rfl (by decide) rfl (by decide) kSF_X4_tape (fun g29 => ?_)
                  refine callV_Ev C S24 (c_X9_next l D G (fR D H24 4 a0 0) g29) kV_X4_47 g29 (trivial) (by decide +kernel) dX4_readCondition_79 hl.1 rfl rfl (by decide) cd_X9_next ⟨Nat.le_of_ble_eq_true rfl, Nat.le_of_ble_eq_true rfl, Nat.le_of_ble_eq_true rfl, Nat.le_of_ble_eq_true rfl, Nat.le_of_ble_eq_true rfl⟩ (fun H30 L30 S30 K30 q30 => ?_)
                  have tk30 : Lw D s.heap H30 a0 := tk24.trans (Lw.keep S24.1 ga0 K30 (by decide +kernel) (by decide +kernel) (by decide +kernel))
                  obtain ⟨v31, ev31⟩ : ∃ y : Int32, y = x4_7 + (1) := ⟨_, rfl⟩
                  have k_1 : (1 : Int32).toInt = 1 := by decide
                  have f32 : v31.toInt = x4_7.toInt + (1) := by rw [ev31]; exact i_addc k_1 (by omega) (by omega)
                  refine lv_iinc (v := v31) (lv' := [(4, .int v31), (2, .int v27), (3, .int v9), (0, .ref a0), (1, .int x1)]) hx hb dX4_readCondition_82 hl (k := 2) rfl (by rw [ev31]; rfl) (by decide) rfl (fun ls hl => ?_)
                  refine lv_goto (tgt := 7) hx hb dX4_readCondition_85 (by decide) ?_
                  exact ih7 v31 v9 v27 H30 L30 ls S30 (by omega) (by omega) (by omega) tk30 (by omega) (lv_sub hl [0, 2, 1, 3, 4] rfl)
                · have b28 : v27.toInt = (0 : Int32).toInt := i_eq.mp c28
                  refine lv_iconst (v := 1) hx hb dX4_readCondition_73 (by decide) ?_
                  have k_1 : (1 : Int32).toInt = 1 := by decide
                  exact retE_z hQ C S24 hr dX4_readCondition_74 (z01 (by omega) (by omega)) (⟨by omega, tk24⟩)
          · have b6 : ¬ x3_7.toInt = (0 : Int32).toInt := fun z9 => c6 (i_eq.mpr z9)
            refine lv_aload_n hx hb dX4_readCondition_29 rfl (lv_at hl 3 rfl) ?_
            refine lv_bipush (v := -17) hx hb dX4_readCondition_30 (by decide) ?_
            have k_m17 : (-17 : Int32).toInt = -17 := by decide
            refine callV_Ev C S4 (c_X4_put l D G a0 (-17 : Int32) ga0) kV_X4_55 ga0 (trivial) (by decide +kernel) dX4_readCondition_32 hl.1 rfl rfl (by decide) cd_X4_put ⟨Nat.le_of_ble_eq_true rfl, Nat.le_of_ble_eq_true rfl, Nat.le_of_ble_eq_true rfl, Nat.le_of_ble_eq_true rfl, Nat.le_of_ble_eq_true rfl⟩ (fun H33 L33 S33 K33 q33 => ?_)
            obtain ⟨qa33, qb33, tq33⟩ := q33
            have tk33 : Lw D s.heap H33 a0 := tk4.trans tq33
            refine lv_aload_n hx hb dX4_readCondition_35 rfl (lv_at hl 3 rfl) ?_
            refine q_grS (T := TX4) C S33.1 ga0 0 kF_X4_39 dX4_readCondition_36 rfl rfl (by decide) rfl (by decide) kSF_X4_tape (fun g34 => ?_)
            refine q_lds C ks_X4_78 dX4_readCondition_39 (fun a35 ha35 => ?_)
            refine callV_Pi C S33.1 S33.2.1.2.1 (c_X9_isWord l D G (fR D H33 4 a0 0) a35 3 g34 ha35) kV_X4_61 g34 (trivial) dX4_readCondition_41 hl.1 rfl rfl (by decide) cd_X9_isWord ⟨Nat.le_of_ble_eq_true rfl, Nat.le_of_ble_eq_true rfl, Nat.le_of_ble_eq_true rfl, Nat.le_of_ble_eq_true rfl, Nat.le_of_ble_eq_true rfl⟩ (fun v36 q36 => ?_)
            refine lv_istore_n (lv' := [(3, .int v36), (4, .int x4_7), (2, .int x2_7), (0, .ref a0), (1, .int x1)]) hx hb dX4_readCondition_44 rfl hl (by decide) rfl (fun ls hl => ?_)
            refine lv_iload_n hx hb dX4_readCondition_45 rfl (lv_at hl 0 rfl) ?_
            refine lv_if_ne (tgt := 75) hx hb dX4_readCondition_46 (by decide) (fun c37 => ?_) (fun c37 => ?_)
            · have b37 : ¬ v36.toInt = (0 : Int32).toInt := fun z9 => c37 (i_eq.mpr z9)
              refine lv_aload_n hx hb dX4_readCondition_75 rfl (lv_at hl 3 rfl) ?_
              refine q_grS (T := TX4) C S33.1 ga0 0 kF_X4_39 dX4_readCondition_76 rfl rfl (by decide) rfl (by decide) kSF_X4_tape (fun g38 => ?_)
              refine callV_Ev C S33 (c_X9_next l D G (fR D H33 4 a0 0) g38) kV_X4_47 g38 (trivial) (by decide +kernel) dX4_readCondition_79 hl.1 rfl rfl (by decide) cd_X9_next ⟨Nat.le_of_ble_eq_true rfl, Nat.le_of_ble_eq_true rfl, Nat.le_of_ble_eq_true rfl, Nat.le_of_ble_eq_true rfl, Nat.le_of_ble_eq_true rfl⟩ (fun H39 L39 S39 K39 q39 => ?_)
              have tk39 : Lw D s.heap H39 a0 := tk33.trans (Lw.keep S33.1 ga0 K39 (by decide +kernel) (by decide +kernel) (by decide +kernel))
              obtain ⟨v40, ev40⟩ : ∃ y : Int32, y = x4_7 + (1) := ⟨_, rfl⟩
              have k_1 : (1 : Int32).toInt = 1 := by decide
              have f41 : v40.toInt = x4_7.toInt + (1) := by rw [ev40]; exact i_addc k_1 (by omega) (by omega)
              refine lv_iinc (v := v40) (lv' := [(4, .int v40), (3, .int v36), (2, .int x2_7), (0, .ref a0), (1, .int x1)]) hx hb dX4_readCondition_82 hl (k := 1) rfl (by rw [ev40]; rfl) (by decide) rfl (fun ls hl => ?_)
              refine lv_goto (tgt := 7) hx hb dX4_readCondition_85 (by decide) ?_
              exact ih7 v40 v36 x2_7 H39 L39 ls S39 (by omega) (by omega) (by omega) tk39 (by omega) (lv_sub hl [0, 1, 2, 3, 4] rfl)
            · have b37 : v36.toInt = (0 : Int32).toInt := i_eq.mp c37
              refine lv_iload_n hx hb dX4_readCondition_49 rfl (lv_at hl 2 rfl) ?_
              refine lv_if_eq (tgt := 59) hx hb dX4_readCondition_50 (by decide) (fun c42 => ?_) (fun c42 => ?_)
              · have b42 : x2_7.toInt = (0 : Int32).toInt := i_eq.mp c42
                refine lv_aload_n hx hb dX4_readCondition_59 rfl (lv_at hl 3 rfl) ?_
                refine q_grS (T := TX4) C S33.1 ga0 0 kF_X4_39 dX4_readCondition_60 rfl rfl (by decide) rfl (by decide) kSF_X4_tape (fun g43 => ?_)
                refine q_lds C ks_X4_80 dX4_readCondition_63 (fun a44 ha44 => ?_)
                refine callV_Pi C S33.1 S33.2.1.2.1 (c_X9_isWord l D G (fR D H33 4 a0 0) a44 2 g43 ha44) kV_X4_61 g43 (trivial) dX4_readCondition_65 hl.1 rfl rfl (by decide) cd_X9_isWord ⟨Nat.le_of_ble_eq_true rfl, Nat.le_of_ble_eq_true rfl, Nat.le_of_ble_eq_true rfl, Nat.le_of_ble_eq_true rfl, Nat.le_of_ble_eq_true rfl⟩ (fun v45 q45 => ?_)
                refine lv_istore_n (lv' := [(2, .int v45), (3, .int v36), (4, .int x4_7), (0, .ref a0), (1, .int x1)]) hx hb dX4_readCondition_68 rfl hl (by decide) rfl (fun ls hl => ?_)
                refine lv_iload_n hx hb dX4_readCondition_69 rfl (lv_at hl 0 rfl) ?_
                refine lv_if_ne (tgt := 75) hx hb dX4_readCondition_70 (by decide) (fun c46 => ?_) (fun c46 => ?_)
                · have b46 : ¬ v45.toInt = (0 : Int32).toInt := fun z9 => c46 (i_eq.mpr z9)
                  refine lv_aload_n hx hb dX4_readCondition_75 rfl (lv_at hl 3 rfl) ?_
                  refine q_grS (T := TX4) C S33.1 ga0 0 kF_X4_39 dX4_readCondition_76 rfl rfl (by decide) rfl (by decide) kSF_X4_tape (fun g47 => ?_)
                  refine callV_Ev C S33 (c_X9_next l D G (fR D H33 4 a0 0) g47) kV_X4_47 g47 (trivial) (by decide +kernel) dX4_readCondition_79 hl.1 rfl rfl (by decide) cd_X9_next ⟨Nat.le_of_ble_eq_true rfl, Nat.le_of_ble_eq_true rfl, Nat.le_of_ble_eq_true rfl, Nat.le_of_ble_eq_true rfl, Nat.le_of_ble_eq_true rfl⟩ (fun H48 L48 S48 K48 q48 => ?_)
                  have tk48 : Lw D s.heap H48 a0 := tk33.trans (Lw.keep S33.1 ga0 K48 (by decide +kernel) (by decide +kernel) (by decide +kernel))
                  obtain ⟨v49, ev49⟩ : ∃ y : Int32, y = x4_7 + (1) := ⟨_, rfl⟩
                  have k_1 : (1 : Int32).toInt = 1 := by decide
                  have f50 : v49.toInt = x4_7.toInt + (1) := by rw [ev49]; exact i_addc k_1 (by omega) (by omega)
                  refine lv_iinc (v := v49) (lv' := [(4, .int v49), (2, .int v45), (3, .int v36), (0, .ref a0), (1, .int x1)]) hx hb dX4_readCondition_82 hl (k := 2) rfl (by rw [ev49]; rfl) (by decide) rfl (fun ls hl => ?_)
                  refine lv_goto (tgt := 7) hx hb dX4_readCondition_85 (by decide) ?_
                  exact ih7 v49 v36 v45 H48 L48 ls S48 (by omega) (by omega) (by omega) tk48 (by omega) (lv_sub hl [0, 2, 1, 3, 4] rfl)
                · have b46 : v45.toInt = (0 : Int32).toInt := i_eq.mp c46
                  refine lv_iconst (v := 1) hx hb dX4_readCondition_73 (by decide) ?_
                  have k_1 : (1 : Int32).toInt = 1 := by decide
                  exact retE_z hQ C S33 hr dX4_readCondition_74 (z01 (by omega) (by omega)) (⟨by omega, tk33⟩)
              · have b42 : ¬ x2_7.toInt = (0 : Int32).toInt := fun z9 => c42 (i_eq.mpr z9)
                refine lv_aload_n hx hb dX4_readCondition_53 rfl (lv_at hl 3 rfl) ?_
                refine lv_bipush (v := -18) hx hb dX4_readCondition_54 (by decide) ?_
                have k_m18 : (-18 : Int32).toInt = -18 := by decide
                refine callV_Ev C S33 (c_X4_put l D G a0 (-18 : Int32) ga0) kV_X4_55 ga0 (trivial) (by decide +kernel) dX4_readCondition_56 hl.1 rfl rfl (by decide) cd_X4_put ⟨Nat.le_of_ble_eq_true rfl, Nat.le_of_ble_eq_true rfl, Nat.le_of_ble_eq_true rfl, Nat.le_of_ble_eq_true rfl, Nat.le_of_ble_eq_true rfl⟩ (fun H51 L51 S51 K51 q51 => ?_)
                obtain ⟨qa51, qb51, tq51⟩ := q51
                have tk51 : Lw D s.heap H51 a0 := tk33.trans tq51
                refine lv_aload_n hx hb dX4_readCondition_59 rfl (lv_at hl 3 rfl) ?_
                refine q_grS (T := TX4) C S51.1 ga0 0 kF_X4_39 dX4_readCondition_60 rfl rfl (by decide) rfl (by decide) kSF_X4_tape (fun g52 => ?_)
                refine q_lds C ks_X4_80 dX4_readCondition_63 (fun a53 ha53 => ?_)
                refine callV_Pi C S51.1 S51.2.1.2.1 (c_X9_isWord l D G (fR D H51 4 a0 0) a53 2 g52 ha53) kV_X4_61 g52 (trivial) dX4_readCondition_65 hl.1 rfl rfl (by decide) cd_X9_isWord ⟨Nat.le_of_ble_eq_true rfl, Nat.le_of_ble_eq_true rfl, Nat.le_of_ble_eq_true rfl, Nat.le_of_ble_eq_true rfl, Nat.le_of_ble_eq_true rfl⟩ (fun v54 q54 => ?_)
                refine lv_istore_n (lv' := [(2, .int v54), (3, .int v36), (4, .int x4_7), (0, .ref a0), (1, .int x1)]) hx hb dX4_readCondition_68 rfl hl (by decide) rfl (fun ls hl => ?_)
                refine lv_iload_n hx hb dX4_readCondition_69 rfl (lv_at hl 0 rfl) ?_
                refine lv_if_ne (tgt := 75) hx hb dX4_readCondition_70 (by decide) (fun c55 => ?_) (fun c55 => ?_)
                · have b55 : ¬ v54.toInt = (0 : Int32).toInt := fun z9 => c55 (i_eq.mpr z9)
                  refine lv_aload_n hx hb dX4_readCondition_75 rfl (lv_at hl 3 rfl) ?_
                  refine q_grS (T := TX4) C S51.1 ga0 0 kF_X4_39 dX4_readCondition_76 rfl rfl (by decide) rfl (by decide) kSF_X4_tape (fun g56 => ?_)
                  refine callV_Ev C S51 (c_X9_next l D G (fR D H51 4 a0 0) g56) kV_X4_47 g56 (trivial) (by decide +kernel) dX4_readCondition_79 hl.1 rfl rfl (by decide) cd_X9_next ⟨Nat.le_of_ble_eq_true rfl, Nat.le_of_ble_eq_true rfl, Nat.le_of_ble_eq_true rfl, Nat.le_of_ble_eq_true rfl, Nat.le_of_ble_eq_true rfl⟩ (fun H57 L57 S57 K57 q57 => ?_)
                  have tk57 : Lw D s.heap H57 a0 := tk51.trans (Lw.keep S51.1 ga0 K57 (by decide +kernel) (by decide +kernel) (by decide +kernel))
                  obtain ⟨v58, ev58⟩ : ∃ y : Int32, y = x4_7 + (1) := ⟨_, rfl⟩
                  have k_1 : (1 : Int32).toInt = 1 := by decide
                  have f59 : v58.toInt = x4_7.toInt + (1) := by rw [ev58]; exact i_addc k_1 (by omega) (by omega)
                  refine lv_iinc (v := v58) (lv' := [(4, .int v58), (2, .int v54), (3, .int v36), (0, .ref a0), (1, .int x1)]) hx hb dX4_readCondition_82 hl (k := 2) rfl (by rw [ev58]; rfl) (by decide) rfl (fun ls hl => ?_)
                  refine lv_goto (tgt := 7) hx hb dX4_readCondition_85 (by decide) ?_
                  exact ih7 v58 v36 v54 H57 L57 ls S57 (by omega) (by omega) (by omega) tk57 (by omega) (lv_sub hl [0, 2, 1, 3, 4] rfl)
                · have b55 : v54.toInt = (0 : Int32).toInt := i_eq.mp c55
                  refine lv_iconst (v := 1) hx hb dX4_readCondition_73 (by decide) ?_
                  have k_1 : (1 : Int32).toInt = 1 := by decide
                  exact retE_z hQ C S51 hr dX4_readCondition_74 (z01 (by omega) (by omega)) (⟨by omega, tk51⟩)
        · have b5 : v4.toInt = (0 : Int32).toInt := i_eq.mp c5
          refine lv_iconst (v := 0) hx hb dX4_readCondition_23 (by decide) ?_
          exact retE_z hQ C S4 hr dX4_readCondition_24 (z01 (by omega) (by omega)) (⟨by omega, tk4⟩)
  have k_0 : (0 : Int32).toInt = 0 := by decide
  exact Lp7 2147483648 (0 : Int32) (0 : Int32) (0 : Int32) s.heap [] ls S (by omega) (by omega) (by omega) tk0  (by omega) (lv_sub hl [0, 1, 2, 3, 4] rfl)

set_option maxRecDepth 100000 in
set_option maxHeartbeats 4000000 in
theorem c_X4_readAtom_d5 (l : Launch) (D : DD) (G : Nat → Nat) (a0 : Nat) (x1 : Int32) (ga0 : G a0 = 21) (ix1 : 5 ≤ x1.toInt ∧ x1.toInt ≤ 5) : CE l D G yX4_readAtom cX4_readAtom 4 (some .boolean) 9 [.ref a0, .int x1] (fun _ => True) [(2, 3), (2, 4), (2, 5), (2, 6), (2, 2), (22, 0), (21, 3)] (xI (fun H r H1 => (0 ≤ r.toInt ∧ r.toInt ≤ 1) ∧ (Lw D H H1 a0))) := by
  refine enter (by decide) (Nat.le_of_ble_eq_true rfl) ?_
  intro p e s m args below meth c ls Q hA hQ C hr hO hpre hl
  have hx := C.1
  have hb := C.2.1
  have S : Sd D G [(2, 3), (2, 4), (2, 5), (2, 6), (2, 2), (22, 0), (21, 3)] s.heap s.heap [] := Sd.start hO
  have hl : lv_has ls 4 [(0, .ref a0), (1, .int x1)] := hl
  have tk0 : Lw D s.heap s.heap a0 := Lw.refl
  refine lv_aload_n hx hb dX4_readAtom_0 rfl (lv_at hl 0 rfl) ?_
  refine q_grS (T := TX4) C S.1 ga0 0 kF_X4_39 dX4_readAtom_1 rfl rfl (by decide) rfl (by decide) kSF_X4_tape (fun g1 => ?_)
  refine q_lds C ks_X4_82 dX4_readAtom_4 (fun a2 ha2 => ?_)
  refine callV_Pi C S.1 S.2.1.2.1 (c_X9_isWord l D G (fR D s.heap 4 a0 0) a2 3 g1 ha2) kV_X4_61 g1 (trivial) dX4_readAtom_6 hl.1 rfl rfl (by decide) cd_X9_isWord ⟨Nat.le_of_ble_eq_true rfl, Nat.le_of_ble_eq_true rfl, Nat.le_of_ble_eq_true rfl, Nat.le_of_ble_eq_true rfl, Nat.le_of_ble_eq_true rfl⟩ (fun v3 q3 => ?_)
  refine lv_istore_n (lv' := [(2, .int v3), (0, .ref a0), (1, .int x1)]) hx hb dX4_readAtom_9 rfl hl (by decide) rfl (fun ls hl => ?_)
  refine lv_iload_n hx hb dX4_readAtom_10 rfl (lv_at hl 0 rfl) ?_
  have k_0 : (0 : Int32).toInt = 0 := by decide
  refine lv_if_ne (tgt := 26) hx hb dX4_readAtom_11 (by decide) (fun c4 => ?_) (fun c4 => ?_)
  · have b4 : ¬ v3.toInt = (0 : Int32).toInt := fun z9 => c4 (i_eq.mpr z9)
    refine lv_iload_n hx hb dX4_readAtom_26 rfl (lv_at hl 2 rfl) ?_
    refine lv_bipush (v := 6) hx hb dX4_readAtom_27 (by decide) ?_
    have k_6 : (6 : Int32).toInt = 6 := by decide
    refine lv_icmp_lt (tgt := 40) hx hb dX4_readAtom_29 (by decide) (fun c5 => ?_) (fun c5 => ?_)
    · have b5 : x1.toInt < (6 : Int32).toInt := i_lt.mp c5
      refine lv_aload_n hx hb dX4_readAtom_40 rfl (lv_at hl 1 rfl) ?_
      refine q_grS (T := TX4) C S.1 ga0 0 kF_X4_39 dX4_readAtom_41 rfl rfl (by decide) rfl (by decide) kSF_X4_tape (fun g6 => ?_)
      refine callV_Ev C S (c_X9_next l D G (fR D s.heap 4 a0 0) g6) kV_X4_47 g6 (trivial) (by decide +kernel) dX4_readAtom_44 hl.1 rfl rfl (by decide) cd_X9_next ⟨Nat.le_of_ble_eq_true rfl, Nat.le_of_ble_eq_true rfl, Nat.le_of_ble_eq_true rfl, Nat.le_of_ble_eq_true rfl, Nat.le_of_ble_eq_true rfl⟩ (fun H7 L7 S7 K7 q7 => ?_)
      have tk7 : Lw D s.heap H7 a0 := tk0.trans (Lw.keep S.1 ga0 K7 (by decide +kernel) (by decide +kernel) (by decide +kernel))
      refine lv_iload_n hx hb dX4_readAtom_47 rfl (lv_at hl 0 rfl) ?_
      refine lv_if_ne (tgt := 79) hx hb dX4_readAtom_48 (by decide) (fun c8 => ?_) (fun c8 => ?_)
      · have b8 : ¬ v3.toInt = (0 : Int32).toInt := fun z9 => c8 (i_eq.mpr z9)
        refine lv_aload_n hx hb dX4_readAtom_79 rfl (lv_at hl 1 rfl) ?_
        refine lv_iload_n hx hb dX4_readAtom_80 rfl (lv_at hl 2 rfl) ?_
        refine lv_iconst (v := 1) hx hb dX4_readAtom_81 (by decide) ?_
        have k_1 : (1 : Int32).toInt = 1 := by decide
        refine lv_iadd hx hb dX4_readAtom_82 ?_
        refine lv_topi (fun v9 ev9 => ?_)
        have f10 : v9.toInt = x1.toInt + (1 : Int32).toInt := by rw [ev9]; exact i_add (by omega) (by omega)
        refine callV_Ei C S7 (c_X4_readAtom_d6 l D G a0 v9 ga0 (by omega)) kV_X4_75 ga0 (trivial) (by decide +kernel) dX4_readAtom_83 hl.1 rfl rfl (by decide) cd_X4_readAtom ⟨Nat.le_of_ble_eq_true rfl, Nat.le_of_ble_eq_true rfl, Nat.le_of_ble_eq_true rfl, Nat.le_of_ble_eq_true rfl, Nat.le_of_ble_eq_true rfl⟩ (fun v11 H11 L11 S11 K11 q11 => ?_)
        obtain ⟨q11, tq11⟩ := q11
        have tk11 : Lw D s.heap H11 a0 := tk7.trans tq11
        refine lv_if_ne (tgt := 91) hx hb dX4_readAtom_86 (by decide) (fun c12 => ?_) (fun c12 => ?_)
        · have b12 : ¬ v11.toInt = (0 : Int32).toInt := fun z9 => c12 (i_eq.mpr z9)
          refine lv_aload_n hx hb dX4_readAtom_91 rfl (lv_at hl 1 rfl) ?_
          refine lv_bipush (v := -13) hx hb dX4_readAtom_92 (by decide) ?_
          have k_m13 : (-13 : Int32).toInt = -13 := by decide
          refine callV_Ev C S11 (c_X4_put l D G a0 (-13 : Int32) ga0) kV_X4_55 ga0 (trivial) (by decide +kernel) dX4_readAtom_94 hl.1 rfl rfl (by decide) cd_X4_put ⟨Nat.le_of_ble_eq_true rfl, Nat.le_of_ble_eq_true rfl, Nat.le_of_ble_eq_true rfl, Nat.le_of_ble_eq_true rfl, Nat.le_of_ble_eq_true rfl⟩ (fun H13 L13 S13 K13 q13 => ?_)
          obtain ⟨qa13, qb13, tq13⟩ := q13
          have tk13 : Lw D s.heap H13 a0 := tk11.trans tq13
          refine lv_iconst (v := 1) hx hb dX4_readAtom_97 (by decide) ?_
          exact retE_z hQ C S13 hr dX4_readAtom_98 (z01 (by omega) (by omega)) (⟨by omega, tk13⟩)
        · have b12 : v11.toInt = (0 : Int32).toInt := i_eq.mp c12
          refine lv_iconst (v := 0) hx hb dX4_readAtom_89 (by decide) ?_
          exact retE_z hQ C S11 hr dX4_readAtom_90 (z01 (by omega) (by omega)) (⟨by omega, tk11⟩)
      · have b8 : v3.toInt = (0 : Int32).toInt := i_eq.mp c8
        exact absurd b8 (by omega)
    · have b5 : ¬ x1.toInt < (6 : Int32).toInt := fun z9 => c5 (i_lt.mpr z9)
      exact absurd b5 (by omega)
  · have b4 : v3.toInt = (0 : Int32).toInt := i_eq.mp c4
    refine lv_aload_n hx hb dX4_readAtom_14 rfl (lv_at hl 1 rfl) ?_
    refine q_grS (T := TX4) C S.1 ga0 0 kF_X4_39 dX4_readAtom_15 rfl rfl (by decide) rfl (by decide) kSF_X4_tape (fun g14 => ?_)
    refine lv_bipush (v := 40) hx hb dX4_readAtom_18 (by decide) ?_
    have k_40 : (40 : Int32).toInt = 40 := by decide
    refine callV_Pi C S.1 S.2.1.2.1 (c_X9_isSign l D G (fR D s.heap 4 a0 0) (40 : Int32) g14) kV_X4_84 g14 (trivial) dX4_readAtom_20 hl.1 rfl rfl (by decide) cd_X9_isSign ⟨Nat.le_of_ble_eq_true rfl, Nat.le_of_ble_eq_true rfl, Nat.le_of_ble_eq_true rfl, Nat.le_of_ble_eq_true rfl, Nat.le_of_ble_eq_true rfl⟩ (fun v15 q15 => ?_)
    refine lv_if_eq (tgt := 99) hx hb dX4_readAtom_23 (by decide) (fun c16 => ?_) (fun c16 => ?_)
    · have b16 : v15.toInt = (0 : Int32).toInt := i_eq.mp c16
      refine lv_aload_n hx hb dX4_readAtom_99 rfl (lv_at hl 1 rfl) ?_
      refine callV_Pi C S.1 S.2.1.2.1 (c_X4_presentTruth l D G a0 ga0) kV_X4_91 ga0 (trivial) dX4_readAtom_100 hl.1 rfl rfl (by decide) cd_X4_presentTruth ⟨Nat.le_of_ble_eq_true rfl, Nat.le_of_ble_eq_true rfl, Nat.le_of_ble_eq_true rfl, Nat.le_of_ble_eq_true rfl, Nat.le_of_ble_eq_true rfl⟩ (fun v17 q17 => ?_)
      refine lv_istore_n (lv' := [(3, .int v17), (2, .int v3), (0, .ref a0), (1, .int x1)]) hx hb dX4_readAtom_103 rfl hl (by decide) rfl (fun ls hl => ?_)
      refine lv_iload_n hx hb dX4_readAtom_104 rfl (lv_at hl 0 rfl) ?_
      refine lv_iconst (v := -1) hx hb dX4_readAtom_105 (by decide) ?_
      have k_m1 : (-1 : Int32).toInt = -1 := by decide
      refine lv_icmp_ne (tgt := 114) hx hb dX4_readAtom_106 (by decide) (fun c18 => ?_) (fun c18 => ?_)
      · have b18 : ¬ v17.toInt = (-1 : Int32).toInt := fun z9 => c18 (i_eq.mpr z9)
        refine lv_aload_n hx hb dX4_readAtom_114 rfl (lv_at hl 2 rfl) ?_
        refine lv_iload_n hx hb dX4_readAtom_115 rfl (lv_at hl 0 rfl) ?_
        refine callV_Ev C S (c_X4_put l D G a0 v17 ga0) kV_X4_55 ga0 (trivial) (by decide +kernel) dX4_readAtom_116 hl.1 rfl rfl (by decide) cd_X4_put ⟨Nat.le_of_ble_eq_true rfl, Nat.le_of_ble_eq_true rfl, Nat.le_of_ble_eq_true rfl, Nat.le_of_ble_eq_true rfl, Nat.le_of_ble_eq_true rfl⟩ (fun H19 L19 S19 K19 q19 => ?_)
        obtain ⟨qa19, qb19, tq19⟩ := q19
        have tk19 : Lw D s.heap H19 a0 := tk0.trans tq19
        refine lv_aload_n hx hb dX4_readAtom_119 rfl (lv_at hl 2 rfl) ?_
        refine q_grS (T := TX4) C S19.1 ga0 0 kF_X4_39 dX4_readAtom_120 rfl rfl (by decide) rfl (by decide) kSF_X4_tape (fun g20 => ?_)
        refine callV_Ev C S19 (c_X9_next l D G (fR D H19 4 a0 0) g20) kV_X4_47 g20 (trivial) (by decide +kernel) dX4_readAtom_123 hl.1 rfl rfl (by decide) cd_X9_next ⟨Nat.le_of_ble_eq_true rfl, Nat.le_of_ble_eq_true rfl, Nat.le_of_ble_eq_true rfl, Nat.le_of_ble_eq_true rfl, Nat.le_of_ble_eq_true rfl⟩ (fun H21 L21 S21 K21 q21 => ?_)
        have tk21 : Lw D s.heap H21 a0 := tk19.trans (Lw.keep S19.1 ga0 K21 (by decide +kernel) (by decide +kernel) (by decide +kernel))
        refine lv_iconst (v := 1) hx hb dX4_readAtom_126 (by decide) ?_
        have k_1 : (1 : Int32).toInt = 1 := by decide
        exact retE_z hQ C S21 hr dX4_readAtom_127 (z01 (by omega) (by omega)) (⟨by omega, tk21⟩)
      · have b18 : v17.toInt = (-1 : Int32).toInt := i_eq.mp c18
        refine lv_aload_n hx hb dX4_readAtom_109 rfl (lv_at hl 2 rfl) ?_
        refine callV_Ei C S (c_X4_readComparison l D G a0 ga0) kV_X4_94 ga0 (trivial) (by decide +kernel) dX4_readAtom_110 hl.1 rfl rfl (by decide) cd_X4_readComparison ⟨Nat.le_of_ble_eq_true rfl, Nat.le_of_ble_eq_true rfl, Nat.le_of_ble_eq_true rfl, Nat.le_of_ble_eq_true rfl, Nat.le_of_ble_eq_true rfl⟩ (fun v22 H22 L22 S22 K22 q22 => ?_)
        obtain ⟨q22, tq22⟩ := q22
        have tk22 : Lw D s.heap H22 a0 := tk0.trans tq22
        exact retE_z hQ C S22 hr dX4_readAtom_113 (z01 (by omega) (by omega)) (⟨by omega, tk22⟩)
    · have b16 : ¬ v15.toInt = (0 : Int32).toInt := fun z9 => c16 (i_eq.mpr z9)
      refine lv_iload_n hx hb dX4_readAtom_26 rfl (lv_at hl 2 rfl) ?_
      refine lv_bipush (v := 6) hx hb dX4_readAtom_27 (by decide) ?_
      have k_6 : (6 : Int32).toInt = 6 := by decide
      refine lv_icmp_lt (tgt := 40) hx hb dX4_readAtom_29 (by decide) (fun c23 => ?_) (fun c23 => ?_)
      · have b23 : x1.toInt < (6 : Int32).toInt := i_lt.mp c23
        refine lv_aload_n hx hb dX4_readAtom_40 rfl (lv_at hl 1 rfl) ?_
        refine q_grS (T := TX4) C S.1 ga0 0 kF_X4_39 dX4_readAtom_41 rfl rfl (by decide) rfl (by decide) kSF_X4_tape (fun g24 => ?_)
        refine callV_Ev C S (c_X9_next l D G (fR D s.heap 4 a0 0) g24) kV_X4_47 g24 (trivial) (by decide +kernel) dX4_readAtom_44 hl.1 rfl rfl (by decide) cd_X9_next ⟨Nat.le_of_ble_eq_true rfl, Nat.le_of_ble_eq_true rfl, Nat.le_of_ble_eq_true rfl, Nat.le_of_ble_eq_true rfl, Nat.le_of_ble_eq_true rfl⟩ (fun H25 L25 S25 K25 q25 => ?_)
        have tk25 : Lw D s.heap H25 a0 := tk0.trans (Lw.keep S.1 ga0 K25 (by decide +kernel) (by decide +kernel) (by decide +kernel))
        refine lv_iload_n hx hb dX4_readAtom_47 rfl (lv_at hl 0 rfl) ?_
        refine lv_if_ne (tgt := 79) hx hb dX4_readAtom_48 (by decide) (fun c26 => ?_) (fun c26 => ?_)
        · have b26 : ¬ v3.toInt = (0 : Int32).toInt := fun z9 => c26 (i_eq.mpr z9)
          exact absurd b26 (by omega)
        · have b26 : v3.toInt = (0 : Int32).toInt := i_eq.mp c26
          refine lv_aload_n hx hb dX4_readAtom_51 rfl (lv_at hl 1 rfl) ?_
          refine lv_iload_n hx hb dX4_readAtom_52 rfl (lv_at hl 2 rfl) ?_
          refine lv_iconst (v := 1) hx hb dX4_readAtom_53 (by decide) ?_
          have k_1 : (1 : Int32).toInt = 1 := by decide
          refine lv_iadd hx hb dX4_readAtom_54 ?_
          refine lv_topi (fun v27 ev27 => ?_)
          have f28 : v27.toInt = x1.toInt + (1 : Int32).toInt := by rw [ev27]; exact i_add (by omega) (by omega)
          refine callV_Ei C S25 (c_X4_readCondition_d6 l D G a0 v27 ga0 (by omega)) kV_X4_65 ga0 (trivial) (by decide +kernel) dX4_readAtom_55 hl.1 rfl rfl (by decide) cd_X4_readCondition ⟨Nat.le_of_ble_eq_true rfl, Nat.le_of_ble_eq_true rfl, Nat.le_of_ble_eq_true rfl, Nat.le_of_ble_eq_true rfl, Nat.le_of_ble_eq_true rfl⟩ (fun v29 H29 L29 S29 K29 q29 => ?_)
          obtain ⟨q29, tq29⟩ := q29
          have tk29 : Lw D s.heap H29 a0 := tk25.trans tq29
          refine lv_if_eq (tgt := 77) hx hb dX4_readAtom_58 (by decide) (fun c30 => ?_) (fun c30 => ?_)
          · have b30 : v29.toInt = (0 : Int32).toInt := i_eq.mp c30
            refine lv_iconst (v := 0) hx hb dX4_readAtom_77 (by decide) ?_
            exact retE_z hQ C S29 hr dX4_readAtom_78 (z01 (by omega) (by omega)) (⟨by omega, tk29⟩)
          · have b30 : ¬ v29.toInt = (0 : Int32).toInt := fun z9 => c30 (i_eq.mpr z9)
            refine lv_aload_n hx hb dX4_readAtom_61 rfl (lv_at hl 1 rfl) ?_
            refine q_grS (T := TX4) C S29.1 ga0 0 kF_X4_39 dX4_readAtom_62 rfl rfl (by decide) rfl (by decide) kSF_X4_tape (fun g31 => ?_)
            refine lv_bipush (v := 41) hx hb dX4_readAtom_65 (by decide) ?_
            have k_41 : (41 : Int32).toInt = 41 := by decide
            refine callV_Ei C S29 (c_X9_takeSign l D G (fR D H29 4 a0 0) (41 : Int32) g31) kV_X4_88 g31 (trivial) (by decide +kernel) dX4_readAtom_67 hl.1 rfl rfl (by decide) cd_X9_takeSign ⟨Nat.le_of_ble_eq_true rfl, Nat.le_of_ble_eq_true rfl, Nat.le_of_ble_eq_true rfl, Nat.le_of_ble_eq_true rfl, Nat.le_of_ble_eq_true rfl⟩ (fun v32 H32 L32 S32 K32 q32 => ?_)
            have tk32 : Lw D s.heap H32 a0 := tk29.trans (Lw.keep S29.1 ga0 K32 (by decide +kernel) (by decide +kernel) (by decide +kernel))
            refine lv_if_eq (tgt := 77) hx hb dX4_readAtom_70 (by decide) (fun c33 => ?_) (fun c33 => ?_)
            · have b33 : v32.toInt = (0 : Int32).toInt := i_eq.mp c33
              refine lv_iconst (v := 0) hx hb dX4_readAtom_77 (by decide) ?_
              exact retE_z hQ C S32 hr dX4_readAtom_78 (z01 (by omega) (by omega)) (⟨by omega, tk32⟩)
            · have b33 : ¬ v32.toInt = (0 : Int32).toInt := fun z9 => c33 (i_eq.mpr z9)
              refine lv_iconst (v := 1) hx hb dX4_readAtom_73 (by decide) ?_
              refine lv_goto (tgt := 78) hx hb dX4_readAtom_74 (by decide) ?_
              exact retE_z hQ C S32 hr dX4_readAtom_78 (z01 (by omega) (by omega)) (⟨by omega, tk32⟩)
      · have b23 : ¬ x1.toInt < (6 : Int32).toInt := fun z9 => c23 (i_lt.mpr z9)
        exact absurd b23 (by omega)

set_option maxRecDepth 100000 in
set_option maxHeartbeats 4000000 in
theorem c_X4_readCondition_d5 (l : Launch) (D : DD) (G : Nat → Nat) (a0 : Nat) (x1 : Int32) (ga0 : G a0 = 21) (ix1 : 5 ≤ x1.toInt ∧ x1.toInt ≤ 5) : CE l D G yX4_readCondition cX4_readCondition 5 (some .boolean) 10 [.ref a0, .int x1] (fun _ => True) [(2, 3), (2, 4), (2, 5), (2, 6), (2, 2), (22, 0), (21, 3)] (xI (fun H r H1 => (0 ≤ r.toInt ∧ r.toInt ≤ 1) ∧ (Lw D H H1 a0))) := by
  refine enter (by decide) (Nat.le_of_ble_eq_true rfl) ?_
  intro p e s m args below meth c ls Q hA hQ C hr hO hpre hl
  have hx := C.1
  have hb := C.2.1
  have S : Sd D G [(2, 3), (2, 4), (2, 5), (2, 6), (2, 2), (22, 0), (21, 3)] s.heap s.heap [] := Sd.start hO
  have hl : lv_has ls 5 [(0, .ref a0), (1, .int x1)] := hl
  have tk0 : Lw D s.heap s.heap a0 := Lw.refl
  refine lv_iconst (v := 0) hx hb dX4_readCondition_0 (by decide) ?_
  refine lv_istore_n (lv' := [(2, .int (0 : Int32)), (0, .ref a0), (1, .int x1)]) hx hb dX4_readCondition_1 rfl hl (by decide) rfl (fun ls hl => ?_)
  refine lv_iconst (v := 0) hx hb dX4_readCondition_2 (by decide) ?_
  refine lv_istore_n (lv' := [(3, .int (0 : Int32)), (2, .int (0 : Int32)), (0, .ref a0), (1, .int x1)]) hx hb dX4_readCondition_3 rfl hl (by decide) rfl (fun ls hl => ?_)
  refine lv_iconst (v := 0) hx hb dX4_readCondition_4 (by decide) ?_
  refine lv_istore (lv' := [(4, .int (0 : Int32)), (3, .int (0 : Int32)), (2, .int (0 : Int32)), (0, .ref a0), (1, .int x1)]) hx hb dX4_readCondition_5 hl (by decide) rfl (fun ls hl => ?_)
  have Lp7 : ∀ (n : Nat) (x4_7 : Int32) (x3_7 : Int32) (x2_7 : Int32) (H_7 : Heap) (L_7 : List Loc) (ls : Array Slot), (Sd D G [(2, 3), (2, 4), (2, 5), (2, 6), (2, 2), (22, 0), (21, 3)] s.heap H_7 L_7) → (0 ≤ x4_7.toInt ∧ x4_7.toInt ≤ 2147483647) → (0 ≤ x3_7.toInt ∧ x3_7.toInt ≤ 1) → (0 ≤ x2_7.toInt ∧ x2_7.toInt ≤ 1) → (Lw D s.heap H_7 a0) → 2147483648 - x4_7.toInt ≤ (n : Int) → lv_has ls 5 [(4, .int x4_7), (3, .int x3_7), (2, .int x2_7), (0, .ref a0), (1, .int x1)] → W p l e (rmU 10 0 0) s m args below meth c H_7 L_7 0 0 Q (F0 m 7 ls []) := by
    intro n
    induction n with
    | zero =>
      intro x4_7 x3_7 x2_7 H_7 L_7 ls S_7 j7_0 j7_1 j7_2 u7_0 hn hl
      exact absurd hn (by omega)
    | succ n ih7 =>
      intro x4_7 x3_7 x2_7 H_7 L_7 ls S_7 j7_0 j7_1 j7_2 u7_0 hn hl
      refine lv_iload hx hb dX4_readCondition_7 (lv_at hl 0 rfl) ?_
      refine lv_sipush (v := 400) hx hb dX4_readCondition_9 (by decide) ?_
      have k_400 : (400 : Int32).toInt = 400 := by decide
      refine lv_icmp_ge (tgt := 88) hx hb dX4_readCondition_12 (by decide) (fun c1 => ?_) (fun c1 => ?_)
      · have b1 : (400 : Int32).toInt ≤ x4_7.toInt := i_le.mp c1
        refine lv_aload_n hx hb dX4_readCondition_88 rfl (lv_at hl 3 rfl) ?_
        refine q_grS (T := TX4) C S_7.1 ga0 0 kF_X4_39 dX4_readCondition_89 rfl rfl (by decide) rfl (by decide) kSF_X4_tape (fun g2 => ?_)
        refine callV_Ei C S_7 (c_X9_refuse l D G (fR D H_7 4 a0 0) g2) kV_X4_43 g2 (trivial) (by decide +kernel) dX4_readCondition_92 hl.1 rfl rfl (by decide) cd_X9_refuse ⟨Nat.le_of_ble_eq_true rfl, Nat.le_of_ble_eq_true rfl, Nat.le_of_ble_eq_true rfl, Nat.le_of_ble_eq_true rfl, Nat.le_of_ble_eq_true rfl⟩ (fun v3 H3 L3 S3 K3 q3 => ?_)
        have tk3 : Lw D s.heap H3 a0 := u7_0.trans (Lw.keep S_7.1 ga0 K3 (by decide +kernel) (by decide +kernel) (by decide +kernel))
        exact retE_z hQ C S3 hr dX4_readCondition_95 (z01 (by omega) (by omega)) (⟨by omega, tk3⟩)
      · have b1 : ¬ (400 : Int32).toInt ≤ x4_7.toInt := fun z9 => c1 (i_le.mpr z9)
        refine lv_aload_n hx hb dX4_readCondition_15 rfl (lv_at hl 3 rfl) ?_
        refine lv_iload_n hx hb dX4_readCondition_16 rfl (lv_at hl 4 rfl) ?_
        refine callV_Ei C S_7 (c_X4_readAtom_d5 l D G a0 x1 ga0 (by omega)) kV_X4_75 ga0 (trivial) (by decide +kernel) dX4_readCondition_17 hl.1 rfl rfl (by decide) cd_X4_readAtom ⟨Nat.le_of_ble_eq_true rfl, Nat.le_of_ble_eq_true rfl, Nat.le_of_ble_eq_true rfl, Nat.le_of_ble_eq_true rfl, Nat.le_of_ble_eq_true rfl⟩ (fun v4 H4 L4 S4 K4 q4 => ?_)
        obtain ⟨q4, tq4⟩ := q4
        have tk4 : Lw D s.heap H4 a0 := u7_0.trans tq4
        have k_0 : (0 : Int32).toInt = 0 := by decide
        refine lv_if_ne (tgt := 25) hx hb dX4_readCondition_20 (by decide) (fun c5 => ?_) (fun c5 => ?_)
        · have b5 : ¬ v4.toInt = (0 : Int32).toInt := fun z9 => c5 (i_eq.mpr z9)
          refine lv_iload_n hx hb dX4_readCondition_25 rfl (lv_at hl 1 rfl) ?_
          refine lv_if_eq (tgt := 35) hx hb dX4_readCondition_26 (by decide) (fun c6 => ?_) (fun c6 => ?_)
          · have b6 : x3_7.toInt = (0 : Int32).toInt := i_eq.mp c6
            refine lv_aload_n hx hb dX4_readCondition_35 rfl (lv_at hl 3 rfl) ?_
            refine q_grS (T := TX4) C S4.1 ga0 0 kF_X4_39 dX4_readCondition_36 rfl rfl (by decide) rfl (by decide) kSF_X4_tape (fun g7 => ?_)
            refine q_lds C ks_X4_78 dX4_readCondition_39 (fun a8 ha8 => ?_)
            refine callV_Pi C S4.1 S4.2.1.2.1 (c_X9_isWord l D G (fR D H4 4 a0 0) a8 3 g7 ha8) kV_X4_61 g7 (trivial) dX4_readCondition_41 hl.1 rfl rfl (by decide) cd_X9_isWord ⟨Nat.le_of_ble_eq_true rfl, Nat.le_of_ble_eq_true rfl, Nat.le_of_ble_eq_true rfl, Nat.le_of_ble_eq_true rfl, Nat.le_of_ble_eq_true rfl⟩ (fun v9 q9 => ?_)
            refine lv_istore_n (lv' := [(3, .int v9), (4, .int x4_7), (2, .int x2_7), (0, .ref a0), (1, .int x1)]) hx hb dX4_readCondition_44 rfl hl (by decide) rfl (fun ls hl => ?_)
            refine lv_iload_n hx hb dX4_readCondition_45 rfl (lv_at hl 0 rfl) ?_
            refine lv_if_ne (tgt := 75) hx hb dX4_readCondition_46 (by decide) (fun c10 => ?_) (fun c10 => ?_)
            · have b10 : ¬ v9.toInt = (0 : Int32).toInt := fun z9 => c10 (i_eq.mpr z9)
              refine lv_aload_n hx hb dX4_readCondition_75 rfl (lv_at hl 3 rfl) ?_
              refine q_grS (T := TX4) C S4.1 ga0 0 kF_X4_39 dX4_readCondition_76 rfl rfl (by decide) rfl (by decide) kSF_X4_tape (fun g11 => ?_)
              refine callV_Ev C S4 (c_X9_next l D G (fR D H4 4 a0 0) g11) kV_X4_47 g11 (trivial) (by decide +kernel) dX4_readCondition_79 hl.1 rfl rfl (by decide) cd_X9_next ⟨Nat.le_of_ble_eq_true rfl, Nat.le_of_ble_eq_true rfl, Nat.le_of_ble_eq_true rfl, Nat.le_of_ble_eq_true rfl, Nat.le_of_ble_eq_true rfl⟩ (fun H12 L12 S12 K12 q12 => ?_)
              have tk12 : Lw D s.heap H12 a0 := tk4.trans (Lw.keep S4.1 ga0 K12 (by decide +kernel) (by decide +kernel) (by decide +kernel))
              obtain ⟨v13, ev13⟩ : ∃ y : Int32, y = x4_7 + (1) := ⟨_, rfl⟩
              have k_1 : (1 : Int32).toInt = 1 := by decide
              have f14 : v13.toInt = x4_7.toInt + (1) := by rw [ev13]; exact i_addc k_1 (by omega) (by omega)
              refine lv_iinc (v := v13) (lv' := [(4, .int v13), (3, .int v9), (2, .int x2_7), (0, .ref a0), (1, .int x1)]) hx hb dX4_readCondition_82 hl (k := 1) rfl (by rw [ev13]; rfl) (by decide) rfl (fun ls hl => ?_)
              refine lv_goto (tgt := 7) hx hb dX4_readCondition_85 (by decide) ?_
              exact ih7 v13 v9 x2_7 H12 L12 ls S12 (by omega) (by omega) (by omega) tk12 (by omega) (lv_sub hl [0, 1, 2, 3, 4] rfl)
            · have b10 : v9.toInt = (0 : Int32).toInt := i_eq.mp c10
              refine lv_iload_n hx hb dX4_readCondition_49 rfl (lv_at hl 2 rfl) ?_
              refine lv_if_eq (tgt := 59) hx hb dX4_readCondition_50 (by decide) (fun c15 => ?_) (fun c15 => ?_)
              · have b15 : x2_7.toInt = (0 : Int32).toInt := i_eq.mp c15
                refine lv_aload_n hx hb dX4_readCondition_59 rfl (lv_at hl 3 rfl) ?_
                refine q_grS (T := TX4) C S4.1 ga0 0 kF_X4_39 dX4_readCondition_60 rfl rfl (by decide) rfl (by decide) kSF_X4_tape (fun g16 => ?_)
                refine q_lds C ks_X4_80 dX4_readCondition_63 (fun a17 ha17 => ?_)
                refine callV_Pi C S4.1 S4.2.1.2.1 (c_X9_isWord l D G (fR D H4 4 a0 0) a17 2 g16 ha17) kV_X4_61 g16 (trivial) dX4_readCondition_65 hl.1 rfl rfl (by decide) cd_X9_isWord ⟨Nat.le_of_ble_eq_true rfl, Nat.le_of_ble_eq_true rfl, Nat.le_of_ble_eq_true rfl, Nat.le_of_ble_eq_true rfl, Nat.le_of_ble_eq_true rfl⟩ (fun v18 q18 => ?_)
                refine lv_istore_n (lv' := [(2, .int v18), (3, .int v9), (4, .int x4_7), (0, .ref a0), (1, .int x1)]) hx hb dX4_readCondition_68 rfl hl (by decide) rfl (fun ls hl => ?_)
                refine lv_iload_n hx hb dX4_readCondition_69 rfl (lv_at hl 0 rfl) ?_
                refine lv_if_ne (tgt := 75) hx hb dX4_readCondition_70 (by decide) (fun c19 => ?_) (fun c19 => ?_)
                · have b19 : ¬ v18.toInt = (0 : Int32).toInt := fun z9 => c19 (i_eq.mpr z9)
                  refine lv_aload_n hx hb dX4_readCondition_75 rfl (lv_at hl 3 rfl) ?_
                  refine q_grS (T := TX4) C S4.1 ga0 0 kF_X4_39 dX4_readCondition_76 rfl rfl (by decide) rfl (by decide) kSF_X4_tape (fun g20 => ?_)
                  refine callV_Ev C S4 (c_X9_next l D G (fR D H4 4 a0 0) g20) kV_X4_47 g20 (trivial) (by decide +kernel) dX4_readCondition_79 hl.1 rfl rfl (by decide) cd_X9_next ⟨Nat.le_of_ble_eq_true rfl, Nat.le_of_ble_eq_true rfl, Nat.le_of_ble_eq_true rfl, Nat.le_of_ble_eq_true rfl, Nat.le_of_ble_eq_true rfl⟩ (fun H21 L21 S21 K21 q21 => ?_)
                  have tk21 : Lw D s.heap H21 a0 := tk4.trans (Lw.keep S4.1 ga0 K21 (by decide +kernel) (by decide +kernel) (by decide +kernel))
                  obtain ⟨v22, ev22⟩ : ∃ y : Int32, y = x4_7 + (1) := ⟨_, rfl⟩
                  have k_1 : (1 : Int32).toInt = 1 := by decide
                  have f23 : v22.toInt = x4_7.toInt + (1) := by rw [ev22]; exact i_addc k_1 (by omega) (by omega)
                  refine lv_iinc (v := v22) (lv' := [(4, .int v22), (2, .int v18), (3, .int v9), (0, .ref a0), (1, .int x1)]) hx hb dX4_readCondition_82 hl (k := 2) rfl (by rw [ev22]; rfl) (by decide) rfl (fun ls hl => ?_)
                  refine lv_goto (tgt := 7) hx hb dX4_readCondition_85 (by decide) ?_
                  exact ih7 v22 v9 v18 H21 L21 ls S21 (by omega) (by omega) (by omega) tk21 (by omega) (lv_sub hl [0, 2, 1, 3, 4] rfl)
                · have b19 : v18.toInt = (0 : Int32).toInt := i_eq.mp c19
                  refine lv_iconst (v := 1) hx hb dX4_readCondition_73 (by decide) ?_
                  have k_1 : (1 : Int32).toInt = 1 := by decide
                  exact retE_z hQ C S4 hr dX4_readCondition_74 (z01 (by omega) (by omega)) (⟨by omega, tk4⟩)
              · have b15 : ¬ x2_7.toInt = (0 : Int32).toInt := fun z9 => c15 (i_eq.mpr z9)
                refine lv_aload_n hx hb dX4_readCondition_53 rfl (lv_at hl 3 rfl) ?_
                refine lv_bipush (v := -18) hx hb dX4_readCondition_54 (by decide) ?_
                have k_m18 : (-18 : Int32).toInt = -18 := by decide
                refine callV_Ev C S4 (c_X4_put l D G a0 (-18 : Int32) ga0) kV_X4_55 ga0 (trivial) (by decide +kernel) dX4_readCondition_56 hl.1 rfl rfl (by decide) cd_X4_put ⟨Nat.le_of_ble_eq_true rfl, Nat.le_of_ble_eq_true rfl, Nat.le_of_ble_eq_true rfl, Nat.le_of_ble_eq_true rfl, Nat.le_of_ble_eq_true rfl⟩ (fun H24 L24 S24 K24 q24 => ?_)
                obtain ⟨qa24, qb24, tq24⟩ := q24
                have tk24 : Lw D s.heap H24 a0 := tk4.trans tq24
                refine lv_aload_n hx hb dX4_readCondition_59 rfl (lv_at hl 3 rfl) ?_
                refine q_grS (T := TX4) C S24.1 ga0 0 kF_X4_39 dX4_readCondition_60 rfl rfl (by decide) rfl (by decide) kSF_X4_tape (fun g25 => ?_)
                refine q_lds C ks_X4_80 dX4_readCondition_63 (fun a26 ha26 => ?_)
                refine callV_Pi C S24.1 S24.2.1.2.1 (c_X9_isWord l D G (fR D H24 4 a0 0) a26 2 g25 ha26) kV_X4_61 g25 (trivial) dX4_readCondition_65 hl.1 rfl rfl (by decide) cd_X9_isWord ⟨Nat.le_of_ble_eq_true rfl, Nat.le_of_ble_eq_true rfl, Nat.le_of_ble_eq_true rfl, Nat.le_of_ble_eq_true rfl, Nat.le_of_ble_eq_true rfl⟩ (fun v27 q27 => ?_)
                refine lv_istore_n (lv' := [(2, .int v27), (3, .int v9), (4, .int x4_7), (0, .ref a0), (1, .int x1)]) hx hb dX4_readCondition_68 rfl hl (by decide) rfl (fun ls hl => ?_)
                refine lv_iload_n hx hb dX4_readCondition_69 rfl (lv_at hl 0 rfl) ?_
                refine lv_if_ne (tgt := 75) hx hb dX4_readCondition_70 (by decide) (fun c28 => ?_) (fun c28 => ?_)
                · have b28 : ¬ v27.toInt = (0 : Int32).toInt := fun z9 => c28 (i_eq.mpr z9)
                  refine lv_aload_n hx hb dX4_readCondition_75 rfl (lv_at hl 3 rfl) ?_
                  refine q_grS (T := TX4) C S24.1 ga0 0 kF_X4_39 dX4_readCondition_76 rfl rfl (by decide) rfl (by decide) kSF_X4_tape (fun g29 => ?_)
                  refine callV_Ev C S24 (c_X9_next l D G (fR D H24 4 a0 0) g29) kV_X4_47 g29 (trivial) (by decide +kernel) dX4_readCondition_79 hl.1 rfl rfl (by decide) cd_X9_next ⟨Nat.le_of_ble_eq_true rfl, Nat.le_of_ble_eq_true rfl, Nat.le_of_ble_eq_true rfl, Nat.le_of_ble_eq_true rfl, Nat.le_of_ble_eq_true rfl⟩ (fun H30 L30 S30 K30 q30 => ?_)
                  have tk30 : Lw D s.heap H30 a0 := tk24.trans (Lw.keep S24.1 ga0 K30 (by decide +kernel) (by decide +kernel) (by decide +kernel))
                  obtain ⟨v31, ev31⟩ : ∃ y : Int32, y = x4_7 + (1) := ⟨_, rfl⟩
                  have k_1 : (1 : Int32).toInt = 1 := by decide
                  have f32 : v31.toInt = x4_7.toInt + (1) := by rw [ev31]; exact i_addc k_1 (by omega) (by omega)
                  refine lv_iinc (v := v31) (lv' := [(4, .int v31), (2, .int v27), (3, .int v9), (0, .ref a0), (1, .int x1)]) hx hb dX4_readCondition_82 hl (k := 2) rfl (by rw [ev31]; rfl) (by decide) rfl (fun ls hl => ?_)
                  refine lv_goto (tgt := 7) hx hb dX4_readCondition_85 (by decide) ?_
                  exact ih7 v31 v9 v27 H30 L30 ls S30 (by omega) (by omega) (by omega) tk30 (by omega) (lv_sub hl [0, 2, 1, 3, 4] rfl)
                · have b28 : v27.toInt = (0 : Int32).toInt := i_eq.mp c28
                  refine lv_iconst (v := 1) hx hb dX4_readCondition_73 (by decide) ?_
                  have k_1 : (1 : Int32).toInt = 1 := by decide
                  exact retE_z hQ C S24 hr dX4_readCondition_74 (z01 (by omega) (by omega)) (⟨by omega, tk24⟩)
          · have b6 : ¬ x3_7.toInt = (0 : Int32).toInt := fun z9 => c6 (i_eq.mpr z9)
            refine lv_aload_n hx hb dX4_readCondition_29 rfl (lv_at hl 3 rfl) ?_
            refine lv_bipush (v := -17) hx hb dX4_readCondition_30 (by decide) ?_
            have k_m17 : (-17 : Int32).toInt = -17 := by decide
            refine callV_Ev C S4 (c_X4_put l D G a0 (-17 : Int32) ga0) kV_X4_55 ga0 (trivial) (by decide +kernel) dX4_readCondition_32 hl.1 rfl rfl (by decide) cd_X4_put ⟨Nat.le_of_ble_eq_true rfl, Nat.le_of_ble_eq_true rfl, Nat.le_of_ble_eq_true rfl, Nat.le_of_ble_eq_true rfl, Nat.le_of_ble_eq_true rfl⟩ (fun H33 L33 S33 K33 q33 => ?_)
            obtain ⟨qa33, qb33, tq33⟩ := q33
            have tk33 : Lw D s.heap H33 a0 := tk4.trans tq33
            refine lv_aload_n hx hb dX4_readCondition_35 rfl (lv_at hl 3 rfl) ?_
            refine q_grS (T := TX4) C S33.1 ga0 0 kF_X4_39 dX4_readCondition_36 rfl rfl (by decide) rfl (by decide) kSF_X4_tape (fun g34 => ?_)
            refine q_lds C ks_X4_78 dX4_readCondition_39 (fun a35 ha35 => ?_)
            refine callV_Pi C S33.1 S33.2.1.2.1 (c_X9_isWord l D G (fR D H33 4 a0 0) a35 3 g34 ha35) kV_X4_61 g34 (trivial) dX4_readCondition_41 hl.1 rfl rfl (by decide) cd_X9_isWord ⟨Nat.le_of_ble_eq_true rfl, Nat.le_of_ble_eq_true rfl, Nat.le_of_ble_eq_true rfl, Nat.le_of_ble_eq_true rfl, Nat.le_of_ble_eq_true rfl⟩ (fun v36 q36 => ?_)
            refine lv_istore_n (lv' := [(3, .int v36), (4, .int x4_7), (2, .int x2_7), (0, .ref a0), (1, .int x1)]) hx hb dX4_readCondition_44 rfl hl (by decide) rfl (fun ls hl => ?_)
            refine lv_iload_n hx hb dX4_readCondition_45 rfl (lv_at hl 0 rfl) ?_
            refine lv_if_ne (tgt := 75) hx hb dX4_readCondition_46 (by decide) (fun c37 => ?_) (fun c37 => ?_)
            · have b37 : ¬ v36.toInt = (0 : Int32).toInt := fun z9 => c37 (i_eq.mpr z9)
              refine lv_aload_n hx hb dX4_readCondition_75 rfl (lv_at hl 3 rfl) ?_
              refine q_grS (T := TX4) C S33.1 ga0 0 kF_X4_39 dX4_readCondition_76 rfl rfl (by decide) rfl (by decide) kSF_X4_tape (fun g38 => ?_)
              refine callV_Ev C S33 (c_X9_next l D G (fR D H33 4 a0 0) g38) kV_X4_47 g38 (trivial) (by decide +kernel) dX4_readCondition_79 hl.1 rfl rfl (by decide) cd_X9_next ⟨Nat.le_of_ble_eq_true rfl, Nat.le_of_ble_eq_true rfl, Nat.le_of_ble_eq_true rfl, Nat.le_of_ble_eq_true rfl, Nat.le_of_ble_eq_true rfl⟩ (fun H39 L39 S39 K39 q39 => ?_)
              have tk39 : Lw D s.heap H39 a0 := tk33.trans (Lw.keep S33.1 ga0 K39 (by decide +kernel) (by decide +kernel) (by decide +kernel))
              obtain ⟨v40, ev40⟩ : ∃ y : Int32, y = x4_7 + (1) := ⟨_, rfl⟩
              have k_1 : (1 : Int32).toInt = 1 := by decide
              have f41 : v40.toInt = x4_7.toInt + (1) := by rw [ev40]; exact i_addc k_1 (by omega) (by omega)
              refine lv_iinc (v := v40) (lv' := [(4, .int v40), (3, .int v36), (2, .int x2_7), (0, .ref a0), (1, .int x1)]) hx hb dX4_readCondition_82 hl (k := 1) rfl (by rw [ev40]; rfl) (by decide) rfl (fun ls hl => ?_)
              refine lv_goto (tgt := 7) hx hb dX4_readCondition_85 (by decide) ?_
              exact ih7 v40 v36 x2_7 H39 L39 ls S39 (by omega) (by omega) (by omega) tk39 (by omega) (lv_sub hl [0, 1, 2, 3, 4] rfl)
            · have b37 : v36.toInt = (0 : Int32).toInt := i_eq.mp c37
              refine lv_iload_n hx hb dX4_readCondition_49 rfl (lv_at hl 2 rfl) ?_
              refine lv_if_eq (tgt := 59) hx hb dX4_readCondition_50 (by decide) (fun c42 => ?_) (fun c42 => ?_)
              · have b42 : x2_7.toInt = (0 : Int32).toInt := i_eq.mp c42
                refine lv_aload_n hx hb dX4_readCondition_59 rfl (lv_at hl 3 rfl) ?_
                refine q_grS (T := TX4) C S33.1 ga0 0 kF_X4_39 dX4_readCondition_60 rfl rfl (by decide) rfl (by decide) kSF_X4_tape (fun g43 => ?_)
                refine q_lds C ks_X4_80 dX4_readCondition_63 (fun a44 ha44 => ?_)
                refine callV_Pi C S33.1 S33.2.1.2.1 (c_X9_isWord l D G (fR D H33 4 a0 0) a44 2 g43 ha44) kV_X4_61 g43 (trivial) dX4_readCondition_65 hl.1 rfl rfl (by decide) cd_X9_isWord ⟨Nat.le_of_ble_eq_true rfl, Nat.le_of_ble_eq_true rfl, Nat.le_of_ble_eq_true rfl, Nat.le_of_ble_eq_true rfl, Nat.le_of_ble_eq_true rfl⟩ (fun v45 q45 => ?_)
                refine lv_istore_n (lv' := [(2, .int v45), (3, .int v36), (4, .int x4_7), (0, .ref a0), (1, .int x1)]) hx hb dX4_readCondition_68 rfl hl (by decide) rfl (fun ls hl => ?_)
                refine lv_iload_n hx hb dX4_readCondition_69 rfl (lv_at hl 0 rfl) ?_
                refine lv_if_ne (tgt := 75) hx hb dX4_readCondition_70 (by decide) (fun c46 => ?_) (fun c46 => ?_)
                · have b46 : ¬ v45.toInt = (0 : Int32).toInt := fun z9 => c46 (i_eq.mpr z9)
                  refine lv_aload_n hx hb dX4_readCondition_75 rfl (lv_at hl 3 rfl) ?_
                  refine q_grS (T := TX4) C S33.1 ga0 0 kF_X4_39 dX4_readCondition_76 rfl rfl (by decide) rfl (by decide) kSF_X4_tape (fun g47 => ?_)
                  refine callV_Ev C S33 (c_X9_next l D G (fR D H33 4 a0 0) g47) kV_X4_47 g47 (trivial) (by decide +kernel) dX4_readCondition_79 hl.1 rfl rfl (by decide) cd_X9_next ⟨Nat.le_of_ble_eq_true rfl, Nat.le_of_ble_eq_true rfl, Nat.le_of_ble_eq_true rfl, Nat.le_of_ble_eq_true rfl, Nat.le_of_ble_eq_true rfl⟩ (fun H48 L48 S48 K48 q48 => ?_)
                  have tk48 : Lw D s.heap H48 a0 := tk33.trans (Lw.keep S33.1 ga0 K48 (by decide +kernel) (by decide +kernel) (by decide +kernel))
                  obtain ⟨v49, ev49⟩ : ∃ y : Int32, y = x4_7 + (1) := ⟨_, rfl⟩
                  have k_1 : (1 : Int32).toInt = 1 := by decide
                  have f50 : v49.toInt = x4_7.toInt + (1) := by rw [ev49]; exact i_addc k_1 (by omega) (by omega)
                  refine lv_iinc (v := v49) (lv' := [(4, .int v49), (2, .int v45), (3, .int v36), (0, .ref a0), (1, .int x1)]) hx hb dX4_readCondition_82 hl (k := 2) rfl (by rw [ev49]; rfl) (by decide) rfl (fun ls hl => ?_)
                  refine lv_goto (tgt := 7) hx hb dX4_readCondition_85 (by decide) ?_
                  exact ih7 v49 v36 v45 H48 L48 ls S48 (by omega) (by omega) (by omega) tk48 (by omega) (lv_sub hl [0, 2, 1, 3, 4] rfl)
                · have b46 : v45.toInt = (0 : Int32).toInt := i_eq.mp c46
                  refine lv_iconst (v := 1) hx hb dX4_readCondition_73 (by decide) ?_
                  have k_1 : (1 : Int32).toInt = 1 := by decide
                  exact retE_z hQ C S33 hr dX4_readCondition_74 (z01 (by omega) (by omega)) (⟨by omega, tk33⟩)
              · have b42 : ¬ x2_7.toInt = (0 : Int32).toInt := fun z9 => c42 (i_eq.mpr z9)
                refine lv_aload_n hx hb dX4_readCondition_53 rfl (lv_at hl 3 rfl) ?_
                refine lv_bipush (v := -18) hx hb dX4_readCondition_54 (by decide) ?_
                have k_m18 : (-18 : Int32).toInt = -18 := by decide
                refine callV_Ev C S33 (c_X4_put l D G a0 (-18 : Int32) ga0) kV_X4_55 ga0 (trivial) (by decide +kernel) dX4_readCondition_56 hl.1 rfl rfl (by decide) cd_X4_put ⟨Nat.le_of_ble_eq_true rfl, Nat.le_of_ble_eq_true rfl, Nat.le_of_ble_eq_true rfl, Nat.le_of_ble_eq_true rfl, Nat.le_of_ble_eq_true rfl⟩ (fun H51 L51 S51 K51 q51 => ?_)
                obtain ⟨qa51, qb51, tq51⟩ := q51
                have tk51 : Lw D s.heap H51 a0 := tk33.trans tq51
                refine lv_aload_n hx hb dX4_readCondition_59 rfl (lv_at hl 3 rfl) ?_
                refine q_grS (T := TX4) C S51.1 ga0 0 kF_X4_39 dX4_readCondition_60 rfl rfl (by decide) rfl (by decide) kSF_X4_tape (fun g52 => ?_)
                refine q_lds C ks_X4_80 dX4_readCondition_63 (fun a53 ha53 => ?_)
                refine callV_Pi C S51.1 S51.2.1.2.1 (c_X9_isWord l D G (fR D H51 4 a0 0) a53 2 g52 ha53) kV_X4_61 g52 (trivial) dX4_readCondition_65 hl.1 rfl rfl (by decide) cd_X9_isWord ⟨Nat.le_of_ble_eq_true rfl, Nat.le_of_ble_eq_true rfl, Nat.le_of_ble_eq_true rfl, Nat.le_of_ble_eq_true rfl, Nat.le_of_ble_eq_true rfl⟩ (fun v54 q54 => ?_)
                refine lv_istore_n (lv' := [(2, .int v54), (3, .int v36), (4, .int x4_7), (0, .ref a0), (1, .int x1)]) hx hb dX4_readCondition_68 rfl hl (by decide) rfl (fun ls hl => ?_)
                refine lv_iload_n hx hb dX4_readCondition_69 rfl (lv_at hl 0 rfl) ?_
                refine lv_if_ne (tgt := 75) hx hb dX4_readCondition_70 (by decide) (fun c55 => ?_) (fun c55 => ?_)
                · have b55 : ¬ v54.toInt = (0 : Int32).toInt := fun z9 => c55 (i_eq.mpr z9)
                  refine lv_aload_n hx hb dX4_readCondition_75 rfl (lv_at hl 3 rfl) ?_
                  refine q_grS (T := TX4) C S51.1 ga0 0 kF_X4_39 dX4_readCondition_76 rfl rfl (by decide) rfl (by decide) kSF_X4_tape (fun g56 => ?_)
                  refine callV_Ev C S51 (c_X9_next l D G (fR D H51 4 a0 0) g56) kV_X4_47 g56 (trivial) (by decide +kernel) dX4_readCondition_79 hl.1 rfl rfl (by decide) cd_X9_next ⟨Nat.le_of_ble_eq_true rfl, Nat.le_of_ble_eq_true rfl, Nat.le_of_ble_eq_true rfl, Nat.le_of_ble_eq_true rfl, Nat.le_of_ble_eq_true rfl⟩ (fun H57 L57 S57 K57 q57 => ?_)
                  have tk57 : Lw D s.heap H57 a0 := tk51.trans (Lw.keep S51.1 ga0 K57 (by decide +kernel) (by decide +kernel) (by decide +kernel))
                  obtain ⟨v58, ev58⟩ : ∃ y : Int32, y = x4_7 + (1) := ⟨_, rfl⟩
                  have k_1 : (1 : Int32).toInt = 1 := by decide
                  have f59 : v58.toInt = x4_7.toInt + (1) := by rw [ev58]; exact i_addc k_1 (by omega) (by omega)
                  refine lv_iinc (v := v58) (lv' := [(4, .int v58), (2, .int v54), (3, .int v36), (0, .ref a0), (1, .int x1)]) hx hb dX4_readCondition_82 hl (k := 2) rfl (by rw [ev58]; rfl) (by decide) rfl (fun ls hl => ?_)
                  refine lv_goto (tgt := 7) hx hb dX4_readCondition_85 (by decide) ?_
                  exact ih7 v58 v36 v54 H57 L57 ls S57 (by omega) (by omega) (by omega) tk57 (by omega) (lv_sub hl [0, 2, 1, 3, 4] rfl)
                · have b55 : v54.toInt = (0 : Int32).toInt := i_eq.mp c55
                  refine lv_iconst (v := 1) hx hb dX4_readCondition_73 (by decide) ?_
                  have k_1 : (1 : Int32).toInt = 1 := by decide
                  exact retE_z hQ C S51 hr dX4_readCondition_74 (z01 (by omega) (by omega)) (⟨by omega, tk51⟩)
        · have b5 : v4.toInt = (0 : Int32).toInt := i_eq.mp c5
          refine lv_iconst (v := 0) hx hb dX4_readCondition_23 (by decide) ?_
          exact retE_z hQ C S4 hr dX4_readCondition_24 (z01 (by omega) (by omega)) (⟨by omega, tk4⟩)
  have k_0 : (0 : Int32).toInt = 0 := by decide
  exact Lp7 2147483648 (0 : Int32) (0 : Int32) (0 : Int32) s.heap [] ls S (by omega) (by omega) (by omega) tk0  (by omega) (lv_sub hl [0, 1, 2, 3, 4] rfl)

set_option maxRecDepth 100000 in
set_option maxHeartbeats 4000000 in
theorem c_X4_readAtom_d4 (l : Launch) (D : DD) (G : Nat → Nat) (a0 : Nat) (x1 : Int32) (ga0 : G a0 = 21) (ix1 : 4 ≤ x1.toInt ∧ x1.toInt ≤ 4) : CE l D G yX4_readAtom cX4_readAtom 4 (some .boolean) 11 [.ref a0, .int x1] (fun _ => True) [(2, 3), (2, 4), (2, 5), (2, 6), (2, 2), (22, 0), (21, 3)] (xI (fun H r H1 => (0 ≤ r.toInt ∧ r.toInt ≤ 1) ∧ (Lw D H H1 a0))) := by
  refine enter (by decide) (Nat.le_of_ble_eq_true rfl) ?_
  intro p e s m args below meth c ls Q hA hQ C hr hO hpre hl
  have hx := C.1
  have hb := C.2.1
  have S : Sd D G [(2, 3), (2, 4), (2, 5), (2, 6), (2, 2), (22, 0), (21, 3)] s.heap s.heap [] := Sd.start hO
  have hl : lv_has ls 4 [(0, .ref a0), (1, .int x1)] := hl
  have tk0 : Lw D s.heap s.heap a0 := Lw.refl
  refine lv_aload_n hx hb dX4_readAtom_0 rfl (lv_at hl 0 rfl) ?_
  refine q_grS (T := TX4) C S.1 ga0 0 kF_X4_39 dX4_readAtom_1 rfl rfl (by decide) rfl (by decide) kSF_X4_tape (fun g1 => ?_)
  refine q_lds C ks_X4_82 dX4_readAtom_4 (fun a2 ha2 => ?_)
  refine callV_Pi C S.1 S.2.1.2.1 (c_X9_isWord l D G (fR D s.heap 4 a0 0) a2 3 g1 ha2) kV_X4_61 g1 (trivial) dX4_readAtom_6 hl.1 rfl rfl (by decide) cd_X9_isWord ⟨Nat.le_of_ble_eq_true rfl, Nat.le_of_ble_eq_true rfl, Nat.le_of_ble_eq_true rfl, Nat.le_of_ble_eq_true rfl, Nat.le_of_ble_eq_true rfl⟩ (fun v3 q3 => ?_)
  refine lv_istore_n (lv' := [(2, .int v3), (0, .ref a0), (1, .int x1)]) hx hb dX4_readAtom_9 rfl hl (by decide) rfl (fun ls hl => ?_)
  refine lv_iload_n hx hb dX4_readAtom_10 rfl (lv_at hl 0 rfl) ?_
  have k_0 : (0 : Int32).toInt = 0 := by decide
  refine lv_if_ne (tgt := 26) hx hb dX4_readAtom_11 (by decide) (fun c4 => ?_) (fun c4 => ?_)
  · have b4 : ¬ v3.toInt = (0 : Int32).toInt := fun z9 => c4 (i_eq.mpr z9)
    refine lv_iload_n hx hb dX4_readAtom_26 rfl (lv_at hl 2 rfl) ?_
    refine lv_bipush (v := 6) hx hb dX4_readAtom_27 (by decide) ?_
    have k_6 : (6 : Int32).toInt = 6 := by decide
    refine lv_icmp_lt (tgt := 40) hx hb dX4_readAtom_29 (by decide) (fun c5 => ?_) (fun c5 => ?_)
    · have b5 : x1.toInt < (6 : Int32).toInt := i_lt.mp c5
      refine lv_aload_n hx hb dX4_readAtom_40 rfl (lv_at hl 1 rfl) ?_
      refine q_grS (T := TX4) C S.1 ga0 0 kF_X4_39 dX4_readAtom_41 rfl rfl (by decide) rfl (by decide) kSF_X4_tape (fun g6 => ?_)
      refine callV_Ev C S (c_X9_next l D G (fR D s.heap 4 a0 0) g6) kV_X4_47 g6 (trivial) (by decide +kernel) dX4_readAtom_44 hl.1 rfl rfl (by decide) cd_X9_next ⟨Nat.le_of_ble_eq_true rfl, Nat.le_of_ble_eq_true rfl, Nat.le_of_ble_eq_true rfl, Nat.le_of_ble_eq_true rfl, Nat.le_of_ble_eq_true rfl⟩ (fun H7 L7 S7 K7 q7 => ?_)
      have tk7 : Lw D s.heap H7 a0 := tk0.trans (Lw.keep S.1 ga0 K7 (by decide +kernel) (by decide +kernel) (by decide +kernel))
      refine lv_iload_n hx hb dX4_readAtom_47 rfl (lv_at hl 0 rfl) ?_
      refine lv_if_ne (tgt := 79) hx hb dX4_readAtom_48 (by decide) (fun c8 => ?_) (fun c8 => ?_)
      · have b8 : ¬ v3.toInt = (0 : Int32).toInt := fun z9 => c8 (i_eq.mpr z9)
        refine lv_aload_n hx hb dX4_readAtom_79 rfl (lv_at hl 1 rfl) ?_
        refine lv_iload_n hx hb dX4_readAtom_80 rfl (lv_at hl 2 rfl) ?_
        refine lv_iconst (v := 1) hx hb dX4_readAtom_81 (by decide) ?_
        have k_1 : (1 : Int32).toInt = 1 := by decide
        refine lv_iadd hx hb dX4_readAtom_82 ?_
        refine lv_topi (fun v9 ev9 => ?_)
        have f10 : v9.toInt = x1.toInt + (1 : Int32).toInt := by rw [ev9]; exact i_add (by omega) (by omega)
        refine callV_Ei C S7 (c_X4_readAtom_d5 l D G a0 v9 ga0 (by omega)) kV_X4_75 ga0 (trivial) (by decide +kernel) dX4_readAtom_83 hl.1 rfl rfl (by decide) cd_X4_readAtom ⟨Nat.le_of_ble_eq_true rfl, Nat.le_of_ble_eq_true rfl, Nat.le_of_ble_eq_true rfl, Nat.le_of_ble_eq_true rfl, Nat.le_of_ble_eq_true rfl⟩ (fun v11 H11 L11 S11 K11 q11 => ?_)
        obtain ⟨q11, tq11⟩ := q11
        have tk11 : Lw D s.heap H11 a0 := tk7.trans tq11
        refine lv_if_ne (tgt := 91) hx hb dX4_readAtom_86 (by decide) (fun c12 => ?_) (fun c12 => ?_)
        · have b12 : ¬ v11.toInt = (0 : Int32).toInt := fun z9 => c12 (i_eq.mpr z9)
          refine lv_aload_n hx hb dX4_readAtom_91 rfl (lv_at hl 1 rfl) ?_
          refine lv_bipush (v := -13) hx hb dX4_readAtom_92 (by decide) ?_
          have k_m13 : (-13 : Int32).toInt = -13 := by decide
          refine callV_Ev C S11 (c_X4_put l D G a0 (-13 : Int32) ga0) kV_X4_55 ga0 (trivial) (by decide +kernel) dX4_readAtom_94 hl.1 rfl rfl (by decide) cd_X4_put ⟨Nat.le_of_ble_eq_true rfl, Nat.le_of_ble_eq_true rfl, Nat.le_of_ble_eq_true rfl, Nat.le_of_ble_eq_true rfl, Nat.le_of_ble_eq_true rfl⟩ (fun H13 L13 S13 K13 q13 => ?_)
          obtain ⟨qa13, qb13, tq13⟩ := q13
          have tk13 : Lw D s.heap H13 a0 := tk11.trans tq13
          refine lv_iconst (v := 1) hx hb dX4_readAtom_97 (by decide) ?_
          exact retE_z hQ C S13 hr dX4_readAtom_98 (z01 (by omega) (by omega)) (⟨by omega, tk13⟩)
        · have b12 : v11.toInt = (0 : Int32).toInt := i_eq.mp c12
          refine lv_iconst (v := 0) hx hb dX4_readAtom_89 (by decide) ?_
          exact retE_z hQ C S11 hr dX4_readAtom_90 (z01 (by omega) (by omega)) (⟨by omega, tk11⟩)
      · have b8 : v3.toInt = (0 : Int32).toInt := i_eq.mp c8
        exact absurd b8 (by omega)
    · have b5 : ¬ x1.toInt < (6 : Int32).toInt := fun z9 => c5 (i_lt.mpr z9)
      exact absurd b5 (by omega)
  · have b4 : v3.toInt = (0 : Int32).toInt := i_eq.mp c4
    refine lv_aload_n hx hb dX4_readAtom_14 rfl (lv_at hl 1 rfl) ?_
    refine q_grS (T := TX4) C S.1 ga0 0 kF_X4_39 dX4_readAtom_15 rfl rfl (by decide) rfl (by decide) kSF_X4_tape (fun g14 => ?_)
    refine lv_bipush (v := 40) hx hb dX4_readAtom_18 (by decide) ?_
    have k_40 : (40 : Int32).toInt = 40 := by decide
    refine callV_Pi C S.1 S.2.1.2.1 (c_X9_isSign l D G (fR D s.heap 4 a0 0) (40 : Int32) g14) kV_X4_84 g14 (trivial) dX4_readAtom_20 hl.1 rfl rfl (by decide) cd_X9_isSign ⟨Nat.le_of_ble_eq_true rfl, Nat.le_of_ble_eq_true rfl, Nat.le_of_ble_eq_true rfl, Nat.le_of_ble_eq_true rfl, Nat.le_of_ble_eq_true rfl⟩ (fun v15 q15 => ?_)
    refine lv_if_eq (tgt := 99) hx hb dX4_readAtom_23 (by decide) (fun c16 => ?_) (fun c16 => ?_)
    · have b16 : v15.toInt = (0 : Int32).toInt := i_eq.mp c16
      refine lv_aload_n hx hb dX4_readAtom_99 rfl (lv_at hl 1 rfl) ?_
      refine callV_Pi C S.1 S.2.1.2.1 (c_X4_presentTruth l D G a0 ga0) kV_X4_91 ga0 (trivial) dX4_readAtom_100 hl.1 rfl rfl (by decide) cd_X4_presentTruth ⟨Nat.le_of_ble_eq_true rfl, Nat.le_of_ble_eq_true rfl, Nat.le_of_ble_eq_true rfl, Nat.le_of_ble_eq_true rfl, Nat.le_of_ble_eq_true rfl⟩ (fun v17 q17 => ?_)
      refine lv_istore_n (lv' := [(3, .int v17), (2, .int v3), (0, .ref a0), (1, .int x1)]) hx hb dX4_readAtom_103 rfl hl (by decide) rfl (fun ls hl => ?_)
      refine lv_iload_n hx hb dX4_readAtom_104 rfl (lv_at hl 0 rfl) ?_
      refine lv_iconst (v := -1) hx hb dX4_readAtom_105 (by decide) ?_
      have k_m1 : (-1 : Int32).toInt = -1 := by decide
      refine lv_icmp_ne (tgt := 114) hx hb dX4_readAtom_106 (by decide) (fun c18 => ?_) (fun c18 => ?_)
      · have b18 : ¬ v17.toInt = (-1 : Int32).toInt := fun z9 => c18 (i_eq.mpr z9)
        refine lv_aload_n hx hb dX4_readAtom_114 rfl (lv_at hl 2 rfl) ?_
        refine lv_iload_n hx hb dX4_readAtom_115 rfl (lv_at hl 0 rfl) ?_
        refine callV_Ev C S (c_X4_put l D G a0 v17 ga0) kV_X4_55 ga0 (trivial) (by decide +kernel) dX4_readAtom_116 hl.1 rfl rfl (by decide) cd_X4_put ⟨Nat.le_of_ble_eq_true rfl, Nat.le_of_ble_eq_true rfl, Nat.le_of_ble_eq_true rfl, Nat.le_of_ble_eq_true rfl, Nat.le_of_ble_eq_true rfl⟩ (fun H19 L19 S19 K19 q19 => ?_)
        obtain ⟨qa19, qb19, tq19⟩ := q19
        have tk19 : Lw D s.heap H19 a0 := tk0.trans tq19
        refine lv_aload_n hx hb dX4_readAtom_119 rfl (lv_at hl 2 rfl) ?_
        refine q_grS (T := TX4) C S19.1 ga0 0 kF_X4_39 dX4_readAtom_120 rfl rfl (by decide) rfl (by decide) kSF_X4_tape (fun g20 => ?_)
        refine callV_Ev C S19 (c_X9_next l D G (fR D H19 4 a0 0) g20) kV_X4_47 g20 (trivial) (by decide +kernel) dX4_readAtom_123 hl.1 rfl rfl (by decide) cd_X9_next ⟨Nat.le_of_ble_eq_true rfl, Nat.le_of_ble_eq_true rfl, Nat.le_of_ble_eq_true rfl, Nat.le_of_ble_eq_true rfl, Nat.le_of_ble_eq_true rfl⟩ (fun H21 L21 S21 K21 q21 => ?_)
        have tk21 : Lw D s.heap H21 a0 := tk19.trans (Lw.keep S19.1 ga0 K21 (by decide +kernel) (by decide +kernel) (by decide +kernel))
        refine lv_iconst (v := 1) hx hb dX4_readAtom_126 (by decide) ?_
        have k_1 : (1 : Int32).toInt = 1 := by decide
        exact retE_z hQ C S21 hr dX4_readAtom_127 (z01 (by omega) (by omega)) (⟨by omega, tk21⟩)
      · have b18 : v17.toInt = (-1 : Int32).toInt := i_eq.mp c18
        refine lv_aload_n hx hb dX4_readAtom_109 rfl (lv_at hl 2 rfl) ?_
        refine callV_Ei C S (c_X4_readComparison l D G a0 ga0) kV_X4_94 ga0 (trivial) (by decide +kernel) dX4_readAtom_110 hl.1 rfl rfl (by decide) cd_X4_readComparison ⟨Nat.le_of_ble_eq_true rfl, Nat.le_of_ble_eq_true rfl, Nat.le_of_ble_eq_true rfl, Nat.le_of_ble_eq_true rfl, Nat.le_of_ble_eq_true rfl⟩ (fun v22 H22 L22 S22 K22 q22 => ?_)
        obtain ⟨q22, tq22⟩ := q22
        have tk22 : Lw D s.heap H22 a0 := tk0.trans tq22
        exact retE_z hQ C S22 hr dX4_readAtom_113 (z01 (by omega) (by omega)) (⟨by omega, tk22⟩)
    · have b16 : ¬ v15.toInt = (0 : Int32).toInt := fun z9 => c16 (i_eq.mpr z9)
      refine lv_iload_n hx hb dX4_readAtom_26 rfl (lv_at hl 2 rfl) ?_
      refine lv_bipush (v := 6) hx hb dX4_readAtom_27 (by decide) ?_
      have k_6 : (6 : Int32).toInt = 6 := by decide
      refine lv_icmp_lt (tgt := 40) hx hb dX4_readAtom_29 (by decide) (fun c23 => ?_) (fun c23 => ?_)
      · have b23 : x1.toInt < (6 : Int32).toInt := i_lt.mp c23
        refine lv_aload_n hx hb dX4_readAtom_40 rfl (lv_at hl 1 rfl) ?_
        refine q_grS (T := TX4) C S.1 ga0 0 kF_X4_39 dX4_readAtom_41 rfl rfl (by decide) rfl (by decide) kSF_X4_tape (fun g24 => ?_)
        refine callV_Ev C S (c_X9_next l D G (fR D s.heap 4 a0 0) g24) kV_X4_47 g24 (trivial) (by decide +kernel) dX4_readAtom_44 hl.1 rfl rfl (by decide) cd_X9_next ⟨Nat.le_of_ble_eq_true rfl, Nat.le_of_ble_eq_true rfl, Nat.le_of_ble_eq_true rfl, Nat.le_of_ble_eq_true rfl, Nat.le_of_ble_eq_true rfl⟩ (fun H25 L25 S25 K25 q25 => ?_)
        have tk25 : Lw D s.heap H25 a0 := tk0.trans (Lw.keep S.1 ga0 K25 (by decide +kernel) (by decide +kernel) (by decide +kernel))
        refine lv_iload_n hx hb dX4_readAtom_47 rfl (lv_at hl 0 rfl) ?_
        refine lv_if_ne (tgt := 79) hx hb dX4_readAtom_48 (by decide) (fun c26 => ?_) (fun c26 => ?_)
        · have b26 : ¬ v3.toInt = (0 : Int32).toInt := fun z9 => c26 (i_eq.mpr z9)
          exact absurd b26 (by omega)
        · have b26 : v3.toInt = (0 : Int32).toInt := i_eq.mp c26
          refine lv_aload_n hx hb dX4_readAtom_51 rfl (lv_at hl 1 rfl) ?_
          refine lv_iload_n hx hb dX4_readAtom_52 rfl (lv_at hl 2 rfl) ?_
          refine lv_iconst (v := 1) hx hb dX4_readAtom_53 (by decide) ?_
          have k_1 : (1 : Int32).toInt = 1 := by decide
          refine lv_iadd hx hb dX4_readAtom_54 ?_
          refine lv_topi (fun v27 ev27 => ?_)
          have f28 : v27.toInt = x1.toInt + (1 : Int32).toInt := by rw [ev27]; exact i_add (by omega) (by omega)
          refine callV_Ei C S25 (c_X4_readCondition_d5 l D G a0 v27 ga0 (by omega)) kV_X4_65 ga0 (trivial) (by decide +kernel) dX4_readAtom_55 hl.1 rfl rfl (by decide) cd_X4_readCondition ⟨Nat.le_of_ble_eq_true rfl, Nat.le_of_ble_eq_true rfl, Nat.le_of_ble_eq_true rfl, Nat.le_of_ble_eq_true rfl, Nat.le_of_ble_eq_true rfl⟩ (fun v29 H29 L29 S29 K29 q29 => ?_)
          obtain ⟨q29, tq29⟩ := q29
          have tk29 : Lw D s.heap H29 a0 := tk25.trans tq29
          refine lv_if_eq (tgt := 77) hx hb dX4_readAtom_58 (by decide) (fun c30 => ?_) (fun c30 => ?_)
          · have b30 : v29.toInt = (0 : Int32).toInt := i_eq.mp c30
            refine lv_iconst (v := 0) hx hb dX4_readAtom_77 (by decide) ?_
            exact retE_z hQ C S29 hr dX4_readAtom_78 (z01 (by omega) (by omega)) (⟨by omega, tk29⟩)
          · have b30 : ¬ v29.toInt = (0 : Int32).toInt := fun z9 => c30 (i_eq.mpr z9)
            refine lv_aload_n hx hb dX4_readAtom_61 rfl (lv_at hl 1 rfl) ?_
            refine q_grS (T := TX4) C S29.1 ga0 0 kF_X4_39 dX4_readAtom_62 rfl rfl (by decide) rfl (by decide) kSF_X4_tape (fun g31 => ?_)
            refine lv_bipush (v := 41) hx hb dX4_readAtom_65 (by decide) ?_
            have k_41 : (41 : Int32).toInt = 41 := by decide
            refine callV_Ei C S29 (c_X9_takeSign l D G (fR D H29 4 a0 0) (41 : Int32) g31) kV_X4_88 g31 (trivial) (by decide +kernel) dX4_readAtom_67 hl.1 rfl rfl (by decide) cd_X9_takeSign ⟨Nat.le_of_ble_eq_true rfl, Nat.le_of_ble_eq_true rfl, Nat.le_of_ble_eq_true rfl, Nat.le_of_ble_eq_true rfl, Nat.le_of_ble_eq_true rfl⟩ (fun v32 H32 L32 S32 K32 q32 => ?_)
            have tk32 : Lw D s.heap H32 a0 := tk29.trans (Lw.keep S29.1 ga0 K32 (by decide +kernel) (by decide +kernel) (by decide +kernel))
            refine lv_if_eq (tgt := 77) hx hb dX4_readAtom_70 (by decide) (fun c33 => ?_) (fun c33 => ?_)
            · have b33 : v32.toInt = (0 : Int32).toInt := i_eq.mp c33
              refine lv_iconst (v := 0) hx hb dX4_readAtom_77 (by decide) ?_
              exact retE_z hQ C S32 hr dX4_readAtom_78 (z01 (by omega) (by omega)) (⟨by omega, tk32⟩)
            · have b33 : ¬ v32.toInt = (0 : Int32).toInt := fun z9 => c33 (i_eq.mpr z9)
              refine lv_iconst (v := 1) hx hb dX4_readAtom_73 (by decide) ?_
              refine lv_goto (tgt := 78) hx hb dX4_readAtom_74 (by decide) ?_
              exact retE_z hQ C S32 hr dX4_readAtom_78 (z01 (by omega) (by omega)) (⟨by omega, tk32⟩)
      · have b23 : ¬ x1.toInt < (6 : Int32).toInt := fun z9 => c23 (i_lt.mpr z9)
        exact absurd b23 (by omega)

set_option maxRecDepth 100000 in
set_option maxHeartbeats 4000000 in
theorem c_X4_readCondition_d4 (l : Launch) (D : DD) (G : Nat → Nat) (a0 : Nat) (x1 : Int32) (ga0 : G a0 = 21) (ix1 : 4 ≤ x1.toInt ∧ x1.toInt ≤ 4) : CE l D G yX4_readCondition cX4_readCondition 5 (some .boolean) 12 [.ref a0, .int x1] (fun _ => True) [(2, 3), (2, 4), (2, 5), (2, 6), (2, 2), (22, 0), (21, 3)] (xI (fun H r H1 => (0 ≤ r.toInt ∧ r.toInt ≤ 1) ∧ (Lw D H H1 a0))) := by
  refine enter (by decide) (Nat.le_of_ble_eq_true rfl) ?_
  intro p e s m args below meth c ls Q hA hQ C hr hO hpre hl
  have hx := C.1
  have hb := C.2.1
  have S : Sd D G [(2, 3), (2, 4), (2, 5), (2, 6), (2, 2), (22, 0), (21, 3)] s.heap s.heap [] := Sd.start hO
  have hl : lv_has ls 5 [(0, .ref a0), (1, .int x1)] := hl
  have tk0 : Lw D s.heap s.heap a0 := Lw.refl
  refine lv_iconst (v := 0) hx hb dX4_readCondition_0 (by decide) ?_
  refine lv_istore_n (lv' := [(2, .int (0 : Int32)), (0, .ref a0), (1, .int x1)]) hx hb dX4_readCondition_1 rfl hl (by decide) rfl (fun ls hl => ?_)
  refine lv_iconst (v := 0) hx hb dX4_readCondition_2 (by decide) ?_
  refine lv_istore_n (lv' := [(3, .int (0 : Int32)), (2, .int (0 : Int32)), (0, .ref a0), (1, .int x1)]) hx hb dX4_readCondition_3 rfl hl (by decide) rfl (fun ls hl => ?_)
  refine lv_iconst (v := 0) hx hb dX4_readCondition_4 (by decide) ?_
  refine lv_istore (lv' := [(4, .int (0 : Int32)), (3, .int (0 : Int32)), (2, .int (0 : Int32)), (0, .ref a0), (1, .int x1)]) hx hb dX4_readCondition_5 hl (by decide) rfl (fun ls hl => ?_)
  have Lp7 : ∀ (n : Nat) (x4_7 : Int32) (x3_7 : Int32) (x2_7 : Int32) (H_7 : Heap) (L_7 : List Loc) (ls : Array Slot), (Sd D G [(2, 3), (2, 4), (2, 5), (2, 6), (2, 2), (22, 0), (21, 3)] s.heap H_7 L_7) → (0 ≤ x4_7.toInt ∧ x4_7.toInt ≤ 2147483647) → (0 ≤ x3_7.toInt ∧ x3_7.toInt ≤ 1) → (0 ≤ x2_7.toInt ∧ x2_7.toInt ≤ 1) → (Lw D s.heap H_7 a0) → 2147483648 - x4_7.toInt ≤ (n : Int) → lv_has ls 5 [(4, .int x4_7), (3, .int x3_7), (2, .int x2_7), (0, .ref a0), (1, .int x1)] → W p l e (rmU 12 0 0) s m args below meth c H_7 L_7 0 0 Q (F0 m 7 ls []) := by
    intro n
    induction n with
    | zero =>
      intro x4_7 x3_7 x2_7 H_7 L_7 ls S_7 j7_0 j7_1 j7_2 u7_0 hn hl
      exact absurd hn (by omega)
    | succ n ih7 =>
      intro x4_7 x3_7 x2_7 H_7 L_7 ls S_7 j7_0 j7_1 j7_2 u7_0 hn hl
      refine lv_iload hx hb dX4_readCondition_7 (lv_at hl 0 rfl) ?_
      refine lv_sipush (v := 400) hx hb dX4_readCondition_9 (by decide) ?_
      have k_400 : (400 : Int32).toInt = 400 := by decide
      refine lv_icmp_ge (tgt := 88) hx hb dX4_readCondition_12 (by decide) (fun c1 => ?_) (fun c1 => ?_)
      · have b1 : (400 : Int32).toInt ≤ x4_7.toInt := i_le.mp c1
        refine lv_aload_n hx hb dX4_readCondition_88 rfl (lv_at hl 3 rfl) ?_
        refine q_grS (T := TX4) C S_7.1 ga0 0 kF_X4_39 dX4_readCondition_89 rfl rfl (by decide) rfl (by decide) kSF_X4_tape (fun g2 => ?_)
        refine callV_Ei C S_7 (c_X9_refuse l D G (fR D H_7 4 a0 0) g2) kV_X4_43 g2 (trivial) (by decide +kernel) dX4_readCondition_92 hl.1 rfl rfl (by decide) cd_X9_refuse ⟨Nat.le_of_ble_eq_true rfl, Nat.le_of_ble_eq_true rfl, Nat.le_of_ble_eq_true rfl, Nat.le_of_ble_eq_true rfl, Nat.le_of_ble_eq_true rfl⟩ (fun v3 H3 L3 S3 K3 q3 => ?_)
        have tk3 : Lw D s.heap H3 a0 := u7_0.trans (Lw.keep S_7.1 ga0 K3 (by decide +kernel) (by decide +kernel) (by decide +kernel))
        exact retE_z hQ C S3 hr dX4_readCondition_95 (z01 (by omega) (by omega)) (⟨by omega, tk3⟩)
      · have b1 : ¬ (400 : Int32).toInt ≤ x4_7.toInt := fun z9 => c1 (i_le.mpr z9)
        refine lv_aload_n hx hb dX4_readCondition_15 rfl (lv_at hl 3 rfl) ?_
        refine lv_iload_n hx hb dX4_readCondition_16 rfl (lv_at hl 4 rfl) ?_
        refine callV_Ei C S_7 (c_X4_readAtom_d4 l D G a0 x1 ga0 (by omega)) kV_X4_75 ga0 (trivial) (by decide +kernel) dX4_readCondition_17 hl.1 rfl rfl (by decide) cd_X4_readAtom ⟨Nat.le_of_ble_eq_true rfl, Nat.le_of_ble_eq_true rfl, Nat.le_of_ble_eq_true rfl, Nat.le_of_ble_eq_true rfl, Nat.le_of_ble_eq_true rfl⟩ (fun v4 H4 L4 S4 K4 q4 => ?_)
        obtain ⟨q4, tq4⟩ := q4
        have tk4 : Lw D s.heap H4 a0 := u7_0.trans tq4
        have k_0 : (0 : Int32).toInt = 0 := by decide
        refine lv_if_ne (tgt := 25) hx hb dX4_readCondition_20 (by decide) (fun c5 => ?_) (fun c5 => ?_)
        · have b5 : ¬ v4.toInt = (0 : Int32).toInt := fun z9 => c5 (i_eq.mpr z9)
          refine lv_iload_n hx hb dX4_readCondition_25 rfl (lv_at hl 1 rfl) ?_
          refine lv_if_eq (tgt := 35) hx hb dX4_readCondition_26 (by decide) (fun c6 => ?_) (fun c6 => ?_)
          · have b6 : x3_7.toInt = (0 : Int32).toInt := i_eq.mp c6
            refine lv_aload_n hx hb dX4_readCondition_35 rfl (lv_at hl 3 rfl) ?_
            refine q_grS (T := TX4) C S4.1 ga0 0 kF_X4_39 dX4_readCondition_36 rfl rfl (by decide) rfl (by decide) kSF_X4_tape (fun g7 => ?_)
            refine q_lds C ks_X4_78 dX4_readCondition_39 (fun a8 ha8 => ?_)
            refine callV_Pi C S4.1 S4.2.1.2.1 (c_X9_isWord l D G (fR D H4 4 a0 0) a8 3 g7 ha8) kV_X4_61 g7 (trivial) dX4_readCondition_41 hl.1 rfl rfl (by decide) cd_X9_isWord ⟨Nat.le_of_ble_eq_true rfl, Nat.le_of_ble_eq_true rfl, Nat.le_of_ble_eq_true rfl, Nat.le_of_ble_eq_true rfl, Nat.le_of_ble_eq_true rfl⟩ (fun v9 q9 => ?_)
            refine lv_istore_n (lv' := [(3, .int v9), (4, .int x4_7), (2, .int x2_7), (0, .ref a0), (1, .int x1)]) hx hb dX4_readCondition_44 rfl hl (by decide) rfl (fun ls hl => ?_)
            refine lv_iload_n hx hb dX4_readCondition_45 rfl (lv_at hl 0 rfl) ?_
            refine lv_if_ne (tgt := 75) hx hb dX4_readCondition_46 (by decide) (fun c10 => ?_) (fun c10 => ?_)
            · have b10 : ¬ v9.toInt = (0 : Int32).toInt := fun z9 => c10 (i_eq.mpr z9)
              refine lv_aload_n hx hb dX4_readCondition_75 rfl (lv_at hl 3 rfl) ?_
              refine q_grS (T := TX4) C S4.1 ga0 0 kF_X4_39 dX4_readCondition_76 rfl rfl (by decide) rfl (by decide) kSF_X4_tape (fun g11 => ?_)
              refine callV_Ev C S4 (c_X9_next l D G (fR D H4 4 a0 0) g11) kV_X4_47 g11 (trivial) (by decide +kernel) dX4_readCondition_79 hl.1 rfl rfl (by decide) cd_X9_next ⟨Nat.le_of_ble_eq_true rfl, Nat.le_of_ble_eq_true rfl, Nat.le_of_ble_eq_true rfl, Nat.le_of_ble_eq_true rfl, Nat.le_of_ble_eq_true rfl⟩ (fun H12 L12 S12 K12 q12 => ?_)
              have tk12 : Lw D s.heap H12 a0 := tk4.trans (Lw.keep S4.1 ga0 K12 (by decide +kernel) (by decide +kernel) (by decide +kernel))
              obtain ⟨v13, ev13⟩ : ∃ y : Int32, y = x4_7 + (1) := ⟨_, rfl⟩
              have k_1 : (1 : Int32).toInt = 1 := by decide
              have f14 : v13.toInt = x4_7.toInt + (1) := by rw [ev13]; exact i_addc k_1 (by omega) (by omega)
              refine lv_iinc (v := v13) (lv' := [(4, .int v13), (3, .int v9), (2, .int x2_7), (0, .ref a0), (1, .int x1)]) hx hb dX4_readCondition_82 hl (k := 1) rfl (by rw [ev13]; rfl) (by decide) rfl (fun ls hl => ?_)
              refine lv_goto (tgt := 7) hx hb dX4_readCondition_85 (by decide) ?_
              exact ih7 v13 v9 x2_7 H12 L12 ls S12 (by omega) (by omega) (by omega) tk12 (by omega) (lv_sub hl [0, 1, 2, 3, 4] rfl)
            · have b10 : v9.toInt = (0 : Int32).toInt := i_eq.mp c10
              refine lv_iload_n hx hb dX4_readCondition_49 rfl (lv_at hl 2 rfl) ?_
              refine lv_if_eq (tgt := 59) hx hb dX4_readCondition_50 (by decide) (fun c15 => ?_) (fun c15 => ?_)
              · have b15 : x2_7.toInt = (0 : Int32).toInt := i_eq.mp c15
                refine lv_aload_n hx hb dX4_readCondition_59 rfl (lv_at hl 3 rfl) ?_
                refine q_grS (T := TX4) C S4.1 ga0 0 kF_X4_39 dX4_readCondition_60 rfl rfl (by decide) rfl (by decide) kSF_X4_tape (fun g16 => ?_)
                refine q_lds C ks_X4_80 dX4_readCondition_63 (fun a17 ha17 => ?_)
                refine callV_Pi C S4.1 S4.2.1.2.1 (c_X9_isWord l D G (fR D H4 4 a0 0) a17 2 g16 ha17) kV_X4_61 g16 (trivial) dX4_readCondition_65 hl.1 rfl rfl (by decide) cd_X9_isWord ⟨Nat.le_of_ble_eq_true rfl, Nat.le_of_ble_eq_true rfl, Nat.le_of_ble_eq_true rfl, Nat.le_of_ble_eq_true rfl, Nat.le_of_ble_eq_true rfl⟩ (fun v18 q18 => ?_)
                refine lv_istore_n (lv' := [(2, .int v18), (3, .int v9), (4, .int x4_7), (0, .ref a0), (1, .int x1)]) hx hb dX4_readCondition_68 rfl hl (by decide) rfl (fun ls hl => ?_)
                refine lv_iload_n hx hb dX4_readCondition_69 rfl (lv_at hl 0 rfl) ?_
                refine lv_if_ne (tgt := 75) hx hb dX4_readCondition_70 (by decide) (fun c19 => ?_) (fun c19 => ?_)
                · have b19 : ¬ v18.toInt = (0 : Int32).toInt := fun z9 => c19 (i_eq.mpr z9)
                  refine lv_aload_n hx hb dX4_readCondition_75 rfl (lv_at hl 3 rfl) ?_
                  refine q_grS (T := TX4) C S4.1 ga0 0 kF_X4_39 dX4_readCondition_76 rfl rfl (by decide) rfl (by decide) kSF_X4_tape (fun g20 => ?_)
                  refine callV_Ev C S4 (c_X9_next l D G (fR D H4 4 a0 0) g20) kV_X4_47 g20 (trivial) (by decide +kernel) dX4_readCondition_79 hl.1 rfl rfl (by decide) cd_X9_next ⟨Nat.le_of_ble_eq_true rfl, Nat.le_of_ble_eq_true rfl, Nat.le_of_ble_eq_true rfl, Nat.le_of_ble_eq_true rfl, Nat.le_of_ble_eq_true rfl⟩ (fun H21 L21 S21 K21 q21 => ?_)
                  have tk21 : Lw D s.heap H21 a0 := tk4.trans (Lw.keep S4.1 ga0 K21 (by decide +kernel) (by decide +kernel) (by decide +kernel))
                  obtain ⟨v22, ev22⟩ : ∃ y : Int32, y = x4_7 + (1) := ⟨_, rfl⟩
                  have k_1 : (1 : Int32).toInt = 1 := by decide
                  have f23 : v22.toInt = x4_7.toInt + (1) := by rw [ev22]; exact i_addc k_1 (by omega) (by omega)
                  refine lv_iinc (v := v22) (lv' := [(4, .int v22), (2, .int v18), (3, .int v9), (0, .ref a0), (1, .int x1)]) hx hb dX4_readCondition_82 hl (k := 2) rfl (by rw [ev22]; rfl) (by decide) rfl (fun ls hl => ?_)
                  refine lv_goto (tgt := 7) hx hb dX4_readCondition_85 (by decide) ?_
                  exact ih7 v22 v9 v18 H21 L21 ls S21 (by omega) (by omega) (by omega) tk21 (by omega) (lv_sub hl [0, 2, 1, 3, 4] rfl)
                · have b19 : v18.toInt = (0 : Int32).toInt := i_eq.mp c19
                  refine lv_iconst (v := 1) hx hb dX4_readCondition_73 (by decide) ?_
                  have k_1 : (1 : Int32).toInt = 1 := by decide
                  exact retE_z hQ C S4 hr dX4_readCondition_74 (z01 (by omega) (by omega)) (⟨by omega, tk4⟩)
              · have b15 : ¬ x2_7.toInt = (0 : Int32).toInt := fun z9 => c15 (i_eq.mpr z9)
                refine lv_aload_n hx hb dX4_readCondition_53 rfl (lv_at hl 3 rfl) ?_
                refine lv_bipush (v := -18) hx hb dX4_readCondition_54 (by decide) ?_
                have k_m18 : (-18 : Int32).toInt = -18 := by decide
                refine callV_Ev C S4 (c_X4_put l D G a0 (-18 : Int32) ga0) kV_X4_55 ga0 (trivial) (by decide +kernel) dX4_readCondition_56 hl.1 rfl rfl (by decide) cd_X4_put ⟨Nat.le_of_ble_eq_true rfl, Nat.le_of_ble_eq_true rfl, Nat.le_of_ble_eq_true rfl, Nat.le_of_ble_eq_true rfl, Nat.le_of_ble_eq_true rfl⟩ (fun H24 L24 S24 K24 q24 => ?_)
                obtain ⟨qa24, qb24, tq24⟩ := q24
                have tk24 : Lw D s.heap H24 a0 := tk4.trans tq24
                refine lv_aload_n hx hb dX4_readCondition_59 rfl (lv_at hl 3 rfl) ?_
                refine q_grS (T := TX4) C S24.1 ga0 0 kF_X4_39 dX4_readCondition_60 rfl rfl (by decide) rfl (by decide) kSF_X4_tape (fun g25 => ?_)
                refine q_lds C ks_X4_80 dX4_readCondition_63 (fun a26 ha26 => ?_)
                refine callV_Pi C S24.1 S24.2.1.2.1 (c_X9_isWord l D G (fR D H24 4 a0 0) a26 2 g25 ha26) kV_X4_61 g25 (trivial) dX4_readCondition_65 hl.1 rfl rfl (by decide) cd_X9_isWord ⟨Nat.le_of_ble_eq_true rfl, Nat.le_of_ble_eq_true rfl, Nat.le_of_ble_eq_true rfl, Nat.le_of_ble_eq_true rfl, Nat.le_of_ble_eq_true rfl⟩ (fun v27 q27 => ?_)
                refine lv_istore_n (lv' := [(2, .int v27), (3, .int v9), (4, .int x4_7), (0, .ref a0), (1, .int x1)]) hx hb dX4_readCondition_68 rfl hl (by decide) rfl (fun ls hl => ?_)
                refine lv_iload_n hx hb dX4_readCondition_69 rfl (lv_at hl 0 rfl) ?_
                refine lv_if_ne (tgt := 75) hx hb dX4_readCondition_70 (by decide) (fun c28 => ?_) (fun c28 => ?_)
                · have b28 : ¬ v27.toInt = (0 : Int32).toInt := fun z9 => c28 (i_eq.mpr z9)
                  refine lv_aload_n hx hb dX4_readCondition_75 rfl (lv_at hl 3 rfl) ?_
                  refine q_grS (T := TX4) C S24.1 ga0 0 kF_X4_39 dX4_readCondition_76 rfl rfl (by decide) rfl (by decide) kSF_X4_tape (fun g29 => ?_)
                  refine callV_Ev C S24 (c_X9_next l D G (fR D H24 4 a0 0) g29) kV_X4_47 g29 (trivial) (by decide +kernel) dX4_readCondition_79 hl.1 rfl rfl (by decide) cd_X9_next ⟨Nat.le_of_ble_eq_true rfl, Nat.le_of_ble_eq_true rfl, Nat.le_of_ble_eq_true rfl, Nat.le_of_ble_eq_true rfl, Nat.le_of_ble_eq_true rfl⟩ (fun H30 L30 S30 K30 q30 => ?_)
                  have tk30 : Lw D s.heap H30 a0 := tk24.trans (Lw.keep S24.1 ga0 K30 (by decide +kernel) (by decide +kernel) (by decide +kernel))
                  obtain ⟨v31, ev31⟩ : ∃ y : Int32, y = x4_7 + (1) := ⟨_, rfl⟩
                  have k_1 : (1 : Int32).toInt = 1 := by decide
                  have f32 : v31.toInt = x4_7.toInt + (1) := by rw [ev31]; exact i_addc k_1 (by omega) (by omega)
                  refine lv_iinc (v := v31) (lv' := [(4, .int v31), (2, .int v27), (3, .int v9), (0, .ref a0), (1, .int x1)]) hx hb dX4_readCondition_82 hl (k := 2) rfl (by rw [ev31]; rfl) (by decide) rfl (fun ls hl => ?_)
                  refine lv_goto (tgt := 7) hx hb dX4_readCondition_85 (by decide) ?_
                  exact ih7 v31 v9 v27 H30 L30 ls S30 (by omega) (by omega) (by omega) tk30 (by omega) (lv_sub hl [0, 2, 1, 3, 4] rfl)
                · have b28 : v27.toInt = (0 : Int32).toInt := i_eq.mp c28
                  refine lv_iconst (v := 1) hx hb dX4_readCondition_73 (by decide) ?_
                  have k_1 : (1 : Int32).toInt = 1 := by decide
                  exact retE_z hQ C S24 hr dX4_readCondition_74 (z01 (by omega) (by omega)) (⟨by omega, tk24⟩)
          · have b6 : ¬ x3_7.toInt = (0 : Int32).toInt := fun z9 => c6 (i_eq.mpr z9)
            refine lv_aload_n hx hb dX4_readCondition_29 rfl (lv_at hl 3 rfl) ?_
            refine lv_bipush (v := -17) hx hb dX4_readCondition_30 (by decide) ?_
            have k_m17 : (-17 : Int32).toInt = -17 := by decide
            refine callV_Ev C S4 (c_X4_put l D G a0 (-17 : Int32) ga0) kV_X4_55 ga0 (trivial) (by decide +kernel) dX4_readCondition_32 hl.1 rfl rfl (by decide) cd_X4_put ⟨Nat.le_of_ble_eq_true rfl, Nat.le_of_ble_eq_true rfl, Nat.le_of_ble_eq_true rfl, Nat.le_of_ble_eq_true rfl, Nat.le_of_ble_eq_true rfl⟩ (fun H33 L33 S33 K33 q33 => ?_)
            obtain ⟨qa33, qb33, tq33⟩ := q33
            have tk33 : Lw D s.heap H33 a0 := tk4.trans tq33
            refine lv_aload_n hx hb dX4_readCondition_35 rfl (lv_at hl 3 rfl) ?_
            refine q_grS (T := TX4) C S33.1 ga0 0 kF_X4_39 dX4_readCondition_36 rfl rfl (by decide) rfl (by decide) kSF_X4_tape (fun g34 => ?_)
            refine q_lds C ks_X4_78 dX4_readCondition_39 (fun a35 ha35 => ?_)
            refine callV_Pi C S33.1 S33.2.1.2.1 (c_X9_isWord l D G (fR D H33 4 a0 0) a35 3 g34 ha35) kV_X4_61 g34 (trivial) dX4_readCondition_41 hl.1 rfl rfl (by decide) cd_X9_isWord ⟨Nat.le_of_ble_eq_true rfl, Nat.le_of_ble_eq_true rfl, Nat.le_of_ble_eq_true rfl, Nat.le_of_ble_eq_true rfl, Nat.le_of_ble_eq_true rfl⟩ (fun v36 q36 => ?_)
            refine lv_istore_n (lv' := [(3, .int v36), (4, .int x4_7), (2, .int x2_7), (0, .ref a0), (1, .int x1)]) hx hb dX4_readCondition_44 rfl hl (by decide) rfl (fun ls hl => ?_)
            refine lv_iload_n hx hb dX4_readCondition_45 rfl (lv_at hl 0 rfl) ?_
            refine lv_if_ne (tgt := 75) hx hb dX4_readCondition_46 (by decide) (fun c37 => ?_) (fun c37 => ?_)
            · have b37 : ¬ v36.toInt = (0 : Int32).toInt := fun z9 => c37 (i_eq.mpr z9)
              refine lv_aload_n hx hb dX4_readCondition_75 rfl (lv_at hl 3 rfl) ?_
              refine q_grS (T := TX4) C S33.1 ga0 0 kF_X4_39 dX4_readCondition_76 rfl rfl (by decide) rfl (by decide) kSF_X4_tape (fun g38 => ?_)
              refine callV_Ev C S33 (c_X9_next l D G (fR D H33 4 a0 0) g38) kV_X4_47 g38 (trivial) (by decide +kernel) dX4_readCondition_79 hl.1 rfl rfl (by decide) cd_X9_next ⟨Nat.le_of_ble_eq_true rfl, Nat.le_of_ble_eq_true rfl, Nat.le_of_ble_eq_true rfl, Nat.le_of_ble_eq_true rfl, Nat.le_of_ble_eq_true rfl⟩ (fun H39 L39 S39 K39 q39 => ?_)
              have tk39 : Lw D s.heap H39 a0 := tk33.trans (Lw.keep S33.1 ga0 K39 (by decide +kernel) (by decide +kernel) (by decide +kernel))
              obtain ⟨v40, ev40⟩ : ∃ y : Int32, y = x4_7 + (1) := ⟨_, rfl⟩
              have k_1 : (1 : Int32).toInt = 1 := by decide
              have f41 : v40.toInt = x4_7.toInt + (1) := by rw [ev40]; exact i_addc k_1 (by omega) (by omega)
              refine lv_iinc (v := v40) (lv' := [(4, .int v40), (3, .int v36), (2, .int x2_7), (0, .ref a0), (1, .int x1)]) hx hb dX4_readCondition_82 hl (k := 1) rfl (by rw [ev40]; rfl) (by decide) rfl (fun ls hl => ?_)
              refine lv_goto (tgt := 7) hx hb dX4_readCondition_85 (by decide) ?_
              exact ih7 v40 v36 x2_7 H39 L39 ls S39 (by omega) (by omega) (by omega) tk39 (by omega) (lv_sub hl [0, 1, 2, 3, 4] rfl)
            · have b37 : v36.toInt = (0 : Int32).toInt := i_eq.mp c37
              refine lv_iload_n hx hb dX4_readCondition_49 rfl (lv_at hl 2 rfl) ?_
              refine lv_if_eq (tgt := 59) hx hb dX4_readCondition_50 (by decide) (fun c42 => ?_) (fun c42 => ?_)
              · have b42 : x2_7.toInt = (0 : Int32).toInt := i_eq.mp c42
                refine lv_aload_n hx hb dX4_readCondition_59 rfl (lv_at hl 3 rfl) ?_
                refine q_grS (T := TX4) C S33.1 ga0 0 kF_X4_39 dX4_readCondition_60 rfl rfl (by decide) rfl (by decide) kSF_X4_tape (fun g43 => ?_)
                refine q_lds C ks_X4_80 dX4_readCondition_63 (fun a44 ha44 => ?_)
                refine callV_Pi C S33.1 S33.2.1.2.1 (c_X9_isWord l D G (fR D H33 4 a0 0) a44 2 g43 ha44) kV_X4_61 g43 (trivial) dX4_readCondition_65 hl.1 rfl rfl (by decide) cd_X9_isWord ⟨Nat.le_of_ble_eq_true rfl, Nat.le_of_ble_eq_true rfl, Nat.le_of_ble_eq_true rfl, Nat.le_of_ble_eq_true rfl, Nat.le_of_ble_eq_true rfl⟩ (fun v45 q45 => ?_)
                refine lv_istore_n (lv' := [(2, .int v45), (3, .int v36), (4, .int x4_7), (0, .ref a0), (1, .int x1)]) hx hb dX4_readCondition_68 rfl hl (by decide) rfl (fun ls hl => ?_)
                refine lv_iload_n hx hb dX4_readCondition_69 rfl (lv_at hl 0 rfl) ?_
                refine lv_if_ne (tgt := 75) hx hb dX4_readCondition_70 (by decide) (fun c46 => ?_) (fun c46 => ?_)
                · have b46 : ¬ v45.toInt = (0 : Int32).toInt := fun z9 => c46 (i_eq.mpr z9)
                  refine lv_aload_n hx hb dX4_readCondition_75 rfl (lv_at hl 3 rfl) ?_
                  refine q_grS (T := TX4) C S33.1 ga0 0 kF_X4_39 dX4_readCondition_76 rfl rfl (by decide) rfl (by decide) kSF_X4_tape (fun g47 => ?_)
                  refine callV_Ev C S33 (c_X9_next l D G (fR D H33 4 a0 0) g47) kV_X4_47 g47 (trivial) (by decide +kernel) dX4_readCondition_79 hl.1 rfl rfl (by decide) cd_X9_next ⟨Nat.le_of_ble_eq_true rfl, Nat.le_of_ble_eq_true rfl, Nat.le_of_ble_eq_true rfl, Nat.le_of_ble_eq_true rfl, Nat.le_of_ble_eq_true rfl⟩ (fun H48 L48 S48 K48 q48 => ?_)
                  have tk48 : Lw D s.heap H48 a0 := tk33.trans (Lw.keep S33.1 ga0 K48 (by decide +kernel) (by decide +kernel) (by decide +kernel))
                  obtain ⟨v49, ev49⟩ : ∃ y : Int32, y = x4_7 + (1) := ⟨_, rfl⟩
                  have k_1 : (1 : Int32).toInt = 1 := by decide
                  have f50 : v49.toInt = x4_7.toInt + (1) := by rw [ev49]; exact i_addc k_1 (by omega) (by omega)
                  refine lv_iinc (v := v49) (lv' := [(4, .int v49), (2, .int v45), (3, .int v36), (0, .ref a0), (1, .int x1)]) hx hb dX4_readCondition_82 hl (k := 2) rfl (by rw [ev49]; rfl) (by decide) rfl (fun ls hl => ?_)
                  refine lv_goto (tgt := 7) hx hb dX4_readCondition_85 (by decide) ?_
                  exact ih7 v49 v36 v45 H48 L48 ls S48 (by omega) (by omega) (by omega) tk48 (by omega) (lv_sub hl [0, 2, 1, 3, 4] rfl)
                · have b46 : v45.toInt = (0 : Int32).toInt := i_eq.mp c46
                  refine lv_iconst (v := 1) hx hb dX4_readCondition_73 (by decide) ?_
                  have k_1 : (1 : Int32).toInt = 1 := by decide
                  exact retE_z hQ C S33 hr dX4_readCondition_74 (z01 (by omega) (by omega)) (⟨by omega, tk33⟩)
              · have b42 : ¬ x2_7.toInt = (0 : Int32).toInt := fun z9 => c42 (i_eq.mpr z9)
                refine lv_aload_n hx hb dX4_readCondition_53 rfl (lv_at hl 3 rfl) ?_
                refine lv_bipush (v := -18) hx hb dX4_readCondition_54 (by decide) ?_
                have k_m18 : (-18 : Int32).toInt = -18 := by decide
                refine callV_Ev C S33 (c_X4_put l D G a0 (-18 : Int32) ga0) kV_X4_55 ga0 (trivial) (by decide +kernel) dX4_readCondition_56 hl.1 rfl rfl (by decide) cd_X4_put ⟨Nat.le_of_ble_eq_true rfl, Nat.le_of_ble_eq_true rfl, Nat.le_of_ble_eq_true rfl, Nat.le_of_ble_eq_true rfl, Nat.le_of_ble_eq_true rfl⟩ (fun H51 L51 S51 K51 q51 => ?_)
                obtain ⟨qa51, qb51, tq51⟩ := q51
                have tk51 : Lw D s.heap H51 a0 := tk33.trans tq51
                refine lv_aload_n hx hb dX4_readCondition_59 rfl (lv_at hl 3 rfl) ?_
                refine q_grS (T := TX4) C S51.1 ga0 0 kF_X4_39 dX4_readCondition_60 rfl rfl (by decide) rfl (by decide) kSF_X4_tape (fun g52 => ?_)
                refine q_lds C ks_X4_80 dX4_readCondition_63 (fun a53 ha53 => ?_)
                refine callV_Pi C S51.1 S51.2.1.2.1 (c_X9_isWord l D G (fR D H51 4 a0 0) a53 2 g52 ha53) kV_X4_61 g52 (trivial) dX4_readCondition_65 hl.1 rfl rfl (by decide) cd_X9_isWord ⟨Nat.le_of_ble_eq_true rfl, Nat.le_of_ble_eq_true rfl, Nat.le_of_ble_eq_true rfl, Nat.le_of_ble_eq_true rfl, Nat.le_of_ble_eq_true rfl⟩ (fun v54 q54 => ?_)
                refine lv_istore_n (lv' := [(2, .int v54), (3, .int v36), (4, .int x4_7), (0, .ref a0), (1, .int x1)]) hx hb dX4_readCondition_68 rfl hl (by decide) rfl (fun ls hl => ?_)
                refine lv_iload_n hx hb dX4_readCondition_69 rfl (lv_at hl 0 rfl) ?_
                refine lv_if_ne (tgt := 75) hx hb dX4_readCondition_70 (by decide) (fun c55 => ?_) (fun c55 => ?_)
                · have b55 : ¬ v54.toInt = (0 : Int32).toInt := fun z9 => c55 (i_eq.mpr z9)
                  refine lv_aload_n hx hb dX4_readCondition_75 rfl (lv_at hl 3 rfl) ?_
                  refine q_grS (T := TX4) C S51.1 ga0 0 kF_X4_39 dX4_readCondition_76 rfl rfl (by decide) rfl (by decide) kSF_X4_tape (fun g56 => ?_)
                  refine callV_Ev C S51 (c_X9_next l D G (fR D H51 4 a0 0) g56) kV_X4_47 g56 (trivial) (by decide +kernel) dX4_readCondition_79 hl.1 rfl rfl (by decide) cd_X9_next ⟨Nat.le_of_ble_eq_true rfl, Nat.le_of_ble_eq_true rfl, Nat.le_of_ble_eq_true rfl, Nat.le_of_ble_eq_true rfl, Nat.le_of_ble_eq_true rfl⟩ (fun H57 L57 S57 K57 q57 => ?_)
                  have tk57 : Lw D s.heap H57 a0 := tk51.trans (Lw.keep S51.1 ga0 K57 (by decide +kernel) (by decide +kernel) (by decide +kernel))
                  obtain ⟨v58, ev58⟩ : ∃ y : Int32, y = x4_7 + (1) := ⟨_, rfl⟩
                  have k_1 : (1 : Int32).toInt = 1 := by decide
                  have f59 : v58.toInt = x4_7.toInt + (1) := by rw [ev58]; exact i_addc k_1 (by omega) (by omega)
                  refine lv_iinc (v := v58) (lv' := [(4, .int v58), (2, .int v54), (3, .int v36), (0, .ref a0), (1, .int x1)]) hx hb dX4_readCondition_82 hl (k := 2) rfl (by rw [ev58]; rfl) (by decide) rfl (fun ls hl => ?_)
                  refine lv_goto (tgt := 7) hx hb dX4_readCondition_85 (by decide) ?_
                  exact ih7 v58 v36 v54 H57 L57 ls S57 (by omega) (by omega) (by omega) tk57 (by omega) (lv_sub hl [0, 2, 1, 3, 4] rfl)
                · have b55 : v54.toInt = (0 : Int32).toInt := i_eq.mp c55
                  refine lv_iconst (v := 1) hx hb dX4_readCondition_73 (by decide) ?_
                  have k_1 : (1 : Int32).toInt = 1 := by decide
                  exact retE_z hQ C S51 hr dX4_readCondition_74 (z01 (by omega) (by omega)) (⟨by omega, tk51⟩)
        · have b5 : v4.toInt = (0 : Int32).toInt := i_eq.mp c5
          refine lv_iconst (v := 0) hx hb dX4_readCondition_23 (by decide) ?_
          exact retE_z hQ C S4 hr dX4_readCondition_24 (z01 (by omega) (by omega)) (⟨by omega, tk4⟩)
  have k_0 : (0 : Int32).toInt = 0 := by decide
  exact Lp7 2147483648 (0 : Int32) (0 : Int32) (0 : Int32) s.heap [] ls S (by omega) (by omega) (by omega) tk0  (by omega) (lv_sub hl [0, 1, 2, 3, 4] rfl)

set_option maxRecDepth 100000 in
set_option maxHeartbeats 4000000 in
theorem c_X4_readAtom_d3 (l : Launch) (D : DD) (G : Nat → Nat) (a0 : Nat) (x1 : Int32) (ga0 : G a0 = 21) (ix1 : 3 ≤ x1.toInt ∧ x1.toInt ≤ 3) : CE l D G yX4_readAtom cX4_readAtom 4 (some .boolean) 13 [.ref a0, .int x1] (fun _ => True) [(2, 3), (2, 4), (2, 5), (2, 6), (2, 2), (22, 0), (21, 3)] (xI (fun H r H1 => (0 ≤ r.toInt ∧ r.toInt ≤ 1) ∧ (Lw D H H1 a0))) := by
  refine enter (by decide) (Nat.le_of_ble_eq_true rfl) ?_
  intro p e s m args below meth c ls Q hA hQ C hr hO hpre hl
  have hx := C.1
  have hb := C.2.1
  have S : Sd D G [(2, 3), (2, 4), (2, 5), (2, 6), (2, 2), (22, 0), (21, 3)] s.heap s.heap [] := Sd.start hO
  have hl : lv_has ls 4 [(0, .ref a0), (1, .int x1)] := hl
  have tk0 : Lw D s.heap s.heap a0 := Lw.refl
  refine lv_aload_n hx hb dX4_readAtom_0 rfl (lv_at hl 0 rfl) ?_
  refine q_grS (T := TX4) C S.1 ga0 0 kF_X4_39 dX4_readAtom_1 rfl rfl (by decide) rfl (by decide) kSF_X4_tape (fun g1 => ?_)
  refine q_lds C ks_X4_82 dX4_readAtom_4 (fun a2 ha2 => ?_)
  refine callV_Pi C S.1 S.2.1.2.1 (c_X9_isWord l D G (fR D s.heap 4 a0 0) a2 3 g1 ha2) kV_X4_61 g1 (trivial) dX4_readAtom_6 hl.1 rfl rfl (by decide) cd_X9_isWord ⟨Nat.le_of_ble_eq_true rfl, Nat.le_of_ble_eq_true rfl, Nat.le_of_ble_eq_true rfl, Nat.le_of_ble_eq_true rfl, Nat.le_of_ble_eq_true rfl⟩ (fun v3 q3 => ?_)
  refine lv_istore_n (lv' := [(2, .int v3), (0, .ref a0), (1, .int x1)]) hx hb dX4_readAtom_9 rfl hl (by decide) rfl (fun ls hl => ?_)
  refine lv_iload_n hx hb dX4_readAtom_10 rfl (lv_at hl 0 rfl) ?_
  have k_0 : (0 : Int32).toInt = 0 := by decide
  refine lv_if_ne (tgt := 26) hx hb dX4_readAtom_11 (by decide) (fun c4 => ?_) (fun c4 => ?_)
  · have b4 : ¬ v3.toInt = (0 : Int32).toInt := fun z9 => c4 (i_eq.mpr z9)
    refine lv_iload_n hx hb dX4_readAtom_26 rfl (lv_at hl 2 rfl) ?_
    refine lv_bipush (v := 6) hx hb dX4_readAtom_27 (by decide) ?_
    have k_6 : (6 : Int32).toInt = 6 := by decide
    refine lv_icmp_lt (tgt := 40) hx hb dX4_readAtom_29 (by decide) (fun c5 => ?_) (fun c5 => ?_)
    · have b5 : x1.toInt < (6 : Int32).toInt := i_lt.mp c5
      refine lv_aload_n hx hb dX4_readAtom_40 rfl (lv_at hl 1 rfl) ?_
      refine q_grS (T := TX4) C S.1 ga0 0 kF_X4_39 dX4_readAtom_41 rfl rfl (by decide) rfl (by decide) kSF_X4_tape (fun g6 => ?_)
      refine callV_Ev C S (c_X9_next l D G (fR D s.heap 4 a0 0) g6) kV_X4_47 g6 (trivial) (by decide +kernel) dX4_readAtom_44 hl.1 rfl rfl (by decide) cd_X9_next ⟨Nat.le_of_ble_eq_true rfl, Nat.le_of_ble_eq_true rfl, Nat.le_of_ble_eq_true rfl, Nat.le_of_ble_eq_true rfl, Nat.le_of_ble_eq_true rfl⟩ (fun H7 L7 S7 K7 q7 => ?_)
      have tk7 : Lw D s.heap H7 a0 := tk0.trans (Lw.keep S.1 ga0 K7 (by decide +kernel) (by decide +kernel) (by decide +kernel))
      refine lv_iload_n hx hb dX4_readAtom_47 rfl (lv_at hl 0 rfl) ?_
      refine lv_if_ne (tgt := 79) hx hb dX4_readAtom_48 (by decide) (fun c8 => ?_) (fun c8 => ?_)
      · have b8 : ¬ v3.toInt = (0 : Int32).toInt := fun z9 => c8 (i_eq.mpr z9)
        refine lv_aload_n hx hb dX4_readAtom_79 rfl (lv_at hl 1 rfl) ?_
        refine lv_iload_n hx hb dX4_readAtom_80 rfl (lv_at hl 2 rfl) ?_
        refine lv_iconst (v := 1) hx hb dX4_readAtom_81 (by decide) ?_
        have k_1 : (1 : Int32).toInt = 1 := by decide
        refine lv_iadd hx hb dX4_readAtom_82 ?_
        refine lv_topi (fun v9 ev9 => ?_)
        have f10 : v9.toInt = x1.toInt + (1 : Int32).toInt := by rw [ev9]; exact i_add (by omega) (by omega)
        refine callV_Ei C S7 (c_X4_readAtom_d4 l D G a0 v9 ga0 (by omega)) kV_X4_75 ga0 (trivial) (by decide +kernel) dX4_readAtom_83 hl.1 rfl rfl (by decide) cd_X4_readAtom ⟨Nat.le_of_ble_eq_true rfl, Nat.le_of_ble_eq_true rfl, Nat.le_of_ble_eq_true rfl, Nat.le_of_ble_eq_true rfl, Nat.le_of_ble_eq_true rfl⟩ (fun v11 H11 L11 S11 K11 q11 => ?_)
        obtain ⟨q11, tq11⟩ := q11
        have tk11 : Lw D s.heap H11 a0 := tk7.trans tq11
        refine lv_if_ne (tgt := 91) hx hb dX4_readAtom_86 (by decide) (fun c12 => ?_) (fun c12 => ?_)
        · have b12 : ¬ v11.toInt = (0 : Int32).toInt := fun z9 => c12 (i_eq.mpr z9)
          refine lv_aload_n hx hb dX4_readAtom_91 rfl (lv_at hl 1 rfl) ?_
          refine lv_bipush (v := -13) hx hb dX4_readAtom_92 (by decide) ?_
          have k_m13 : (-13 : Int32).toInt = -13 := by decide
          refine callV_Ev C S11 (c_X4_put l D G a0 (-13 : Int32) ga0) kV_X4_55 ga0 (trivial) (by decide +kernel) dX4_readAtom_94 hl.1 rfl rfl (by decide) cd_X4_put ⟨Nat.le_of_ble_eq_true rfl, Nat.le_of_ble_eq_true rfl, Nat.le_of_ble_eq_true rfl, Nat.le_of_ble_eq_true rfl, Nat.le_of_ble_eq_true rfl⟩ (fun H13 L13 S13 K13 q13 => ?_)
          obtain ⟨qa13, qb13, tq13⟩ := q13
          have tk13 : Lw D s.heap H13 a0 := tk11.trans tq13
          refine lv_iconst (v := 1) hx hb dX4_readAtom_97 (by decide) ?_
          exact retE_z hQ C S13 hr dX4_readAtom_98 (z01 (by omega) (by omega)) (⟨by omega, tk13⟩)
        · have b12 : v11.toInt = (0 : Int32).toInt := i_eq.mp c12
          refine lv_iconst (v := 0) hx hb dX4_readAtom_89 (by decide) ?_
          exact retE_z hQ C S11 hr dX4_readAtom_90 (z01 (by omega) (by omega)) (⟨by omega, tk11⟩)
      · have b8 : v3.toInt = (0 : Int32).toInt := i_eq.mp c8
        exact absurd b8 (by omega)
    · have b5 : ¬ x1.toInt < (6 : Int32).toInt := fun z9 => c5 (i_lt.mpr z9)
      exact absurd b5 (by omega)
  · have b4 : v3.toInt = (0 : Int32).toInt := i_eq.mp c4
    refine lv_aload_n hx hb dX4_readAtom_14 rfl (lv_at hl 1 rfl) ?_
    refine q_grS (T := TX4) C S.1 ga0 0 kF_X4_39 dX4_readAtom_15 rfl rfl (by decide) rfl (by decide) kSF_X4_tape (fun g14 => ?_)
    refine lv_bipush (v := 40) hx hb dX4_readAtom_18 (by decide) ?_
    have k_40 : (40 : Int32).toInt = 40 := by decide
    refine callV_Pi C S.1 S.2.1.2.1 (c_X9_isSign l D G (fR D s.heap 4 a0 0) (40 : Int32) g14) kV_X4_84 g14 (trivial) dX4_readAtom_20 hl.1 rfl rfl (by decide) cd_X9_isSign ⟨Nat.le_of_ble_eq_true rfl, Nat.le_of_ble_eq_true rfl, Nat.le_of_ble_eq_true rfl, Nat.le_of_ble_eq_true rfl, Nat.le_of_ble_eq_true rfl⟩ (fun v15 q15 => ?_)
    refine lv_if_eq (tgt := 99) hx hb dX4_readAtom_23 (by decide) (fun c16 => ?_) (fun c16 => ?_)
    · have b16 : v15.toInt = (0 : Int32).toInt := i_eq.mp c16
      refine lv_aload_n hx hb dX4_readAtom_99 rfl (lv_at hl 1 rfl) ?_
      refine callV_Pi C S.1 S.2.1.2.1 (c_X4_presentTruth l D G a0 ga0) kV_X4_91 ga0 (trivial) dX4_readAtom_100 hl.1 rfl rfl (by decide) cd_X4_presentTruth ⟨Nat.le_of_ble_eq_true rfl, Nat.le_of_ble_eq_true rfl, Nat.le_of_ble_eq_true rfl, Nat.le_of_ble_eq_true rfl, Nat.le_of_ble_eq_true rfl⟩ (fun v17 q17 => ?_)
      refine lv_istore_n (lv' := [(3, .int v17), (2, .int v3), (0, .ref a0), (1, .int x1)]) hx hb dX4_readAtom_103 rfl hl (by decide) rfl (fun ls hl => ?_)
      refine lv_iload_n hx hb dX4_readAtom_104 rfl (lv_at hl 0 rfl) ?_
      refine lv_iconst (v := -1) hx hb dX4_readAtom_105 (by decide) ?_
      have k_m1 : (-1 : Int32).toInt = -1 := by decide
      refine lv_icmp_ne (tgt := 114) hx hb dX4_readAtom_106 (by decide) (fun c18 => ?_) (fun c18 => ?_)
      · have b18 : ¬ v17.toInt = (-1 : Int32).toInt := fun z9 => c18 (i_eq.mpr z9)
        refine lv_aload_n hx hb dX4_readAtom_114 rfl (lv_at hl 2 rfl) ?_
        refine lv_iload_n hx hb dX4_readAtom_115 rfl (lv_at hl 0 rfl) ?_
        refine callV_Ev C S (c_X4_put l D G a0 v17 ga0) kV_X4_55 ga0 (trivial) (by decide +kernel) dX4_readAtom_116 hl.1 rfl rfl (by decide) cd_X4_put ⟨Nat.le_of_ble_eq_true rfl, Nat.le_of_ble_eq_true rfl, Nat.le_of_ble_eq_true rfl, Nat.le_of_ble_eq_true rfl, Nat.le_of_ble_eq_true rfl⟩ (fun H19 L19 S19 K19 q19 => ?_)
        obtain ⟨qa19, qb19, tq19⟩ := q19
        have tk19 : Lw D s.heap H19 a0 := tk0.trans tq19
        refine lv_aload_n hx hb dX4_readAtom_119 rfl (lv_at hl 2 rfl) ?_
        refine q_grS (T := TX4) C S19.1 ga0 0 kF_X4_39 dX4_readAtom_120 rfl rfl (by decide) rfl (by decide) kSF_X4_tape (fun g20 => ?_)
        refine callV_Ev C S19 (c_X9_next l D G (fR D H19 4 a0 0) g20) kV_X4_47 g20 (trivial) (by decide +kernel) dX4_readAtom_123 hl.1 rfl rfl (by decide) cd_X9_next ⟨Nat.le_of_ble_eq_true rfl, Nat.le_of_ble_eq_true rfl, Nat.le_of_ble_eq_true rfl, Nat.le_of_ble_eq_true rfl, Nat.le_of_ble_eq_true rfl⟩ (fun H21 L21 S21 K21 q21 => ?_)
        have tk21 : Lw D s.heap H21 a0 := tk19.trans (Lw.keep S19.1 ga0 K21 (by decide +kernel) (by decide +kernel) (by decide +kernel))
        refine lv_iconst (v := 1) hx hb dX4_readAtom_126 (by decide) ?_
        have k_1 : (1 : Int32).toInt = 1 := by decide
        exact retE_z hQ C S21 hr dX4_readAtom_127 (z01 (by omega) (by omega)) (⟨by omega, tk21⟩)
      · have b18 : v17.toInt = (-1 : Int32).toInt := i_eq.mp c18
        refine lv_aload_n hx hb dX4_readAtom_109 rfl (lv_at hl 2 rfl) ?_
        refine callV_Ei C S (c_X4_readComparison l D G a0 ga0) kV_X4_94 ga0 (trivial) (by decide +kernel) dX4_readAtom_110 hl.1 rfl rfl (by decide) cd_X4_readComparison ⟨Nat.le_of_ble_eq_true rfl, Nat.le_of_ble_eq_true rfl, Nat.le_of_ble_eq_true rfl, Nat.le_of_ble_eq_true rfl, Nat.le_of_ble_eq_true rfl⟩ (fun v22 H22 L22 S22 K22 q22 => ?_)
        obtain ⟨q22, tq22⟩ := q22
        have tk22 : Lw D s.heap H22 a0 := tk0.trans tq22
        exact retE_z hQ C S22 hr dX4_readAtom_113 (z01 (by omega) (by omega)) (⟨by omega, tk22⟩)
    · have b16 : ¬ v15.toInt = (0 : Int32).toInt := fun z9 => c16 (i_eq.mpr z9)
      refine lv_iload_n hx hb dX4_readAtom_26 rfl (lv_at hl 2 rfl) ?_
      refine lv_bipush (v := 6) hx hb dX4_readAtom_27 (by decide) ?_
      have k_6 : (6 : Int32).toInt = 6 := by decide
      refine lv_icmp_lt (tgt := 40) hx hb dX4_readAtom_29 (by decide) (fun c23 => ?_) (fun c23 => ?_)
      · have b23 : x1.toInt < (6 : Int32).toInt := i_lt.mp c23
        refine lv_aload_n hx hb dX4_readAtom_40 rfl (lv_at hl 1 rfl) ?_
        refine q_grS (T := TX4) C S.1 ga0 0 kF_X4_39 dX4_readAtom_41 rfl rfl (by decide) rfl (by decide) kSF_X4_tape (fun g24 => ?_)
        refine callV_Ev C S (c_X9_next l D G (fR D s.heap 4 a0 0) g24) kV_X4_47 g24 (trivial) (by decide +kernel) dX4_readAtom_44 hl.1 rfl rfl (by decide) cd_X9_next ⟨Nat.le_of_ble_eq_true rfl, Nat.le_of_ble_eq_true rfl, Nat.le_of_ble_eq_true rfl, Nat.le_of_ble_eq_true rfl, Nat.le_of_ble_eq_true rfl⟩ (fun H25 L25 S25 K25 q25 => ?_)
        have tk25 : Lw D s.heap H25 a0 := tk0.trans (Lw.keep S.1 ga0 K25 (by decide +kernel) (by decide +kernel) (by decide +kernel))
        refine lv_iload_n hx hb dX4_readAtom_47 rfl (lv_at hl 0 rfl) ?_
        refine lv_if_ne (tgt := 79) hx hb dX4_readAtom_48 (by decide) (fun c26 => ?_) (fun c26 => ?_)
        · have b26 : ¬ v3.toInt = (0 : Int32).toInt := fun z9 => c26 (i_eq.mpr z9)
          exact absurd b26 (by omega)
        · have b26 : v3.toInt = (0 : Int32).toInt := i_eq.mp c26
          refine lv_aload_n hx hb dX4_readAtom_51 rfl (lv_at hl 1 rfl) ?_
          refine lv_iload_n hx hb dX4_readAtom_52 rfl (lv_at hl 2 rfl) ?_
          refine lv_iconst (v := 1) hx hb dX4_readAtom_53 (by decide) ?_
          have k_1 : (1 : Int32).toInt = 1 := by decide
          refine lv_iadd hx hb dX4_readAtom_54 ?_
          refine lv_topi (fun v27 ev27 => ?_)
          have f28 : v27.toInt = x1.toInt + (1 : Int32).toInt := by rw [ev27]; exact i_add (by omega) (by omega)
          refine callV_Ei C S25 (c_X4_readCondition_d4 l D G a0 v27 ga0 (by omega)) kV_X4_65 ga0 (trivial) (by decide +kernel) dX4_readAtom_55 hl.1 rfl rfl (by decide) cd_X4_readCondition ⟨Nat.le_of_ble_eq_true rfl, Nat.le_of_ble_eq_true rfl, Nat.le_of_ble_eq_true rfl, Nat.le_of_ble_eq_true rfl, Nat.le_of_ble_eq_true rfl⟩ (fun v29 H29 L29 S29 K29 q29 => ?_)
          obtain ⟨q29, tq29⟩ := q29
          have tk29 : Lw D s.heap H29 a0 := tk25.trans tq29
          refine lv_if_eq (tgt := 77) hx hb dX4_readAtom_58 (by decide) (fun c30 => ?_) (fun c30 => ?_)
          · have b30 : v29.toInt = (0 : Int32).toInt := i_eq.mp c30
            refine lv_iconst (v := 0) hx hb dX4_readAtom_77 (by decide) ?_
            exact retE_z hQ C S29 hr dX4_readAtom_78 (z01 (by omega) (by omega)) (⟨by omega, tk29⟩)
          · have b30 : ¬ v29.toInt = (0 : Int32).toInt := fun z9 => c30 (i_eq.mpr z9)
            refine lv_aload_n hx hb dX4_readAtom_61 rfl (lv_at hl 1 rfl) ?_
            refine q_grS (T := TX4) C S29.1 ga0 0 kF_X4_39 dX4_readAtom_62 rfl rfl (by decide) rfl (by decide) kSF_X4_tape (fun g31 => ?_)
            refine lv_bipush (v := 41) hx hb dX4_readAtom_65 (by decide) ?_
            have k_41 : (41 : Int32).toInt = 41 := by decide
            refine callV_Ei C S29 (c_X9_takeSign l D G (fR D H29 4 a0 0) (41 : Int32) g31) kV_X4_88 g31 (trivial) (by decide +kernel) dX4_readAtom_67 hl.1 rfl rfl (by decide) cd_X9_takeSign ⟨Nat.le_of_ble_eq_true rfl, Nat.le_of_ble_eq_true rfl, Nat.le_of_ble_eq_true rfl, Nat.le_of_ble_eq_true rfl, Nat.le_of_ble_eq_true rfl⟩ (fun v32 H32 L32 S32 K32 q32 => ?_)
            have tk32 : Lw D s.heap H32 a0 := tk29.trans (Lw.keep S29.1 ga0 K32 (by decide +kernel) (by decide +kernel) (by decide +kernel))
            refine lv_if_eq (tgt := 77) hx hb dX4_readAtom_70 (by decide) (fun c33 => ?_) (fun c33 => ?_)
            · have b33 : v32.toInt = (0 : Int32).toInt := i_eq.mp c33
              refine lv_iconst (v := 0) hx hb dX4_readAtom_77 (by decide) ?_
              exact retE_z hQ C S32 hr dX4_readAtom_78 (z01 (by omega) (by omega)) (⟨by omega, tk32⟩)
            · have b33 : ¬ v32.toInt = (0 : Int32).toInt := fun z9 => c33 (i_eq.mpr z9)
              refine lv_iconst (v := 1) hx hb dX4_readAtom_73 (by decide) ?_
              refine lv_goto (tgt := 78) hx hb dX4_readAtom_74 (by decide) ?_
              exact retE_z hQ C S32 hr dX4_readAtom_78 (z01 (by omega) (by omega)) (⟨by omega, tk32⟩)
      · have b23 : ¬ x1.toInt < (6 : Int32).toInt := fun z9 => c23 (i_lt.mpr z9)
        exact absurd b23 (by omega)

set_option maxRecDepth 100000 in
set_option maxHeartbeats 4000000 in
theorem c_X4_readCondition_d3 (l : Launch) (D : DD) (G : Nat → Nat) (a0 : Nat) (x1 : Int32) (ga0 : G a0 = 21) (ix1 : 3 ≤ x1.toInt ∧ x1.toInt ≤ 3) : CE l D G yX4_readCondition cX4_readCondition 5 (some .boolean) 14 [.ref a0, .int x1] (fun _ => True) [(2, 3), (2, 4), (2, 5), (2, 6), (2, 2), (22, 0), (21, 3)] (xI (fun H r H1 => (0 ≤ r.toInt ∧ r.toInt ≤ 1) ∧ (Lw D H H1 a0))) := by
  refine enter (by decide) (Nat.le_of_ble_eq_true rfl) ?_
  intro p e s m args below meth c ls Q hA hQ C hr hO hpre hl
  have hx := C.1
  have hb := C.2.1
  have S : Sd D G [(2, 3), (2, 4), (2, 5), (2, 6), (2, 2), (22, 0), (21, 3)] s.heap s.heap [] := Sd.start hO
  have hl : lv_has ls 5 [(0, .ref a0), (1, .int x1)] := hl
  have tk0 : Lw D s.heap s.heap a0 := Lw.refl
  refine lv_iconst (v := 0) hx hb dX4_readCondition_0 (by decide) ?_
  refine lv_istore_n (lv' := [(2, .int (0 : Int32)), (0, .ref a0), (1, .int x1)]) hx hb dX4_readCondition_1 rfl hl (by decide) rfl (fun ls hl => ?_)
  refine lv_iconst (v := 0) hx hb dX4_readCondition_2 (by decide) ?_
  refine lv_istore_n (lv' := [(3, .int (0 : Int32)), (2, .int (0 : Int32)), (0, .ref a0), (1, .int x1)]) hx hb dX4_readCondition_3 rfl hl (by decide) rfl (fun ls hl => ?_)
  refine lv_iconst (v := 0) hx hb dX4_readCondition_4 (by decide) ?_
  refine lv_istore (lv' := [(4, .int (0 : Int32)), (3, .int (0 : Int32)), (2, .int (0 : Int32)), (0, .ref a0), (1, .int x1)]) hx hb dX4_readCondition_5 hl (by decide) rfl (fun ls hl => ?_)
  have Lp7 : ∀ (n : Nat) (x4_7 : Int32) (x3_7 : Int32) (x2_7 : Int32) (H_7 : Heap) (L_7 : List Loc) (ls : Array Slot), (Sd D G [(2, 3), (2, 4), (2, 5), (2, 6), (2, 2), (22, 0), (21, 3)] s.heap H_7 L_7) → (0 ≤ x4_7.toInt ∧ x4_7.toInt ≤ 2147483647) → (0 ≤ x3_7.toInt ∧ x3_7.toInt ≤ 1) → (0 ≤ x2_7.toInt ∧ x2_7.toInt ≤ 1) → (Lw D s.heap H_7 a0) → 2147483648 - x4_7.toInt ≤ (n : Int) → lv_has ls 5 [(4, .int x4_7), (3, .int x3_7), (2, .int x2_7), (0, .ref a0), (1, .int x1)] → W p l e (rmU 14 0 0) s m args below meth c H_7 L_7 0 0 Q (F0 m 7 ls []) := by
    intro n
    induction n with
    | zero =>
      intro x4_7 x3_7 x2_7 H_7 L_7 ls S_7 j7_0 j7_1 j7_2 u7_0 hn hl
      exact absurd hn (by omega)
    | succ n ih7 =>
      intro x4_7 x3_7 x2_7 H_7 L_7 ls S_7 j7_0 j7_1 j7_2 u7_0 hn hl
      refine lv_iload hx hb dX4_readCondition_7 (lv_at hl 0 rfl) ?_
      refine lv_sipush (v := 400) hx hb dX4_readCondition_9 (by decide) ?_
      have k_400 : (400 : Int32).toInt = 400 := by decide
      refine lv_icmp_ge (tgt := 88) hx hb dX4_readCondition_12 (by decide) (fun c1 => ?_) (fun c1 => ?_)
      · have b1 : (400 : Int32).toInt ≤ x4_7.toInt := i_le.mp c1
        refine lv_aload_n hx hb dX4_readCondition_88 rfl (lv_at hl 3 rfl) ?_
        refine q_grS (T := TX4) C S_7.1 ga0 0 kF_X4_39 dX4_readCondition_89 rfl rfl (by decide) rfl (by decide) kSF_X4_tape (fun g2 => ?_)
        refine callV_Ei C S_7 (c_X9_refuse l D G (fR D H_7 4 a0 0) g2) kV_X4_43 g2 (trivial) (by decide +kernel) dX4_readCondition_92 hl.1 rfl rfl (by decide) cd_X9_refuse ⟨Nat.le_of_ble_eq_true rfl, Nat.le_of_ble_eq_true rfl, Nat.le_of_ble_eq_true rfl, Nat.le_of_ble_eq_true rfl, Nat.le_of_ble_eq_true rfl⟩ (fun v3 H3 L3 S3 K3 q3 => ?_)
        have tk3 : Lw D s.heap H3 a0 := u7_0.trans (Lw.keep S_7.1 ga0 K3 (by decide +kernel) (by decide +kernel) (by decide +kernel))
        exact retE_z hQ C S3 hr dX4_readCondition_95 (z01 (by omega) (by omega)) (⟨by omega, tk3⟩)
      · have b1 : ¬ (400 : Int32).toInt ≤ x4_7.toInt := fun z9 => c1 (i_le.mpr z9)
        refine lv_aload_n hx hb dX4_readCondition_15 rfl (lv_at hl 3 rfl) ?_
        refine lv_iload_n hx hb dX4_readCondition_16 rfl (lv_at hl 4 rfl) ?_
        refine callV_Ei C S_7 (c_X4_readAtom_d3 l D G a0 x1 ga0 (by omega)) kV_X4_75 ga0 (trivial) (by decide +kernel) dX4_readCondition_17 hl.1 rfl rfl (by decide) cd_X4_readAtom ⟨Nat.le_of_ble_eq_true rfl, Nat.le_of_ble_eq_true rfl, Nat.le_of_ble_eq_true rfl, Nat.le_of_ble_eq_true rfl, Nat.le_of_ble_eq_true rfl⟩ (fun v4 H4 L4 S4 K4 q4 => ?_)
        obtain ⟨q4, tq4⟩ := q4
        have tk4 : Lw D s.heap H4 a0 := u7_0.trans tq4
        have k_0 : (0 : Int32).toInt = 0 := by decide
        refine lv_if_ne (tgt := 25) hx hb dX4_readCondition_20 (by decide) (fun c5 => ?_) (fun c5 => ?_)
        · have b5 : ¬ v4.toInt = (0 : Int32).toInt := fun z9 => c5 (i_eq.mpr z9)
          refine lv_iload_n hx hb dX4_readCondition_25 rfl (lv_at hl 1 rfl) ?_
          refine lv_if_eq (tgt := 35) hx hb dX4_readCondition_26 (by decide) (fun c6 => ?_) (fun c6 => ?_)
          · have b6 : x3_7.toInt = (0 : Int32).toInt := i_eq.mp c6
            refine lv_aload_n hx hb dX4_readCondition_35 rfl (lv_at hl 3 rfl) ?_
            refine q_grS (T := TX4) C S4.1 ga0 0 kF_X4_39 dX4_readCondition_36 rfl rfl (by decide) rfl (by decide) kSF_X4_tape (fun g7 => ?_)
            refine q_lds C ks_X4_78 dX4_readCondition_39 (fun a8 ha8 => ?_)
            refine callV_Pi C S4.1 S4.2.1.2.1 (c_X9_isWord l D G (fR D H4 4 a0 0) a8 3 g7 ha8) kV_X4_61 g7 (trivial) dX4_readCondition_41 hl.1 rfl rfl (by decide) cd_X9_isWord ⟨Nat.le_of_ble_eq_true rfl, Nat.le_of_ble_eq_true rfl, Nat.le_of_ble_eq_true rfl, Nat.le_of_ble_eq_true rfl, Nat.le_of_ble_eq_true rfl⟩ (fun v9 q9 => ?_)
            refine lv_istore_n (lv' := [(3, .int v9), (4, .int x4_7), (2, .int x2_7), (0, .ref a0), (1, .int x1)]) hx hb dX4_readCondition_44 rfl hl (by decide) rfl (fun ls hl => ?_)
            refine lv_iload_n hx hb dX4_readCondition_45 rfl (lv_at hl 0 rfl) ?_
            refine lv_if_ne (tgt := 75) hx hb dX4_readCondition_46 (by decide) (fun c10 => ?_) (fun c10 => ?_)
            · have b10 : ¬ v9.toInt = (0 : Int32).toInt := fun z9 => c10 (i_eq.mpr z9)
              refine lv_aload_n hx hb dX4_readCondition_75 rfl (lv_at hl 3 rfl) ?_
              refine q_grS (T := TX4) C S4.1 ga0 0 kF_X4_39 dX4_readCondition_76 rfl rfl (by decide) rfl (by decide) kSF_X4_tape (fun g11 => ?_)
              refine callV_Ev C S4 (c_X9_next l D G (fR D H4 4 a0 0) g11) kV_X4_47 g11 (trivial) (by decide +kernel) dX4_readCondition_79 hl.1 rfl rfl (by decide) cd_X9_next ⟨Nat.le_of_ble_eq_true rfl, Nat.le_of_ble_eq_true rfl, Nat.le_of_ble_eq_true rfl, Nat.le_of_ble_eq_true rfl, Nat.le_of_ble_eq_true rfl⟩ (fun H12 L12 S12 K12 q12 => ?_)
              have tk12 : Lw D s.heap H12 a0 := tk4.trans (Lw.keep S4.1 ga0 K12 (by decide +kernel) (by decide +kernel) (by decide +kernel))
              obtain ⟨v13, ev13⟩ : ∃ y : Int32, y = x4_7 + (1) := ⟨_, rfl⟩
              have k_1 : (1 : Int32).toInt = 1 := by decide
              have f14 : v13.toInt = x4_7.toInt + (1) := by rw [ev13]; exact i_addc k_1 (by omega) (by omega)
              refine lv_iinc (v := v13) (lv' := [(4, .int v13), (3, .int v9), (2, .int x2_7), (0, .ref a0), (1, .int x1)]) hx hb dX4_readCondition_82 hl (k := 1) rfl (by rw [ev13]; rfl) (by decide) rfl (fun ls hl => ?_)
              refine lv_goto (tgt := 7) hx hb dX4_readCondition_85 (by decide) ?_
              exact ih7 v13 v9 x2_7 H12 L12 ls S12 (by omega) (by omega) (by omega) tk12 (by omega) (lv_sub hl [0, 1, 2, 3, 4] rfl)
            · have b10 : v9.toInt = (0 : Int32).toInt := i_eq.mp c10
              refine lv_iload_n hx hb dX4_readCondition_49 rfl (lv_at hl 2 rfl) ?_
              refine lv_if_eq (tgt := 59) hx hb dX4_readCondition_50 (by decide) (fun c15 => ?_) (fun c15 => ?_)
              · have b15 : x2_7.toInt = (0 : Int32).toInt := i_eq.mp c15
                refine lv_aload_n hx hb dX4_readCondition_59 rfl (lv_at hl 3 rfl) ?_
                refine q_grS (T := TX4) C S4.1 ga0 0 kF_X4_39 dX4_readCondition_60 rfl rfl (by decide) rfl (by decide) kSF_X4_tape (fun g16 => ?_)
                refine q_lds C ks_X4_80 dX4_readCondition_63 (fun a17 ha17 => ?_)
                refine callV_Pi C S4.1 S4.2.1.2.1 (c_X9_isWord l D G (fR D H4 4 a0 0) a17 2 g16 ha17) kV_X4_61 g16 (trivial) dX4_readCondition_65 hl.1 rfl rfl (by decide) cd_X9_isWord ⟨Nat.le_of_ble_eq_true rfl, Nat.le_of_ble_eq_true rfl, Nat.le_of_ble_eq_true rfl, Nat.le_of_ble_eq_true rfl, Nat.le_of_ble_eq_true rfl⟩ (fun v18 q18 => ?_)
                refine lv_istore_n (lv' := [(2, .int v18), (3, .int v9), (4, .int x4_7), (0, .ref a0), (1, .int x1)]) hx hb dX4_readCondition_68 rfl hl (by decide) rfl (fun ls hl => ?_)
                refine lv_iload_n hx hb dX4_readCondition_69 rfl (lv_at hl 0 rfl) ?_
                refine lv_if_ne (tgt := 75) hx hb dX4_readCondition_70 (by decide) (fun c19 => ?_) (fun c19 => ?_)
                · have b19 : ¬ v18.toInt = (0 : Int32).toInt := fun z9 => c19 (i_eq.mpr z9)
                  refine lv_aload_n hx hb dX4_readCondition_75 rfl (lv_at hl 3 rfl) ?_
                  refine q_grS (T := TX4) C S4.1 ga0 0 kF_X4_39 dX4_readCondition_76 rfl rfl (by decide) rfl (by decide) kSF_X4_tape (fun g20 => ?_)
                  refine callV_Ev C S4 (c_X9_next l D G (fR D H4 4 a0 0) g20) kV_X4_47 g20 (trivial) (by decide +kernel) dX4_readCondition_79 hl.1 rfl rfl (by decide) cd_X9_next ⟨Nat.le_of_ble_eq_true rfl, Nat.le_of_ble_eq_true rfl, Nat.le_of_ble_eq_true rfl, Nat.le_of_ble_eq_true rfl, Nat.le_of_ble_eq_true rfl⟩ (fun H21 L21 S21 K21 q21 => ?_)
                  have tk21 : Lw D s.heap H21 a0 := tk4.trans (Lw.keep S4.1 ga0 K21 (by decide +kernel) (by decide +kernel) (by decide +kernel))
                  obtain ⟨v22, ev22⟩ : ∃ y : Int32, y = x4_7 + (1) := ⟨_, rfl⟩
                  have k_1 : (1 : Int32).toInt = 1 := by decide
                  have f23 : v22.toInt = x4_7.toInt + (1) := by rw [ev22]; exact i_addc k_1 (by omega) (by omega)
                  refine lv_iinc (v := v22) (lv' := [(4, .int v22), (2, .int v18), (3, .int v9), (0, .ref a0), (1, .int x1)]) hx hb dX4_readCondition_82 hl (k := 2) rfl (by rw [ev22]; rfl) (by decide) rfl (fun ls hl => ?_)
                  refine lv_goto (tgt := 7) hx hb dX4_readCondition_85 (by decide) ?_
                  exact ih7 v22 v9 v18 H21 L21 ls S21 (by omega) (by omega) (by omega) tk21 (by omega) (lv_sub hl [0, 2, 1, 3, 4] rfl)
                · have b19 : v18.toInt = (0 : Int32).toInt := i_eq.mp c19
                  refine lv_iconst (v := 1) hx hb dX4_readCondition_73 (by decide) ?_
                  have k_1 : (1 : Int32).toInt = 1 := by decide
                  exact retE_z hQ C S4 hr dX4_readCondition_74 (z01 (by omega) (by omega)) (⟨by omega, tk4⟩)
              · have b15 : ¬ x2_7.toInt = (0 : Int32).toInt := fun z9 => c15 (i_eq.mpr z9)
                refine lv_aload_n hx hb dX4_readCondition_53 rfl (lv_at hl 3 rfl) ?_
                refine lv_bipush (v := -18) hx hb dX4_readCondition_54 (by decide) ?_
                have k_m18 : (-18 : Int32).toInt = -18 := by decide
                refine callV_Ev C S4 (c_X4_put l D G a0 (-18 : Int32) ga0) kV_X4_55 ga0 (trivial) (by decide +kernel) dX4_readCondition_56 hl.1 rfl rfl (by decide) cd_X4_put ⟨Nat.le_of_ble_eq_true rfl, Nat.le_of_ble_eq_true rfl, Nat.le_of_ble_eq_true rfl, Nat.le_of_ble_eq_true rfl, Nat.le_of_ble_eq_true rfl⟩ (fun H24 L24 S24 K24 q24 => ?_)
                obtain ⟨qa24, qb24, tq24⟩ := q24
                have tk24 : Lw D s.heap H24 a0 := tk4.trans tq24
                refine lv_aload_n hx hb dX4_readCondition_59 rfl (lv_at hl 3 rfl) ?_
                refine q_grS (T := TX4) C S24.1 ga0 0 kF_X4_39 dX4_readCondition_60 rfl rfl (by decide) rfl (by decide) kSF_X4_tape (fun g25 => ?_)
                refine q_lds C ks_X4_80 dX4_readCondition_63 (fun a26 ha26 => ?_)
                refine callV_Pi C S24.1 S24.2.1.2.1 (c_X9_isWord l D G (fR D H24 4 a0 0) a26 2 g25 ha26) kV_X4_61 g25 (trivial) dX4_readCondition_65 hl.1 rfl rfl (by decide) cd_X9_isWord ⟨Nat.le_of_ble_eq_true rfl, Nat.le_of_ble_eq_true rfl, Nat.le_of_ble_eq_true rfl, Nat.le_of_ble_eq_true rfl, Nat.le_of_ble_eq_true rfl⟩ (fun v27 q27 => ?_)
                refine lv_istore_n (lv' := [(2, .int v27), (3, .int v9), (4, .int x4_7), (0, .ref a0), (1, .int x1)]) hx hb dX4_readCondition_68 rfl hl (by decide) rfl (fun ls hl => ?_)
                refine lv_iload_n hx hb dX4_readCondition_69 rfl (lv_at hl 0 rfl) ?_
                refine lv_if_ne (tgt := 75) hx hb dX4_readCondition_70 (by decide) (fun c28 => ?_) (fun c28 => ?_)
                · have b28 : ¬ v27.toInt = (0 : Int32).toInt := fun z9 => c28 (i_eq.mpr z9)
                  refine lv_aload_n hx hb dX4_readCondition_75 rfl (lv_at hl 3 rfl) ?_
                  refine q_grS (T := TX4) C S24.1 ga0 0 kF_X4_39 dX4_readCondition_76 rfl rfl (by decide) rfl (by decide) kSF_X4_tape (fun g29 => ?_)
                  refine callV_Ev C S24 (c_X9_next l D G (fR D H24 4 a0 0) g29) kV_X4_47 g29 (trivial) (by decide +kernel) dX4_readCondition_79 hl.1 rfl rfl (by decide) cd_X9_next ⟨Nat.le_of_ble_eq_true rfl, Nat.le_of_ble_eq_true rfl, Nat.le_of_ble_eq_true rfl, Nat.le_of_ble_eq_true rfl, Nat.le_of_ble_eq_true rfl⟩ (fun H30 L30 S30 K30 q30 => ?_)
                  have tk30 : Lw D s.heap H30 a0 := tk24.trans (Lw.keep S24.1 ga0 K30 (by decide +kernel) (by decide +kernel) (by decide +kernel))
                  obtain ⟨v31, ev31⟩ : ∃ y : Int32, y = x4_7 + (1) := ⟨_, rfl⟩
                  have k_1 : (1 : Int32).toInt = 1 := by decide
                  have f32 : v31.toInt = x4_7.toInt + (1) := by rw [ev31]; exact i_addc k_1 (by omega) (by omega)
                  refine lv_iinc (v := v31) (lv' := [(4, .int v31), (2, .int v27), (3, .int v9), (0, .ref a0), (1, .int x1)]) hx hb dX4_readCondition_82 hl (k := 2) rfl (by rw [ev31]; rfl) (by decide) rfl (fun ls hl => ?_)
                  refine lv_goto (tgt := 7) hx hb dX4_readCondition_85 (by decide) ?_
                  exact ih7 v31 v9 v27 H30 L30 ls S30 (by omega) (by omega) (by omega) tk30 (by omega) (lv_sub hl [0, 2, 1, 3, 4] rfl)
                · have b28 : v27.toInt = (0 : Int32).toInt := i_eq.mp c28
                  refine lv_iconst (v := 1) hx hb dX4_readCondition_73 (by decide) ?_
                  have k_1 : (1 : Int32).toInt = 1 := by decide
                  exact retE_z hQ C S24 hr dX4_readCondition_74 (z01 (by omega) (by omega)) (⟨by omega, tk24⟩)
          · have b6 : ¬ x3_7.toInt = (0 : Int32).toInt := fun z9 => c6 (i_eq.mpr z9)
            refine lv_aload_n hx hb dX4_readCondition_29 rfl (lv_at hl 3 rfl) ?_
            refine lv_bipush (v := -17) hx hb dX4_readCondition_30 (by decide) ?_
            have k_m17 : (-17 : Int32).toInt = -17 := by decide
            refine callV_Ev C S4 (c_X4_put l D G a0 (-17 : Int32) ga0) kV_X4_55 ga0 (trivial) (by decide +kernel) dX4_readCondition_32 hl.1 rfl rfl (by decide) cd_X4_put ⟨Nat.le_of_ble_eq_true rfl, Nat.le_of_ble_eq_true rfl, Nat.le_of_ble_eq_true rfl, Nat.le_of_ble_eq_true rfl, Nat.le_of_ble_eq_true rfl⟩ (fun H33 L33 S33 K33 q33 => ?_)
            obtain ⟨qa33, qb33, tq33⟩ := q33
            have tk33 : Lw D s.heap H33 a0 := tk4.trans tq33
            refine lv_aload_n hx hb dX4_readCondition_35 rfl (lv_at hl 3 rfl) ?_
            refine q_grS (T := TX4) C S33.1 ga0 0 kF_X4_39 dX4_readCondition_36 rfl rfl (by decide) rfl (by decide) kSF_X4_tape (fun g34 => ?_)
            refine q_lds C ks_X4_78 dX4_readCondition_39 (fun a35 ha35 => ?_)
            refine callV_Pi C S33.1 S33.2.1.2.1 (c_X9_isWord l D G (fR D H33 4 a0 0) a35 3 g34 ha35) kV_X4_61 g34 (trivial) dX4_readCondition_41 hl.1 rfl rfl (by decide) cd_X9_isWord ⟨Nat.le_of_ble_eq_true rfl, Nat.le_of_ble_eq_true rfl, Nat.le_of_ble_eq_true rfl, Nat.le_of_ble_eq_true rfl, Nat.le_of_ble_eq_true rfl⟩ (fun v36 q36 => ?_)
            refine lv_istore_n (lv' := [(3, .int v36), (4, .int x4_7), (2, .int x2_7), (0, .ref a0), (1, .int x1)]) hx hb dX4_readCondition_44 rfl hl (by decide) rfl (fun ls hl => ?_)
            refine lv_iload_n hx hb dX4_readCondition_45 rfl (lv_at hl 0 rfl) ?_
            refine lv_if_ne (tgt := 75) hx hb dX4_readCondition_46 (by decide) (fun c37 => ?_) (fun c37 => ?_)
            · have b37 : ¬ v36.toInt = (0 : Int32).toInt := fun z9 => c37 (i_eq.mpr z9)
              refine lv_aload_n hx hb dX4_readCondition_75 rfl (lv_at hl 3 rfl) ?_
              refine q_grS (T := TX4) C S33.1 ga0 0 kF_X4_39 dX4_readCondition_76 rfl rfl (by decide) rfl (by decide) kSF_X4_tape (fun g38 => ?_)
              refine callV_Ev C S33 (c_X9_next l D G (fR D H33 4 a0 0) g38) kV_X4_47 g38 (trivial) (by decide +kernel) dX4_readCondition_79 hl.1 rfl rfl (by decide) cd_X9_next ⟨Nat.le_of_ble_eq_true rfl, Nat.le_of_ble_eq_true rfl, Nat.le_of_ble_eq_true rfl, Nat.le_of_ble_eq_true rfl, Nat.le_of_ble_eq_true rfl⟩ (fun H39 L39 S39 K39 q39 => ?_)
              have tk39 : Lw D s.heap H39 a0 := tk33.trans (Lw.keep S33.1 ga0 K39 (by decide +kernel) (by decide +kernel) (by decide +kernel))
              obtain ⟨v40, ev40⟩ : ∃ y : Int32, y = x4_7 + (1) := ⟨_, rfl⟩
              have k_1 : (1 : Int32).toInt = 1 := by decide
              have f41 : v40.toInt = x4_7.toInt + (1) := by rw [ev40]; exact i_addc k_1 (by omega) (by omega)
              refine lv_iinc (v := v40) (lv' := [(4, .int v40), (3, .int v36), (2, .int x2_7), (0, .ref a0), (1, .int x1)]) hx hb dX4_readCondition_82 hl (k := 1) rfl (by rw [ev40]; rfl) (by decide) rfl (fun ls hl => ?_)
              refine lv_goto (tgt := 7) hx hb dX4_readCondition_85 (by decide) ?_
              exact ih7 v40 v36 x2_7 H39 L39 ls S39 (by omega) (by omega) (by omega) tk39 (by omega) (lv_sub hl [0, 1, 2, 3, 4] rfl)
            · have b37 : v36.toInt = (0 : Int32).toInt := i_eq.mp c37
              refine lv_iload_n hx hb dX4_readCondition_49 rfl (lv_at hl 2 rfl) ?_
              refine lv_if_eq (tgt := 59) hx hb dX4_readCondition_50 (by decide) (fun c42 => ?_) (fun c42 => ?_)
              · have b42 : x2_7.toInt = (0 : Int32).toInt := i_eq.mp c42
                refine lv_aload_n hx hb dX4_readCondition_59 rfl (lv_at hl 3 rfl) ?_
                refine q_grS (T := TX4) C S33.1 ga0 0 kF_X4_39 dX4_readCondition_60 rfl rfl (by decide) rfl (by decide) kSF_X4_tape (fun g43 => ?_)
                refine q_lds C ks_X4_80 dX4_readCondition_63 (fun a44 ha44 => ?_)
                refine callV_Pi C S33.1 S33.2.1.2.1 (c_X9_isWord l D G (fR D H33 4 a0 0) a44 2 g43 ha44) kV_X4_61 g43 (trivial) dX4_readCondition_65 hl.1 rfl rfl (by decide) cd_X9_isWord ⟨Nat.le_of_ble_eq_true rfl, Nat.le_of_ble_eq_true rfl, Nat.le_of_ble_eq_true rfl, Nat.le_of_ble_eq_true rfl, Nat.le_of_ble_eq_true rfl⟩ (fun v45 q45 => ?_)
                refine lv_istore_n (lv' := [(2, .int v45), (3, .int v36), (4, .int x4_7), (0, .ref a0), (1, .int x1)]) hx hb dX4_readCondition_68 rfl hl (by decide) rfl (fun ls hl => ?_)
                refine lv_iload_n hx hb dX4_readCondition_69 rfl (lv_at hl 0 rfl) ?_
                refine lv_if_ne (tgt := 75) hx hb dX4_readCondition_70 (by decide) (fun c46 => ?_) (fun c46 => ?_)
                · have b46 : ¬ v45.toInt = (0 : Int32).toInt := fun z9 => c46 (i_eq.mpr z9)
                  refine lv_aload_n hx hb dX4_readCondition_75 rfl (lv_at hl 3 rfl) ?_
                  refine q_grS (T := TX4) C S33.1 ga0 0 kF_X4_39 dX4_readCondition_76 rfl rfl (by decide) rfl (by decide) kSF_X4_tape (fun g47 => ?_)
                  refine callV_Ev C S33 (c_X9_next l D G (fR D H33 4 a0 0) g47) kV_X4_47 g47 (trivial) (by decide +kernel) dX4_readCondition_79 hl.1 rfl rfl (by decide) cd_X9_next ⟨Nat.le_of_ble_eq_true rfl, Nat.le_of_ble_eq_true rfl, Nat.le_of_ble_eq_true rfl, Nat.le_of_ble_eq_true rfl, Nat.le_of_ble_eq_true rfl⟩ (fun H48 L48 S48 K48 q48 => ?_)
                  have tk48 : Lw D s.heap H48 a0 := tk33.trans (Lw.keep S33.1 ga0 K48 (by decide +kernel) (by decide +kernel) (by decide +kernel))
                  obtain ⟨v49, ev49⟩ : ∃ y : Int32, y = x4_7 + (1) := ⟨_, rfl⟩
                  have k_1 : (1 : Int32).toInt = 1 := by decide
                  have f50 : v49.toInt = x4_7.toInt + (1) := by rw [ev49]; exact i_addc k_1 (by omega) (by omega)
                  refine lv_iinc (v := v49) (lv' := [(4, .int v49), (2, .int v45), (3, .int v36), (0, .ref a0), (1, .int x1)]) hx hb dX4_readCondition_82 hl (k := 2) rfl (by rw [ev49]; rfl) (by decide) rfl (fun ls hl => ?_)
                  refine lv_goto (tgt := 7) hx hb dX4_readCondition_85 (by decide) ?_
                  exact ih7 v49 v36 v45 H48 L48 ls S48 (by omega) (by omega) (by omega) tk48 (by omega) (lv_sub hl [0, 2, 1, 3, 4] rfl)
                · have b46 : v45.toInt = (0 : Int32).toInt := i_eq.mp c46
                  refine lv_iconst (v := 1) hx hb dX4_readCondition_73 (by decide) ?_
                  have k_1 : (1 : Int32).toInt = 1 := by decide
                  exact retE_z hQ C S33 hr dX4_readCondition_74 (z01 (by omega) (by omega)) (⟨by omega, tk33⟩)
              · have b42 : ¬ x2_7.toInt = (0 : Int32).toInt := fun z9 => c42 (i_eq.mpr z9)
                refine lv_aload_n hx hb dX4_readCondition_53 rfl (lv_at hl 3 rfl) ?_
                refine lv_bipush (v := -18) hx hb dX4_readCondition_54 (by decide) ?_
                have k_m18 : (-18 : Int32).toInt = -18 := by decide
                refine callV_Ev C S33 (c_X4_put l D G a0 (-18 : Int32) ga0) kV_X4_55 ga0 (trivial) (by decide +kernel) dX4_readCondition_56 hl.1 rfl rfl (by decide) cd_X4_put ⟨Nat.le_of_ble_eq_true rfl, Nat.le_of_ble_eq_true rfl, Nat.le_of_ble_eq_true rfl, Nat.le_of_ble_eq_true rfl, Nat.le_of_ble_eq_true rfl⟩ (fun H51 L51 S51 K51 q51 => ?_)
                obtain ⟨qa51, qb51, tq51⟩ := q51
                have tk51 : Lw D s.heap H51 a0 := tk33.trans tq51
                refine lv_aload_n hx hb dX4_readCondition_59 rfl (lv_at hl 3 rfl) ?_
                refine q_grS (T := TX4) C S51.1 ga0 0 kF_X4_39 dX4_readCondition_60 rfl rfl (by decide) rfl (by decide) kSF_X4_tape (fun g52 => ?_)
                refine q_lds C ks_X4_80 dX4_readCondition_63 (fun a53 ha53 => ?_)
                refine callV_Pi C S51.1 S51.2.1.2.1 (c_X9_isWord l D G (fR D H51 4 a0 0) a53 2 g52 ha53) kV_X4_61 g52 (trivial) dX4_readCondition_65 hl.1 rfl rfl (by decide) cd_X9_isWord ⟨Nat.le_of_ble_eq_true rfl, Nat.le_of_ble_eq_true rfl, Nat.le_of_ble_eq_true rfl, Nat.le_of_ble_eq_true rfl, Nat.le_of_ble_eq_true rfl⟩ (fun v54 q54 => ?_)
                refine lv_istore_n (lv' := [(2, .int v54), (3, .int v36), (4, .int x4_7), (0, .ref a0), (1, .int x1)]) hx hb dX4_readCondition_68 rfl hl (by decide) rfl (fun ls hl => ?_)
                refine lv_iload_n hx hb dX4_readCondition_69 rfl (lv_at hl 0 rfl) ?_
                refine lv_if_ne (tgt := 75) hx hb dX4_readCondition_70 (by decide) (fun c55 => ?_) (fun c55 => ?_)
                · have b55 : ¬ v54.toInt = (0 : Int32).toInt := fun z9 => c55 (i_eq.mpr z9)
                  refine lv_aload_n hx hb dX4_readCondition_75 rfl (lv_at hl 3 rfl) ?_
                  refine q_grS (T := TX4) C S51.1 ga0 0 kF_X4_39 dX4_readCondition_76 rfl rfl (by decide) rfl (by decide) kSF_X4_tape (fun g56 => ?_)
                  refine callV_Ev C S51 (c_X9_next l D G (fR D H51 4 a0 0) g56) kV_X4_47 g56 (trivial) (by decide +kernel) dX4_readCondition_79 hl.1 rfl rfl (by decide) cd_X9_next ⟨Nat.le_of_ble_eq_true rfl, Nat.le_of_ble_eq_true rfl, Nat.le_of_ble_eq_true rfl, Nat.le_of_ble_eq_true rfl, Nat.le_of_ble_eq_true rfl⟩ (fun H57 L57 S57 K57 q57 => ?_)
                  have tk57 : Lw D s.heap H57 a0 := tk51.trans (Lw.keep S51.1 ga0 K57 (by decide +kernel) (by decide +kernel) (by decide +kernel))
                  obtain ⟨v58, ev58⟩ : ∃ y : Int32, y = x4_7 + (1) := ⟨_, rfl⟩
                  have k_1 : (1 : Int32).toInt = 1 := by decide
                  have f59 : v58.toInt = x4_7.toInt + (1) := by rw [ev58]; exact i_addc k_1 (by omega) (by omega)
                  refine lv_iinc (v := v58) (lv' := [(4, .int v58), (2, .int v54), (3, .int v36), (0, .ref a0), (1, .int x1)]) hx hb dX4_readCondition_82 hl (k := 2) rfl (by rw [ev58]; rfl) (by decide) rfl (fun ls hl => ?_)
                  refine lv_goto (tgt := 7) hx hb dX4_readCondition_85 (by decide) ?_
                  exact ih7 v58 v36 v54 H57 L57 ls S57 (by omega) (by omega) (by omega) tk57 (by omega) (lv_sub hl [0, 2, 1, 3, 4] rfl)
                · have b55 : v54.toInt = (0 : Int32).toInt := i_eq.mp c55
                  refine lv_iconst (v := 1) hx hb dX4_readCondition_73 (by decide) ?_
                  have k_1 : (1 : Int32).toInt = 1 := by decide
                  exact retE_z hQ C S51 hr dX4_readCondition_74 (z01 (by omega) (by omega)) (⟨by omega, tk51⟩)
        · have b5 : v4.toInt = (0 : Int32).toInt := i_eq.mp c5
          refine lv_iconst (v := 0) hx hb dX4_readCondition_23 (by decide) ?_
          exact retE_z hQ C S4 hr dX4_readCondition_24 (z01 (by omega) (by omega)) (⟨by omega, tk4⟩)
  have k_0 : (0 : Int32).toInt = 0 := by decide
  exact Lp7 2147483648 (0 : Int32) (0 : Int32) (0 : Int32) s.heap [] ls S (by omega) (by omega) (by omega) tk0  (by omega) (lv_sub hl [0, 1, 2, 3, 4] rfl)

set_option maxRecDepth 100000 in
set_option maxHeartbeats 4000000 in
theorem c_X4_readAtom_d2 (l : Launch) (D : DD) (G : Nat → Nat) (a0 : Nat) (x1 : Int32) (ga0 : G a0 = 21) (ix1 : 2 ≤ x1.toInt ∧ x1.toInt ≤ 2) : CE l D G yX4_readAtom cX4_readAtom 4 (some .boolean) 15 [.ref a0, .int x1] (fun _ => True) [(2, 3), (2, 4), (2, 5), (2, 6), (2, 2), (22, 0), (21, 3)] (xI (fun H r H1 => (0 ≤ r.toInt ∧ r.toInt ≤ 1) ∧ (Lw D H H1 a0))) := by
  refine enter (by decide) (Nat.le_of_ble_eq_true rfl) ?_
  intro p e s m args below meth c ls Q hA hQ C hr hO hpre hl
  have hx := C.1
  have hb := C.2.1
  have S : Sd D G [(2, 3), (2, 4), (2, 5), (2, 6), (2, 2), (22, 0), (21, 3)] s.heap s.heap [] := Sd.start hO
  have hl : lv_has ls 4 [(0, .ref a0), (1, .int x1)] := hl
  have tk0 : Lw D s.heap s.heap a0 := Lw.refl
  refine lv_aload_n hx hb dX4_readAtom_0 rfl (lv_at hl 0 rfl) ?_
  refine q_grS (T := TX4) C S.1 ga0 0 kF_X4_39 dX4_readAtom_1 rfl rfl (by decide) rfl (by decide) kSF_X4_tape (fun g1 => ?_)
  refine q_lds C ks_X4_82 dX4_readAtom_4 (fun a2 ha2 => ?_)
  refine callV_Pi C S.1 S.2.1.2.1 (c_X9_isWord l D G (fR D s.heap 4 a0 0) a2 3 g1 ha2) kV_X4_61 g1 (trivial) dX4_readAtom_6 hl.1 rfl rfl (by decide) cd_X9_isWord ⟨Nat.le_of_ble_eq_true rfl, Nat.le_of_ble_eq_true rfl, Nat.le_of_ble_eq_true rfl, Nat.le_of_ble_eq_true rfl, Nat.le_of_ble_eq_true rfl⟩ (fun v3 q3 => ?_)
  refine lv_istore_n (lv' := [(2, .int v3), (0, .ref a0), (1, .int x1)]) hx hb dX4_readAtom_9 rfl hl (by decide) rfl (fun ls hl => ?_)
  refine lv_iload_n hx hb dX4_readAtom_10 rfl (lv_at hl 0 rfl) ?_
  have k_0 : (0 : Int32).toInt = 0 := by decide
  refine lv_if_ne (tgt := 26) hx hb dX4_readAtom_11 (by decide) (fun c4 => ?_) (fun c4 => ?_)
  · have b4 : ¬ v3.toInt = (0 : Int32).toInt := fun z9 => c4 (i_eq.mpr z9)
    refine lv_iload_n hx hb dX4_readAtom_26 rfl (lv_at hl 2 rfl) ?_
    refine lv_bipush (v := 6) hx hb dX4_readAtom_27 (by decide) ?_
    have k_6 : (6 : Int32).toInt = 6 := by decide
    refine lv_icmp_lt (tgt := 40) hx hb dX4_readAtom_29 (by decide) (fun c5 => ?_) (fun c5 => ?_)
    · have b5 : x1.toInt < (6 : Int32).toInt := i_lt.mp c5
      refine lv_aload_n hx hb dX4_readAtom_40 rfl (lv_at hl 1 rfl) ?_
      refine q_grS (T := TX4) C S.1 ga0 0 kF_X4_39 dX4_readAtom_41 rfl rfl (by decide) rfl (by decide) kSF_X4_tape (fun g6 => ?_)
      refine callV_Ev C S (c_X9_next l D G (fR D s.heap 4 a0 0) g6) kV_X4_47 g6 (trivial) (by decide +kernel) dX4_readAtom_44 hl.1 rfl rfl (by decide) cd_X9_next ⟨Nat.le_of_ble_eq_true rfl, Nat.le_of_ble_eq_true rfl, Nat.le_of_ble_eq_true rfl, Nat.le_of_ble_eq_true rfl, Nat.le_of_ble_eq_true rfl⟩ (fun H7 L7 S7 K7 q7 => ?_)
      have tk7 : Lw D s.heap H7 a0 := tk0.trans (Lw.keep S.1 ga0 K7 (by decide +kernel) (by decide +kernel) (by decide +kernel))
      refine lv_iload_n hx hb dX4_readAtom_47 rfl (lv_at hl 0 rfl) ?_
      refine lv_if_ne (tgt := 79) hx hb dX4_readAtom_48 (by decide) (fun c8 => ?_) (fun c8 => ?_)
      · have b8 : ¬ v3.toInt = (0 : Int32).toInt := fun z9 => c8 (i_eq.mpr z9)
        refine lv_aload_n hx hb dX4_readAtom_79 rfl (lv_at hl 1 rfl) ?_
        refine lv_iload_n hx hb dX4_readAtom_80 rfl (lv_at hl 2 rfl) ?_
        refine lv_iconst (v := 1) hx hb dX4_readAtom_81 (by decide) ?_
        have k_1 : (1 : Int32).toInt = 1 := by decide
        refine lv_iadd hx hb dX4_readAtom_82 ?_
        refine lv_topi (fun v9 ev9 => ?_)
        have f10 : v9.toInt = x1.toInt + (1 : Int32).toInt := by rw [ev9]; exact i_add (by omega) (by omega)
        refine callV_Ei C S7 (c_X4_readAtom_d3 l D G a0 v9 ga0 (by omega)) kV_X4_75 ga0 (trivial) (by decide +kernel) dX4_readAtom_83 hl.1 rfl rfl (by decide) cd_X4_readAtom ⟨Nat.le_of_ble_eq_true rfl, Nat.le_of_ble_eq_true rfl, Nat.le_of_ble_eq_true rfl, Nat.le_of_ble_eq_true rfl, Nat.le_of_ble_eq_true rfl⟩ (fun v11 H11 L11 S11 K11 q11 => ?_)
        obtain ⟨q11, tq11⟩ := q11
        have tk11 : Lw D s.heap H11 a0 := tk7.trans tq11
        refine lv_if_ne (tgt := 91) hx hb dX4_readAtom_86 (by decide) (fun c12 => ?_) (fun c12 => ?_)
        · have b12 : ¬ v11.toInt = (0 : Int32).toInt := fun z9 => c12 (i_eq.mpr z9)
          refine lv_aload_n hx hb dX4_readAtom_91 rfl (lv_at hl 1 rfl) ?_
          refine lv_bipush (v := -13) hx hb dX4_readAtom_92 (by decide) ?_
          have k_m13 : (-13 : Int32).toInt = -13 := by decide
          refine callV_Ev C S11 (c_X4_put l D G a0 (-13 : Int32) ga0) kV_X4_55 ga0 (trivial) (by decide +kernel) dX4_readAtom_94 hl.1 rfl rfl (by decide) cd_X4_put ⟨Nat.le_of_ble_eq_true rfl, Nat.le_of_ble_eq_true rfl, Nat.le_of_ble_eq_true rfl, Nat.le_of_ble_eq_true rfl, Nat.le_of_ble_eq_true rfl⟩ (fun H13 L13 S13 K13 q13 => ?_)
          obtain ⟨qa13, qb13, tq13⟩ := q13
          have tk13 : Lw D s.heap H13 a0 := tk11.trans tq13
          refine lv_iconst (v := 1) hx hb dX4_readAtom_97 (by decide) ?_
          exact retE_z hQ C S13 hr dX4_readAtom_98 (z01 (by omega) (by omega)) (⟨by omega, tk13⟩)
        · have b12 : v11.toInt = (0 : Int32).toInt := i_eq.mp c12
          refine lv_iconst (v := 0) hx hb dX4_readAtom_89 (by decide) ?_
          exact retE_z hQ C S11 hr dX4_readAtom_90 (z01 (by omega) (by omega)) (⟨by omega, tk11⟩)
      · have b8 : v3.toInt = (0 : Int32).toInt := i_eq.mp c8
        exact absurd b8 (by omega)
    · have b5 : ¬ x1.toInt < (6 : Int32).toInt := fun z9 => c5 (i_lt.mpr z9)
      exact absurd b5 (by omega)
  · have b4 : v3.toInt = (0 : Int32).toInt := i_eq.mp c4
    refine lv_aload_n hx hb dX4_readAtom_14 rfl (lv_at hl 1 rfl) ?_
    refine q_grS (T := TX4) C S.1 ga0 0 kF_X4_39 dX4_readAtom_15 rfl rfl (by decide) rfl (by decide) kSF_X4_tape (fun g14 => ?_)
    refine lv_bipush (v := 40) hx hb dX4_readAtom_18 (by decide) ?_
    have k_40 : (40 : Int32).toInt = 40 := by decide
    refine callV_Pi C S.1 S.2.1.2.1 (c_X9_isSign l D G (fR D s.heap 4 a0 0) (40 : Int32) g14) kV_X4_84 g14 (trivial) dX4_readAtom_20 hl.1 rfl rfl (by decide) cd_X9_isSign ⟨Nat.le_of_ble_eq_true rfl, Nat.le_of_ble_eq_true rfl, Nat.le_of_ble_eq_true rfl, Nat.le_of_ble_eq_true rfl, Nat.le_of_ble_eq_true rfl⟩ (fun v15 q15 => ?_)
    refine lv_if_eq (tgt := 99) hx hb dX4_readAtom_23 (by decide) (fun c16 => ?_) (fun c16 => ?_)
    · have b16 : v15.toInt = (0 : Int32).toInt := i_eq.mp c16
      refine lv_aload_n hx hb dX4_readAtom_99 rfl (lv_at hl 1 rfl) ?_
      refine callV_Pi C S.1 S.2.1.2.1 (c_X4_presentTruth l D G a0 ga0) kV_X4_91 ga0 (trivial) dX4_readAtom_100 hl.1 rfl rfl (by decide) cd_X4_presentTruth ⟨Nat.le_of_ble_eq_true rfl, Nat.le_of_ble_eq_true rfl, Nat.le_of_ble_eq_true rfl, Nat.le_of_ble_eq_true rfl, Nat.le_of_ble_eq_true rfl⟩ (fun v17 q17 => ?_)
      refine lv_istore_n (lv' := [(3, .int v17), (2, .int v3), (0, .ref a0), (1, .int x1)]) hx hb dX4_readAtom_103 rfl hl (by decide) rfl (fun ls hl => ?_)
      refine lv_iload_n hx hb dX4_readAtom_104 rfl (lv_at hl 0 rfl) ?_
      refine lv_iconst (v := -1) hx hb dX4_readAtom_105 (by decide) ?_
      have k_m1 : (-1 : Int32).toInt = -1 := by decide
      refine lv_icmp_ne (tgt := 114) hx hb dX4_readAtom_106 (by decide) (fun c18 => ?_) (fun c18 => ?_)
      · have b18 : ¬ v17.toInt = (-1 : Int32).toInt := fun z9 => c18 (i_eq.mpr z9)
        refine lv_aload_n hx hb dX4_readAtom_114 rfl (lv_at hl 2 rfl) ?_
        refine lv_iload_n hx hb dX4_readAtom_115 rfl (lv_at hl 0 rfl) ?_
        refine callV_Ev C S (c_X4_put l D G a0 v17 ga0) kV_X4_55 ga0 (trivial) (by decide +kernel) dX4_readAtom_116 hl.1 rfl rfl (by decide) cd_X4_put ⟨Nat.le_of_ble_eq_true rfl, Nat.le_of_ble_eq_true rfl, Nat.le_of_ble_eq_true rfl, Nat.le_of_ble_eq_true rfl, Nat.le_of_ble_eq_true rfl⟩ (fun H19 L19 S19 K19 q19 => ?_)
        obtain ⟨qa19, qb19, tq19⟩ := q19
        have tk19 : Lw D s.heap H19 a0 := tk0.trans tq19
        refine lv_aload_n hx hb dX4_readAtom_119 rfl (lv_at hl 2 rfl) ?_
        refine q_grS (T := TX4) C S19.1 ga0 0 kF_X4_39 dX4_readAtom_120 rfl rfl (by decide) rfl (by decide) kSF_X4_tape (fun g20 => ?_)
        refine callV_Ev C S19 (c_X9_next l D G (fR D H19 4 a0 0) g20) kV_X4_47 g20 (trivial) (by decide +kernel) dX4_readAtom_123 hl.1 rfl rfl (by decide) cd_X9_next ⟨Nat.le_of_ble_eq_true rfl, Nat.le_of_ble_eq_true rfl, Nat.le_of_ble_eq_true rfl, Nat.le_of_ble_eq_true rfl, Nat.le_of_ble_eq_true rfl⟩ (fun H21 L21 S21 K21 q21 => ?_)
        have tk21 : Lw D s.heap H21 a0 := tk19.trans (Lw.keep S19.1 ga0 K21 (by decide +kernel) (by decide +kernel) (by decide +kernel))
        refine lv_iconst (v := 1) hx hb dX4_readAtom_126 (by decide) ?_
        have k_1 : (1 : Int32).toInt = 1 := by decide
        exact retE_z hQ C S21 hr dX4_readAtom_127 (z01 (by omega) (by omega)) (⟨by omega, tk21⟩)
      · have b18 : v17.toInt = (-1 : Int32).toInt := i_eq.mp c18
        refine lv_aload_n hx hb dX4_readAtom_109 rfl (lv_at hl 2 rfl) ?_
        refine callV_Ei C S (c_X4_readComparison l D G a0 ga0) kV_X4_94 ga0 (trivial) (by decide +kernel) dX4_readAtom_110 hl.1 rfl rfl (by decide) cd_X4_readComparison ⟨Nat.le_of_ble_eq_true rfl, Nat.le_of_ble_eq_true rfl, Nat.le_of_ble_eq_true rfl, Nat.le_of_ble_eq_true rfl, Nat.le_of_ble_eq_true rfl⟩ (fun v22 H22 L22 S22 K22 q22 => ?_)
        obtain ⟨q22, tq22⟩ := q22
        have tk22 : Lw D s.heap H22 a0 := tk0.trans tq22
        exact retE_z hQ C S22 hr dX4_readAtom_113 (z01 (by omega) (by omega)) (⟨by omega, tk22⟩)
    · have b16 : ¬ v15.toInt = (0 : Int32).toInt := fun z9 => c16 (i_eq.mpr z9)
      refine lv_iload_n hx hb dX4_readAtom_26 rfl (lv_at hl 2 rfl) ?_
      refine lv_bipush (v := 6) hx hb dX4_readAtom_27 (by decide) ?_
      have k_6 : (6 : Int32).toInt = 6 := by decide
      refine lv_icmp_lt (tgt := 40) hx hb dX4_readAtom_29 (by decide) (fun c23 => ?_) (fun c23 => ?_)
      · have b23 : x1.toInt < (6 : Int32).toInt := i_lt.mp c23
        refine lv_aload_n hx hb dX4_readAtom_40 rfl (lv_at hl 1 rfl) ?_
        refine q_grS (T := TX4) C S.1 ga0 0 kF_X4_39 dX4_readAtom_41 rfl rfl (by decide) rfl (by decide) kSF_X4_tape (fun g24 => ?_)
        refine callV_Ev C S (c_X9_next l D G (fR D s.heap 4 a0 0) g24) kV_X4_47 g24 (trivial) (by decide +kernel) dX4_readAtom_44 hl.1 rfl rfl (by decide) cd_X9_next ⟨Nat.le_of_ble_eq_true rfl, Nat.le_of_ble_eq_true rfl, Nat.le_of_ble_eq_true rfl, Nat.le_of_ble_eq_true rfl, Nat.le_of_ble_eq_true rfl⟩ (fun H25 L25 S25 K25 q25 => ?_)
        have tk25 : Lw D s.heap H25 a0 := tk0.trans (Lw.keep S.1 ga0 K25 (by decide +kernel) (by decide +kernel) (by decide +kernel))
        refine lv_iload_n hx hb dX4_readAtom_47 rfl (lv_at hl 0 rfl) ?_
        refine lv_if_ne (tgt := 79) hx hb dX4_readAtom_48 (by decide) (fun c26 => ?_) (fun c26 => ?_)
        · have b26 : ¬ v3.toInt = (0 : Int32).toInt := fun z9 => c26 (i_eq.mpr z9)
          exact absurd b26 (by omega)
        · have b26 : v3.toInt = (0 : Int32).toInt := i_eq.mp c26
          refine lv_aload_n hx hb dX4_readAtom_51 rfl (lv_at hl 1 rfl) ?_
          refine lv_iload_n hx hb dX4_readAtom_52 rfl (lv_at hl 2 rfl) ?_
          refine lv_iconst (v := 1) hx hb dX4_readAtom_53 (by decide) ?_
          have k_1 : (1 : Int32).toInt = 1 := by decide
          refine lv_iadd hx hb dX4_readAtom_54 ?_
          refine lv_topi (fun v27 ev27 => ?_)
          have f28 : v27.toInt = x1.toInt + (1 : Int32).toInt := by rw [ev27]; exact i_add (by omega) (by omega)
          refine callV_Ei C S25 (c_X4_readCondition_d3 l D G a0 v27 ga0 (by omega)) kV_X4_65 ga0 (trivial) (by decide +kernel) dX4_readAtom_55 hl.1 rfl rfl (by decide) cd_X4_readCondition ⟨Nat.le_of_ble_eq_true rfl, Nat.le_of_ble_eq_true rfl, Nat.le_of_ble_eq_true rfl, Nat.le_of_ble_eq_true rfl, Nat.le_of_ble_eq_true rfl⟩ (fun v29 H29 L29 S29 K29 q29 => ?_)
          obtain ⟨q29, tq29⟩ := q29
          have tk29 : Lw D s.heap H29 a0 := tk25.trans tq29
          refine lv_if_eq (tgt := 77) hx hb dX4_readAtom_58 (by decide) (fun c30 => ?_) (fun c30 => ?_)
          · have b30 : v29.toInt = (0 : Int32).toInt := i_eq.mp c30
            refine lv_iconst (v := 0) hx hb dX4_readAtom_77 (by decide) ?_
            exact retE_z hQ C S29 hr dX4_readAtom_78 (z01 (by omega) (by omega)) (⟨by omega, tk29⟩)
          · have b30 : ¬ v29.toInt = (0 : Int32).toInt := fun z9 => c30 (i_eq.mpr z9)
            refine lv_aload_n hx hb dX4_readAtom_61 rfl (lv_at hl 1 rfl) ?_
            refine q_grS (T := TX4) C S29.1 ga0 0 kF_X4_39 dX4_readAtom_62 rfl rfl (by decide) rfl (by decide) kSF_X4_tape (fun g31 => ?_)
            refine lv_bipush (v := 41) hx hb dX4_readAtom_65 (by decide) ?_
            have k_41 : (41 : Int32).toInt = 41 := by decide
            refine callV_Ei C S29 (c_X9_takeSign l D G (fR D H29 4 a0 0) (41 : Int32) g31) kV_X4_88 g31 (trivial) (by decide +kernel) dX4_readAtom_67 hl.1 rfl rfl (by decide) cd_X9_takeSign ⟨Nat.le_of_ble_eq_true rfl, Nat.le_of_ble_eq_true rfl, Nat.le_of_ble_eq_true rfl, Nat.le_of_ble_eq_true rfl, Nat.le_of_ble_eq_true rfl⟩ (fun v32 H32 L32 S32 K32 q32 => ?_)
            have tk32 : Lw D s.heap H32 a0 := tk29.trans (Lw.keep S29.1 ga0 K32 (by decide +kernel) (by decide +kernel) (by decide +kernel))
            refine lv_if_eq (tgt := 77) hx hb dX4_readAtom_70 (by decide) (fun c33 => ?_) (fun c33 => ?_)
            · have b33 : v32.toInt = (0 : Int32).toInt := i_eq.mp c33
              refine lv_iconst (v := 0) hx hb dX4_readAtom_77 (by decide) ?_
              exact retE_z hQ C S32 hr dX4_readAtom_78 (z01 (by omega) (by omega)) (⟨by omega, tk32⟩)
            · have b33 : ¬ v32.toInt = (0 : Int32).toInt := fun z9 => c33 (i_eq.mpr z9)
              refine lv_iconst (v := 1) hx hb dX4_readAtom_73 (by decide) ?_
              refine lv_goto (tgt := 78) hx hb dX4_readAtom_74 (by decide) ?_
              exact retE_z hQ C S32 hr dX4_readAtom_78 (z01 (by omega) (by omega)) (⟨by omega, tk32⟩)
      · have b23 : ¬ x1.toInt < (6 : Int32).toInt := fun z9 => c23 (i_lt.mpr z9)
        exact absurd b23 (by omega)

set_option maxRecDepth 100000 in
set_option maxHeartbeats 4000000 in
theorem c_X4_readCondition_d2 (l : Launch) (D : DD) (G : Nat → Nat) (a0 : Nat) (x1 : Int32) (ga0 : G a0 = 21) (ix1 : 2 ≤ x1.toInt ∧ x1.toInt ≤ 2) : CE l D G yX4_readCondition cX4_readCondition 5 (some .boolean) 16 [.ref a0, .int x1] (fun _ => True) [(2, 3), (2, 4), (2, 5), (2, 6), (2, 2), (22, 0), (21, 3)] (xI (fun H r H1 => (0 ≤ r.toInt ∧ r.toInt ≤ 1) ∧ (Lw D H H1 a0))) := by
  refine enter (by decide) (Nat.le_of_ble_eq_true rfl) ?_
  intro p e s m args below meth c ls Q hA hQ C hr hO hpre hl
  have hx := C.1
  have hb := C.2.1
  have S : Sd D G [(2, 3), (2, 4), (2, 5), (2, 6), (2, 2), (22, 0), (21, 3)] s.heap s.heap [] := Sd.start hO
  have hl : lv_has ls 5 [(0, .ref a0), (1, .int x1)] := hl
  have tk0 : Lw D s.heap s.heap a0 := Lw.refl
  refine lv_iconst (v := 0) hx hb dX4_readCondition_0 (by decide) ?_
  refine lv_istore_n (lv' := [(2, .int (0 : Int32)), (0, .ref a0), (1, .int x1)]) hx hb dX4_readCondition_1 rfl hl (by decide) rfl (fun ls hl => ?_)
  refine lv_iconst (v := 0) hx hb dX4_readCondition_2 (by decide) ?_
  refine lv_istore_n (lv' := [(3, .int (0 : Int32)), (2, .int (0 : Int32)), (0, .ref a0), (1, .int x1)]) hx hb dX4_readCondition_3 rfl hl (by decide) rfl (fun ls hl => ?_)
  refine lv_iconst (v := 0) hx hb dX4_readCondition_4 (by decide) ?_
  refine lv_istore (lv' := [(4, .int (0 : Int32)), (3, .int (0 : Int32)), (2, .int (0 : Int32)), (0, .ref a0), (1, .int x1)]) hx hb dX4_readCondition_5 hl (by decide) rfl (fun ls hl => ?_)
  have Lp7 : ∀ (n : Nat) (x4_7 : Int32) (x3_7 : Int32) (x2_7 : Int32) (H_7 : Heap) (L_7 : List Loc) (ls : Array Slot), (Sd D G [(2, 3), (2, 4), (2, 5), (2, 6), (2, 2), (22, 0), (21, 3)] s.heap H_7 L_7) → (0 ≤ x4_7.toInt ∧ x4_7.toInt ≤ 2147483647) → (0 ≤ x3_7.toInt ∧ x3_7.toInt ≤ 1) → (0 ≤ x2_7.toInt ∧ x2_7.toInt ≤ 1) → (Lw D s.heap H_7 a0) → 2147483648 - x4_7.toInt ≤ (n : Int) → lv_has ls 5 [(4, .int x4_7), (3, .int x3_7), (2, .int x2_7), (0, .ref a0), (1, .int x1)] → W p l e (rmU 16 0 0) s m args below meth c H_7 L_7 0 0 Q (F0 m 7 ls []) := by
    intro n
    induction n with
    | zero =>
      intro x4_7 x3_7 x2_7 H_7 L_7 ls S_7 j7_0 j7_1 j7_2 u7_0 hn hl
      exact absurd hn (by omega)
    | succ n ih7 =>
      intro x4_7 x3_7 x2_7 H_7 L_7 ls S_7 j7_0 j7_1 j7_2 u7_0 hn hl
      refine lv_iload hx hb dX4_readCondition_7 (lv_at hl 0 rfl) ?_
      refine lv_sipush (v := 400) hx hb dX4_readCondition_9 (by decide) ?_
      have k_400 : (400 : Int32).toInt = 400 := by decide
      refine lv_icmp_ge (tgt := 88) hx hb dX4_readCondition_12 (by decide) (fun c1 => ?_) (fun c1 => ?_)
      · have b1 : (400 : Int32).toInt ≤ x4_7.toInt := i_le.mp c1
        refine lv_aload_n hx hb dX4_readCondition_88 rfl (lv_at hl 3 rfl) ?_
        refine q_grS (T := TX4) C S_7.1 ga0 0 kF_X4_39 dX4_readCondition_89 rfl rfl (by decide) rfl (by decide) kSF_X4_tape (fun g2 => ?_)
        refine callV_Ei C S_7 (c_X9_refuse l D G (fR D H_7 4 a0 0) g2) kV_X4_43 g2 (trivial) (by decide +kernel) dX4_readCondition_92 hl.1 rfl rfl (by decide) cd_X9_refuse ⟨Nat.le_of_ble_eq_true rfl, Nat.le_of_ble_eq_true rfl, Nat.le_of_ble_eq_true rfl, Nat.le_of_ble_eq_true rfl, Nat.le_of_ble_eq_true rfl⟩ (fun v3 H3 L3 S3 K3 q3 => ?_)
        have tk3 : Lw D s.heap H3 a0 := u7_0.trans (Lw.keep S_7.1 ga0 K3 (by decide +kernel) (by decide +kernel) (by decide +kernel))
        exact retE_z hQ C S3 hr dX4_readCondition_95 (z01 (by omega) (by omega)) (⟨by omega, tk3⟩)
      · have b1 : ¬ (400 : Int32).toInt ≤ x4_7.toInt := fun z9 => c1 (i_le.mpr z9)
        refine lv_aload_n hx hb dX4_readCondition_15 rfl (lv_at hl 3 rfl) ?_
        refine lv_iload_n hx hb dX4_readCondition_16 rfl (lv_at hl 4 rfl) ?_
        refine callV_Ei C S_7 (c_X4_readAtom_d2 l D G a0 x1 ga0 (by omega)) kV_X4_75 ga0 (trivial) (by decide +kernel) dX4_readCondition_17 hl.1 rfl rfl (by decide) cd_X4_readAtom ⟨Nat.le_of_ble_eq_true rfl, Nat.le_of_ble_eq_true rfl, Nat.le_of_ble_eq_true rfl, Nat.le_of_ble_eq_true rfl, Nat.le_of_ble_eq_true rfl⟩ (fun v4 H4 L4 S4 K4 q4 => ?_)
        obtain ⟨q4, tq4⟩ := q4
        have tk4 : Lw D s.heap H4 a0 := u7_0.trans tq4
        have k_0 : (0 : Int32).toInt = 0 := by decide
        refine lv_if_ne (tgt := 25) hx hb dX4_readCondition_20 (by decide) (fun c5 => ?_) (fun c5 => ?_)
        · have b5 : ¬ v4.toInt = (0 : Int32).toInt := fun z9 => c5 (i_eq.mpr z9)
          refine lv_iload_n hx hb dX4_readCondition_25 rfl (lv_at hl 1 rfl) ?_
          refine lv_if_eq (tgt := 35) hx hb dX4_readCondition_26 (by decide) (fun c6 => ?_) (fun c6 => ?_)
          · have b6 : x3_7.toInt = (0 : Int32).toInt := i_eq.mp c6
            refine lv_aload_n hx hb dX4_readCondition_35 rfl (lv_at hl 3 rfl) ?_
            refine q_grS (T := TX4) C S4.1 ga0 0 kF_X4_39 dX4_readCondition_36 rfl rfl (by decide) rfl (by decide) kSF_X4_tape (fun g7 => ?_)
            refine q_lds C ks_X4_78 dX4_readCondition_39 (fun a8 ha8 => ?_)
            refine callV_Pi C S4.1 S4.2.1.2.1 (c_X9_isWord l D G (fR D H4 4 a0 0) a8 3 g7 ha8) kV_X4_61 g7 (trivial) dX4_readCondition_41 hl.1 rfl rfl (by decide) cd_X9_isWord ⟨Nat.le_of_ble_eq_true rfl, Nat.le_of_ble_eq_true rfl, Nat.le_of_ble_eq_true rfl, Nat.le_of_ble_eq_true rfl, Nat.le_of_ble_eq_true rfl⟩ (fun v9 q9 => ?_)
            refine lv_istore_n (lv' := [(3, .int v9), (4, .int x4_7), (2, .int x2_7), (0, .ref a0), (1, .int x1)]) hx hb dX4_readCondition_44 rfl hl (by decide) rfl (fun ls hl => ?_)
            refine lv_iload_n hx hb dX4_readCondition_45 rfl (lv_at hl 0 rfl) ?_
            refine lv_if_ne (tgt := 75) hx hb dX4_readCondition_46 (by decide) (fun c10 => ?_) (fun c10 => ?_)
            · have b10 : ¬ v9.toInt = (0 : Int32).toInt := fun z9 => c10 (i_eq.mpr z9)
              refine lv_aload_n hx hb dX4_readCondition_75 rfl (lv_at hl 3 rfl) ?_
              refine q_grS (T := TX4) C S4.1 ga0 0 kF_X4_39 dX4_readCondition_76 rfl rfl (by decide) rfl (by decide) kSF_X4_tape (fun g11 => ?_)
              refine callV_Ev C S4 (c_X9_next l D G (fR D H4 4 a0 0) g11) kV_X4_47 g11 (trivial) (by decide +kernel) dX4_readCondition_79 hl.1 rfl rfl (by decide) cd_X9_next ⟨Nat.le_of_ble_eq_true rfl, Nat.le_of_ble_eq_true rfl, Nat.le_of_ble_eq_true rfl, Nat.le_of_ble_eq_true rfl, Nat.le_of_ble_eq_true rfl⟩ (fun H12 L12 S12 K12 q12 => ?_)
              have tk12 : Lw D s.heap H12 a0 := tk4.trans (Lw.keep S4.1 ga0 K12 (by decide +kernel) (by decide +kernel) (by decide +kernel))
              obtain ⟨v13, ev13⟩ : ∃ y : Int32, y = x4_7 + (1) := ⟨_, rfl⟩
              have k_1 : (1 : Int32).toInt = 1 := by decide
              have f14 : v13.toInt = x4_7.toInt + (1) := by rw [ev13]; exact i_addc k_1 (by omega) (by omega)
              refine lv_iinc (v := v13) (lv' := [(4, .int v13), (3, .int v9), (2, .int x2_7), (0, .ref a0), (1, .int x1)]) hx hb dX4_readCondition_82 hl (k := 1) rfl (by rw [ev13]; rfl) (by decide) rfl (fun ls hl => ?_)
              refine lv_goto (tgt := 7) hx hb dX4_readCondition_85 (by decide) ?_
              exact ih7 v13 v9 x2_7 H12 L12 ls S12 (by omega) (by omega) (by omega) tk12 (by omega) (lv_sub hl [0, 1, 2, 3, 4] rfl)
            · have b10 : v9.toInt = (0 : Int32).toInt := i_eq.mp c10
              refine lv_iload_n hx hb dX4_readCondition_49 rfl (lv_at hl 2 rfl) ?_
              refine lv_if_eq (tgt := 59) hx hb dX4_readCondition_50 (by decide) (fun c15 => ?_) (fun c15 => ?_)
              · have b15 : x2_7.toInt = (0 : Int32).toInt := i_eq.mp c15
                refine lv_aload_n hx hb dX4_readCondition_59 rfl (lv_at hl 3 rfl) ?_
                refine q_grS (T := TX4) C S4.1 ga0 0 kF_X4_39 dX4_readCondition_60 rfl rfl (by decide) rfl (by decide) kSF_X4_tape (fun g16 => ?_)
                refine q_lds C ks_X4_80 dX4_readCondition_63 (fun a17 ha17 => ?_)
                refine callV_Pi C S4.1 S4.2.1.2.1 (c_X9_isWord l D G (fR D H4 4 a0 0) a17 2 g16 ha17) kV_X4_61 g16 (trivial) dX4_readCondition_65 hl.1 rfl rfl (by decide) cd_X9_isWord ⟨Nat.le_of_ble_eq_true rfl, Nat.le_of_ble_eq_true rfl, Nat.le_of_ble_eq_true rfl, Nat.le_of_ble_eq_true rfl, Nat.le_of_ble_eq_true rfl⟩ (fun v18 q18 => ?_)
                refine lv_istore_n (lv' := [(2, .int v18), (3, .int v9), (4, .int x4_7), (0, .ref a0), (1, .int x1)]) hx hb dX4_readCondition_68 rfl hl (by decide) rfl (fun ls hl => ?_)
                refine lv_iload_n hx hb dX4_readCondition_69 rfl (lv_at hl 0 rfl) ?_
                refine lv_if_ne (tgt := 75) hx hb dX4_readCondition_70 (by decide) (fun c19 => ?_) (fun c19 => ?_)
                · have b19 : ¬ v18.toInt = (0 : Int32).toInt := fun z9 => c19 (i_eq.mpr z9)
                  refine lv_aload_n hx hb dX4_readCondition_75 rfl (lv_at hl 3 rfl) ?_
                  refine q_grS (T := TX4) C S4.1 ga0 0 kF_X4_39 dX4_readCondition_76 rfl rfl (by decide) rfl (by decide) kSF_X4_tape (fun g20 => ?_)
                  refine callV_Ev C S4 (c_X9_next l D G (fR D H4 4 a0 0) g20) kV_X4_47 g20 (trivial) (by decide +kernel) dX4_readCondition_79 hl.1 rfl rfl (by decide) cd_X9_next ⟨Nat.le_of_ble_eq_true rfl, Nat.le_of_ble_eq_true rfl, Nat.le_of_ble_eq_true rfl, Nat.le_of_ble_eq_true rfl, Nat.le_of_ble_eq_true rfl⟩ (fun H21 L21 S21 K21 q21 => ?_)
                  have tk21 : Lw D s.heap H21 a0 := tk4.trans (Lw.keep S4.1 ga0 K21 (by decide +kernel) (by decide +kernel) (by decide +kernel))
                  obtain ⟨v22, ev22⟩ : ∃ y : Int32, y = x4_7 + (1) := ⟨_, rfl⟩
                  have k_1 : (1 : Int32).toInt = 1 := by decide
                  have f23 : v22.toInt = x4_7.toInt + (1) := by rw [ev22]; exact i_addc k_1 (by omega) (by omega)
                  refine lv_iinc (v := v22) (lv' := [(4, .int v22), (2, .int v18), (3, .int v9), (0, .ref a0), (1, .int x1)]) hx hb dX4_readCondition_82 hl (k := 2) rfl (by rw [ev22]; rfl) (by decide) rfl (fun ls hl => ?_)
                  refine lv_goto (tgt := 7) hx hb dX4_readCondition_85 (by decide) ?_
                  exact ih7 v22 v9 v18 H21 L21 ls S21 (by omega) (by omega) (by omega) tk21 (by omega) (lv_sub hl [0, 2, 1, 3, 4] rfl)
                · have b19 : v18.toInt = (0 : Int32).toInt := i_eq.mp c19
                  refine lv_iconst (v := 1) hx hb dX4_readCondition_73 (by decide) ?_
                  have k_1 : (1 : Int32).toInt = 1 := by decide
                  exact retE_z hQ C S4 hr dX4_readCondition_74 (z01 (by omega) (by omega)) (⟨by omega, tk4⟩)
              · have b15 : ¬ x2_7.toInt = (0 : Int32).toInt := fun z9 => c15 (i_eq.mpr z9)
                refine lv_aload_n hx hb dX4_readCondition_53 rfl (lv_at hl 3 rfl) ?_
                refine lv_bipush (v := -18) hx hb dX4_readCondition_54 (by decide) ?_
                have k_m18 : (-18 : Int32).toInt = -18 := by decide
                refine callV_Ev C S4 (c_X4_put l D G a0 (-18 : Int32) ga0) kV_X4_55 ga0 (trivial) (by decide +kernel) dX4_readCondition_56 hl.1 rfl rfl (by decide) cd_X4_put ⟨Nat.le_of_ble_eq_true rfl, Nat.le_of_ble_eq_true rfl, Nat.le_of_ble_eq_true rfl, Nat.le_of_ble_eq_true rfl, Nat.le_of_ble_eq_true rfl⟩ (fun H24 L24 S24 K24 q24 => ?_)
                obtain ⟨qa24, qb24, tq24⟩ := q24
                have tk24 : Lw D s.heap H24 a0 := tk4.trans tq24
                refine lv_aload_n hx hb dX4_readCondition_59 rfl (lv_at hl 3 rfl) ?_
                refine q_grS (T := TX4) C S24.1 ga0 0 kF_X4_39 dX4_readCondition_60 rfl rfl (by decide) rfl (by decide) kSF_X4_tape (fun g25 => ?_)
                refine q_lds C ks_X4_80 dX4_readCondition_63 (fun a26 ha26 => ?_)
                refine callV_Pi C S24.1 S24.2.1.2.1 (c_X9_isWord l D G (fR D H24 4 a0 0) a26 2 g25 ha26) kV_X4_61 g25 (trivial) dX4_readCondition_65 hl.1 rfl rfl (by decide) cd_X9_isWord ⟨Nat.le_of_ble_eq_true rfl, Nat.le_of_ble_eq_true rfl, Nat.le_of_ble_eq_true rfl, Nat.le_of_ble_eq_true rfl, Nat.le_of_ble_eq_true rfl⟩ (fun v27 q27 => ?_)
                refine lv_istore_n (lv' := [(2, .int v27), (3, .int v9), (4, .int x4_7), (0, .ref a0), (1, .int x1)]) hx hb dX4_readCondition_68 rfl hl (by decide) rfl (fun ls hl => ?_)
                refine lv_iload_n hx hb dX4_readCondition_69 rfl (lv_at hl 0 rfl) ?_
                refine lv_if_ne (tgt := 75) hx hb dX4_readCondition_70 (by decide) (fun c28 => ?_) (fun c28 => ?_)
                · have b28 : ¬ v27.toInt = (0 : Int32).toInt := fun z9 => c28 (i_eq.mpr z9)
                  refine lv_aload_n hx hb dX4_readCondition_75 rfl (lv_at hl 3 rfl) ?_
                  refine q_grS (T := TX4) C S24.1 ga0 0 kF_X4_39 dX4_readCondition_76 rfl rfl (by decide) rfl (by decide) kSF_X4_tape (fun g29 => ?_)
                  refine callV_Ev C S24 (c_X9_next l D G (fR D H24 4 a0 0) g29) kV_X4_47 g29 (trivial) (by decide +kernel) dX4_readCondition_79 hl.1 rfl rfl (by decide) cd_X9_next ⟨Nat.le_of_ble_eq_true rfl, Nat.le_of_ble_eq_true rfl, Nat.le_of_ble_eq_true rfl, Nat.le_of_ble_eq_true rfl, Nat.le_of_ble_eq_true rfl⟩ (fun H30 L30 S30 K30 q30 => ?_)
                  have tk30 : Lw D s.heap H30 a0 := tk24.trans (Lw.keep S24.1 ga0 K30 (by decide +kernel) (by decide +kernel) (by decide +kernel))
                  obtain ⟨v31, ev31⟩ : ∃ y : Int32, y = x4_7 + (1) := ⟨_, rfl⟩
                  have k_1 : (1 : Int32).toInt = 1 := by decide
                  have f32 : v31.toInt = x4_7.toInt + (1) := by rw [ev31]; exact i_addc k_1 (by omega) (by omega)
                  refine lv_iinc (v := v31) (lv' := [(4, .int v31), (2, .int v27), (3, .int v9), (0, .ref a0), (1, .int x1)]) hx hb dX4_readCondition_82 hl (k := 2) rfl (by rw [ev31]; rfl) (by decide) rfl (fun ls hl => ?_)
                  refine lv_goto (tgt := 7) hx hb dX4_readCondition_85 (by decide) ?_
                  exact ih7 v31 v9 v27 H30 L30 ls S30 (by omega) (by omega) (by omega) tk30 (by omega) (lv_sub hl [0, 2, 1, 3, 4] rfl)
                · have b28 : v27.toInt = (0 : Int32).toInt := i_eq.mp c28
                  refine lv_iconst (v := 1) hx hb dX4_readCondition_73 (by decide) ?_
                  have k_1 : (1 : Int32).toInt = 1 := by decide
                  exact retE_z hQ C S24 hr dX4_readCondition_74 (z01 (by omega) (by omega)) (⟨by omega, tk24⟩)
          · have b6 : ¬ x3_7.toInt = (0 : Int32).toInt := fun z9 => c6 (i_eq.mpr z9)
            refine lv_aload_n hx hb dX4_readCondition_29 rfl (lv_at hl 3 rfl) ?_
            refine lv_bipush (v := -17) hx hb dX4_readCondition_30 (by decide) ?_
            have k_m17 : (-17 : Int32).toInt = -17 := by decide
            refine callV_Ev C S4 (c_X4_put l D G a0 (-17 : Int32) ga0) kV_X4_55 ga0 (trivial) (by decide +kernel) dX4_readCondition_32 hl.1 rfl rfl (by decide) cd_X4_put ⟨Nat.le_of_ble_eq_true rfl, Nat.le_of_ble_eq_true rfl, Nat.le_of_ble_eq_true rfl, Nat.le_of_ble_eq_true rfl, Nat.le_of_ble_eq_true rfl⟩ (fun H33 L33 S33 K33 q33 => ?_)
            obtain ⟨qa33, qb33, tq33⟩ := q33
            have tk33 : Lw D s.heap H33 a0 := tk4.trans tq33
            refine lv_aload_n hx hb dX4_readCondition_35 rfl (lv_at hl 3 rfl) ?_
            refine q_grS (T := TX4) C S33.1 ga0 0 kF_X4_39 dX4_readCondition_36 rfl rfl (by decide) rfl (by decide) kSF_X4_tape (fun g34 => ?_)
            refine q_lds C ks_X4_78 dX4_readCondition_39 (fun a35 ha35 => ?_)
            refine callV_Pi C S33.1 S33.2.1.2.1 (c_X9_isWord l D G (fR D H33 4 a0 0) a35 3 g34 ha35) kV_X4_61 g34 (trivial) dX4_readCondition_41 hl.1 rfl rfl (by decide) cd_X9_isWord ⟨Nat.le_of_ble_eq_true rfl, Nat.le_of_ble_eq_true rfl, Nat.le_of_ble_eq_true rfl, Nat.le_of_ble_eq_true rfl, Nat.le_of_ble_eq_true rfl⟩ (fun v36 q36 => ?_)
            refine lv_istore_n (lv' := [(3, .int v36), (4, .int x4_7), (2, .int x2_7), (0, .ref a0), (1, .int x1)]) hx hb dX4_readCondition_44 rfl hl (by decide) rfl (fun ls hl => ?_)
            refine lv_iload_n hx hb dX4_readCondition_45 rfl (lv_at hl 0 rfl) ?_
            refine lv_if_ne (tgt := 75) hx hb dX4_readCondition_46 (by decide) (fun c37 => ?_) (fun c37 => ?_)
            · have b37 : ¬ v36.toInt = (0 : Int32).toInt := fun z9 => c37 (i_eq.mpr z9)
              refine lv_aload_n hx hb dX4_readCondition_75 rfl (lv_at hl 3 rfl) ?_
              refine q_grS (T := TX4) C S33.1 ga0 0 kF_X4_39 dX4_readCondition_76 rfl rfl (by decide) rfl (by decide) kSF_X4_tape (fun g38 => ?_)
              refine callV_Ev C S33 (c_X9_next l D G (fR D H33 4 a0 0) g38) kV_X4_47 g38 (trivial) (by decide +kernel) dX4_readCondition_79 hl.1 rfl rfl (by decide) cd_X9_next ⟨Nat.le_of_ble_eq_true rfl, Nat.le_of_ble_eq_true rfl, Nat.le_of_ble_eq_true rfl, Nat.le_of_ble_eq_true rfl, Nat.le_of_ble_eq_true rfl⟩ (fun H39 L39 S39 K39 q39 => ?_)
              have tk39 : Lw D s.heap H39 a0 := tk33.trans (Lw.keep S33.1 ga0 K39 (by decide +kernel) (by decide +kernel) (by decide +kernel))
              obtain ⟨v40, ev40⟩ : ∃ y : Int32, y = x4_7 + (1) := ⟨_, rfl⟩
              have k_1 : (1 : Int32).toInt = 1 := by decide
              have f41 : v40.toInt = x4_7.toInt + (1) := by rw [ev40]; exact i_addc k_1 (by omega) (by omega)
              refine lv_iinc (v := v40) (lv' := [(4, .int v40), (3, .int v36), (2, .int x2_7), (0, .ref a0), (1, .int x1)]) hx hb dX4_readCondition_82 hl (k := 1) rfl (by rw [ev40]; rfl) (by decide) rfl (fun ls hl => ?_)
              refine lv_goto (tgt := 7) hx hb dX4_readCondition_85 (by decide) ?_
              exact ih7 v40 v36 x2_7 H39 L39 ls S39 (by omega) (by omega) (by omega) tk39 (by omega) (lv_sub hl [0, 1, 2, 3, 4] rfl)
            · have b37 : v36.toInt = (0 : Int32).toInt := i_eq.mp c37
              refine lv_iload_n hx hb dX4_readCondition_49 rfl (lv_at hl 2 rfl) ?_
              refine lv_if_eq (tgt := 59) hx hb dX4_readCondition_50 (by decide) (fun c42 => ?_) (fun c42 => ?_)
              · have b42 : x2_7.toInt = (0 : Int32).toInt := i_eq.mp c42
                refine lv_aload_n hx hb dX4_readCondition_59 rfl (lv_at hl 3 rfl) ?_
                refine q_grS (T := TX4) C S33.1 ga0 0 kF_X4_39 dX4_readCondition_60 rfl rfl (by decide) rfl (by decide) kSF_X4_tape (fun g43 => ?_)
                refine q_lds C ks_X4_80 dX4_readCondition_63 (fun a44 ha44 => ?_)
                refine callV_Pi C S33.1 S33.2.1.2.1 (c_X9_isWord l D G (fR D H33 4 a0 0) a44 2 g43 ha44) kV_X4_61 g43 (trivial) dX4_readCondition_65 hl.1 rfl rfl (by decide) cd_X9_isWord ⟨Nat.le_of_ble_eq_true rfl, Nat.le_of_ble_eq_true rfl, Nat.le_of_ble_eq_true rfl, Nat.le_of_ble_eq_true rfl, Nat.le_of_ble_eq_true rfl⟩ (fun v45 q45 => ?_)
                refine lv_istore_n (lv' := [(2, .int v45), (3, .int v36), (4, .int x4_7), (0, .ref a0), (1, .int x1)]) hx hb dX4_readCondition_68 rfl hl (by decide) rfl (fun ls hl => ?_)
                refine lv_iload_n hx hb dX4_readCondition_69 rfl (lv_at hl 0 rfl) ?_
                refine lv_if_ne (tgt := 75) hx hb dX4_readCondition_70 (by decide) (fun c46 => ?_) (fun c46 => ?_)
                · have b46 : ¬ v45.toInt = (0 : Int32).toInt := fun z9 => c46 (i_eq.mpr z9)
                  refine lv_aload_n hx hb dX4_readCondition_75 rfl (lv_at hl 3 rfl) ?_
                  refine q_grS (T := TX4) C S33.1 ga0 0 kF_X4_39 dX4_readCondition_76 rfl rfl (by decide) rfl (by decide) kSF_X4_tape (fun g47 => ?_)
                  refine callV_Ev C S33 (c_X9_next l D G (fR D H33 4 a0 0) g47) kV_X4_47 g47 (trivial) (by decide +kernel) dX4_readCondition_79 hl.1 rfl rfl (by decide) cd_X9_next ⟨Nat.le_of_ble_eq_true rfl, Nat.le_of_ble_eq_true rfl, Nat.le_of_ble_eq_true rfl, Nat.le_of_ble_eq_true rfl, Nat.le_of_ble_eq_true rfl⟩ (fun H48 L48 S48 K48 q48 => ?_)
                  have tk48 : Lw D s.heap H48 a0 := tk33.trans (Lw.keep S33.1 ga0 K48 (by decide +kernel) (by decide +kernel) (by decide +kernel))
                  obtain ⟨v49, ev49⟩ : ∃ y : Int32, y = x4_7 + (1) := ⟨_, rfl⟩
                  have k_1 : (1 : Int32).toInt = 1 := by decide
                  have f50 : v49.toInt = x4_7.toInt + (1) := by rw [ev49]; exact i_addc k_1 (by omega) (by omega)
                  refine lv_iinc (v := v49) (lv' := [(4, .int v49), (2, .int v45), (3, .int v36), (0, .ref a0), (1, .int x1)]) hx hb dX4_readCondition_82 hl (k := 2) rfl (by rw [ev49]; rfl) (by decide) rfl (fun ls hl => ?_)
                  refine lv_goto (tgt := 7) hx hb dX4_readCondition_85 (by decide) ?_
                  exact ih7 v49 v36 v45 H48 L48 ls S48 (by omega) (by omega) (by omega) tk48 (by omega) (lv_sub hl [0, 2, 1, 3, 4] rfl)
                · have b46 : v45.toInt = (0 : Int32).toInt := i_eq.mp c46
                  refine lv_iconst (v := 1) hx hb dX4_readCondition_73 (by decide) ?_
                  have k_1 : (1 : Int32).toInt = 1 := by decide
                  exact retE_z hQ C S33 hr dX4_readCondition_74 (z01 (by omega) (by omega)) (⟨by omega, tk33⟩)
              · have b42 : ¬ x2_7.toInt = (0 : Int32).toInt := fun z9 => c42 (i_eq.mpr z9)
                refine lv_aload_n hx hb dX4_readCondition_53 rfl (lv_at hl 3 rfl) ?_
                refine lv_bipush (v := -18) hx hb dX4_readCondition_54 (by decide) ?_
                have k_m18 : (-18 : Int32).toInt = -18 := by decide
                refine callV_Ev C S33 (c_X4_put l D G a0 (-18 : Int32) ga0) kV_X4_55 ga0 (trivial) (by decide +kernel) dX4_readCondition_56 hl.1 rfl rfl (by decide) cd_X4_put ⟨Nat.le_of_ble_eq_true rfl, Nat.le_of_ble_eq_true rfl, Nat.le_of_ble_eq_true rfl, Nat.le_of_ble_eq_true rfl, Nat.le_of_ble_eq_true rfl⟩ (fun H51 L51 S51 K51 q51 => ?_)
                obtain ⟨qa51, qb51, tq51⟩ := q51
                have tk51 : Lw D s.heap H51 a0 := tk33.trans tq51
                refine lv_aload_n hx hb dX4_readCondition_59 rfl (lv_at hl 3 rfl) ?_
                refine q_grS (T := TX4) C S51.1 ga0 0 kF_X4_39 dX4_readCondition_60 rfl rfl (by decide) rfl (by decide) kSF_X4_tape (fun g52 => ?_)
                refine q_lds C ks_X4_80 dX4_readCondition_63 (fun a53 ha53 => ?_)
                refine callV_Pi C S51.1 S51.2.1.2.1 (c_X9_isWord l D G (fR D H51 4 a0 0) a53 2 g52 ha53) kV_X4_61 g52 (trivial) dX4_readCondition_65 hl.1 rfl rfl (by decide) cd_X9_isWord ⟨Nat.le_of_ble_eq_true rfl, Nat.le_of_ble_eq_true rfl, Nat.le_of_ble_eq_true rfl, Nat.le_of_ble_eq_true rfl, Nat.le_of_ble_eq_true rfl⟩ (fun v54 q54 => ?_)
                refine lv_istore_n (lv' := [(2, .int v54), (3, .int v36), (4, .int x4_7), (0, .ref a0), (1, .int x1)]) hx hb dX4_readCondition_68 rfl hl (by decide) rfl (fun ls hl => ?_)
                refine lv_iload_n hx hb dX4_readCondition_69 rfl (lv_at hl 0 rfl) ?_
                refine lv_if_ne (tgt := 75) hx hb dX4_readCondition_70 (by decide) (fun c55 => ?_) (fun c55 => ?_)
                · have b55 : ¬ v54.toInt = (0 : Int32).toInt := fun z9 => c55 (i_eq.mpr z9)
                  refine lv_aload_n hx hb dX4_readCondition_75 rfl (lv_at hl 3 rfl) ?_
                  refine q_grS (T := TX4) C S51.1 ga0 0 kF_X4_39 dX4_readCondition_76 rfl rfl (by decide) rfl (by decide) kSF_X4_tape (fun g56 => ?_)
                  refine callV_Ev C S51 (c_X9_next l D G (fR D H51 4 a0 0) g56) kV_X4_47 g56 (trivial) (by decide +kernel) dX4_readCondition_79 hl.1 rfl rfl (by decide) cd_X9_next ⟨Nat.le_of_ble_eq_true rfl, Nat.le_of_ble_eq_true rfl, Nat.le_of_ble_eq_true rfl, Nat.le_of_ble_eq_true rfl, Nat.le_of_ble_eq_true rfl⟩ (fun H57 L57 S57 K57 q57 => ?_)
                  have tk57 : Lw D s.heap H57 a0 := tk51.trans (Lw.keep S51.1 ga0 K57 (by decide +kernel) (by decide +kernel) (by decide +kernel))
                  obtain ⟨v58, ev58⟩ : ∃ y : Int32, y = x4_7 + (1) := ⟨_, rfl⟩
                  have k_1 : (1 : Int32).toInt = 1 := by decide
                  have f59 : v58.toInt = x4_7.toInt + (1) := by rw [ev58]; exact i_addc k_1 (by omega) (by omega)
                  refine lv_iinc (v := v58) (lv' := [(4, .int v58), (2, .int v54), (3, .int v36), (0, .ref a0), (1, .int x1)]) hx hb dX4_readCondition_82 hl (k := 2) rfl (by rw [ev58]; rfl) (by decide) rfl (fun ls hl => ?_)
                  refine lv_goto (tgt := 7) hx hb dX4_readCondition_85 (by decide) ?_
                  exact ih7 v58 v36 v54 H57 L57 ls S57 (by omega) (by omega) (by omega) tk57 (by omega) (lv_sub hl [0, 2, 1, 3, 4] rfl)
                · have b55 : v54.toInt = (0 : Int32).toInt := i_eq.mp c55
                  refine lv_iconst (v := 1) hx hb dX4_readCondition_73 (by decide) ?_
                  have k_1 : (1 : Int32).toInt = 1 := by decide
                  exact retE_z hQ C S51 hr dX4_readCondition_74 (z01 (by omega) (by omega)) (⟨by omega, tk51⟩)
        · have b5 : v4.toInt = (0 : Int32).toInt := i_eq.mp c5
          refine lv_iconst (v := 0) hx hb dX4_readCondition_23 (by decide) ?_
          exact retE_z hQ C S4 hr dX4_readCondition_24 (z01 (by omega) (by omega)) (⟨by omega, tk4⟩)
  have k_0 : (0 : Int32).toInt = 0 := by decide
  exact Lp7 2147483648 (0 : Int32) (0 : Int32) (0 : Int32) s.heap [] ls S (by omega) (by omega) (by omega) tk0  (by omega) (lv_sub hl [0, 1, 2, 3, 4] rfl)

set_option maxRecDepth 100000 in
set_option maxHeartbeats 4000000 in
theorem c_X4_readAtom_d1 (l : Launch) (D : DD) (G : Nat → Nat) (a0 : Nat) (x1 : Int32) (ga0 : G a0 = 21) (ix1 : 1 ≤ x1.toInt ∧ x1.toInt ≤ 1) : CE l D G yX4_readAtom cX4_readAtom 4 (some .boolean) 17 [.ref a0, .int x1] (fun _ => True) [(2, 3), (2, 4), (2, 5), (2, 6), (2, 2), (22, 0), (21, 3)] (xI (fun H r H1 => (0 ≤ r.toInt ∧ r.toInt ≤ 1) ∧ (Lw D H H1 a0))) := by
  refine enter (by decide) (Nat.le_of_ble_eq_true rfl) ?_
  intro p e s m args below meth c ls Q hA hQ C hr hO hpre hl
  have hx := C.1
  have hb := C.2.1
  have S : Sd D G [(2, 3), (2, 4), (2, 5), (2, 6), (2, 2), (22, 0), (21, 3)] s.heap s.heap [] := Sd.start hO
  have hl : lv_has ls 4 [(0, .ref a0), (1, .int x1)] := hl
  have tk0 : Lw D s.heap s.heap a0 := Lw.refl
  refine lv_aload_n hx hb dX4_readAtom_0 rfl (lv_at hl 0 rfl) ?_
  refine q_grS (T := TX4) C S.1 ga0 0 kF_X4_39 dX4_readAtom_1 rfl rfl (by decide) rfl (by decide) kSF_X4_tape (fun g1 => ?_)
  refine q_lds C ks_X4_82 dX4_readAtom_4 (fun a2 ha2 => ?_)
  refine callV_Pi C S.1 S.2.1.2.1 (c_X9_isWord l D G (fR D s.heap 4 a0 0) a2 3 g1 ha2) kV_X4_61 g1 (trivial) dX4_readAtom_6 hl.1 rfl rfl (by decide) cd_X9_isWord ⟨Nat.le_of_ble_eq_true rfl, Nat.le_of_ble_eq_true rfl, Nat.le_of_ble_eq_true rfl, Nat.le_of_ble_eq_true rfl, Nat.le_of_ble_eq_true rfl⟩ (fun v3 q3 => ?_)
  refine lv_istore_n (lv' := [(2, .int v3), (0, .ref a0), (1, .int x1)]) hx hb dX4_readAtom_9 rfl hl (by decide) rfl (fun ls hl => ?_)
  refine lv_iload_n hx hb dX4_readAtom_10 rfl (lv_at hl 0 rfl) ?_
  have k_0 : (0 : Int32).toInt = 0 := by decide
  refine lv_if_ne (tgt := 26) hx hb dX4_readAtom_11 (by decide) (fun c4 => ?_) (fun c4 => ?_)
  · have b4 : ¬ v3.toInt = (0 : Int32).toInt := fun z9 => c4 (i_eq.mpr z9)
    refine lv_iload_n hx hb dX4_readAtom_26 rfl (lv_at hl 2 rfl) ?_
    refine lv_bipush (v := 6) hx hb dX4_readAtom_27 (by decide) ?_
    have k_6 : (6 : Int32).toInt = 6 := by decide
    refine lv_icmp_lt (tgt := 40) hx hb dX4_readAtom_29 (by decide) (fun c5 => ?_) (fun c5 => ?_)
    · have b5 : x1.toInt < (6 : Int32).toInt := i_lt.mp c5
      refine lv_aload_n hx hb dX4_readAtom_40 rfl (lv_at hl 1 rfl) ?_
      refine q_grS (T := TX4) C S.1 ga0 0 kF_X4_39 dX4_readAtom_41 rfl rfl (by decide) rfl (by decide) kSF_X4_tape (fun g6 => ?_)
      refine callV_Ev C S (c_X9_next l D G (fR D s.heap 4 a0 0) g6) kV_X4_47 g6 (trivial) (by decide +kernel) dX4_readAtom_44 hl.1 rfl rfl (by decide) cd_X9_next ⟨Nat.le_of_ble_eq_true rfl, Nat.le_of_ble_eq_true rfl, Nat.le_of_ble_eq_true rfl, Nat.le_of_ble_eq_true rfl, Nat.le_of_ble_eq_true rfl⟩ (fun H7 L7 S7 K7 q7 => ?_)
      have tk7 : Lw D s.heap H7 a0 := tk0.trans (Lw.keep S.1 ga0 K7 (by decide +kernel) (by decide +kernel) (by decide +kernel))
      refine lv_iload_n hx hb dX4_readAtom_47 rfl (lv_at hl 0 rfl) ?_
      refine lv_if_ne (tgt := 79) hx hb dX4_readAtom_48 (by decide) (fun c8 => ?_) (fun c8 => ?_)
      · have b8 : ¬ v3.toInt = (0 : Int32).toInt := fun z9 => c8 (i_eq.mpr z9)
        refine lv_aload_n hx hb dX4_readAtom_79 rfl (lv_at hl 1 rfl) ?_
        refine lv_iload_n hx hb dX4_readAtom_80 rfl (lv_at hl 2 rfl) ?_
        refine lv_iconst (v := 1) hx hb dX4_readAtom_81 (by decide) ?_
        have k_1 : (1 : Int32).toInt = 1 := by decide
        refine lv_iadd hx hb dX4_readAtom_82 ?_
        refine lv_topi (fun v9 ev9 => ?_)
        have f10 : v9.toInt = x1.toInt + (1 : Int32).toInt := by rw [ev9]; exact i_add (by omega) (by omega)
        refine callV_Ei C S7 (c_X4_readAtom_d2 l D G a0 v9 ga0 (by omega)) kV_X4_75 ga0 (trivial) (by decide +kernel) dX4_readAtom_83 hl.1 rfl rfl (by decide) cd_X4_readAtom ⟨Nat.le_of_ble_eq_true rfl, Nat.le_of_ble_eq_true rfl, Nat.le_of_ble_eq_true rfl, Nat.le_of_ble_eq_true rfl, Nat.le_of_ble_eq_true rfl⟩ (fun v11 H11 L11 S11 K11 q11 => ?_)
        obtain ⟨q11, tq11⟩ := q11
        have tk11 : Lw D s.heap H11 a0 := tk7.trans tq11
        refine lv_if_ne (tgt := 91) hx hb dX4_readAtom_86 (by decide) (fun c12 => ?_) (fun c12 => ?_)
        · have b12 : ¬ v11.toInt = (0 : Int32).toInt := fun z9 => c12 (i_eq.mpr z9)
          refine lv_aload_n hx hb dX4_readAtom_91 rfl (lv_at hl 1 rfl) ?_
          refine lv_bipush (v := -13) hx hb dX4_readAtom_92 (by decide) ?_
          have k_m13 : (-13 : Int32).toInt = -13 := by decide
          refine callV_Ev C S11 (c_X4_put l D G a0 (-13 : Int32) ga0) kV_X4_55 ga0 (trivial) (by decide +kernel) dX4_readAtom_94 hl.1 rfl rfl (by decide) cd_X4_put ⟨Nat.le_of_ble_eq_true rfl, Nat.le_of_ble_eq_true rfl, Nat.le_of_ble_eq_true rfl, Nat.le_of_ble_eq_true rfl, Nat.le_of_ble_eq_true rfl⟩ (fun H13 L13 S13 K13 q13 => ?_)
          obtain ⟨qa13, qb13, tq13⟩ := q13
          have tk13 : Lw D s.heap H13 a0 := tk11.trans tq13
          refine lv_iconst (v := 1) hx hb dX4_readAtom_97 (by decide) ?_
          exact retE_z hQ C S13 hr dX4_readAtom_98 (z01 (by omega) (by omega)) (⟨by omega, tk13⟩)
        · have b12 : v11.toInt = (0 : Int32).toInt := i_eq.mp c12
          refine lv_iconst (v := 0) hx hb dX4_readAtom_89 (by decide) ?_
          exact retE_z hQ C S11 hr dX4_readAtom_90 (z01 (by omega) (by omega)) (⟨by omega, tk11⟩)
      · have b8 : v3.toInt = (0 : Int32).toInt := i_eq.mp c8
        exact absurd b8 (by omega)
    · have b5 : ¬ x1.toInt < (6 : Int32).toInt := fun z9 => c5 (i_lt.mpr z9)
      exact absurd b5 (by omega)
  · have b4 : v3.toInt = (0 : Int32).toInt := i_eq.mp c4
    refine lv_aload_n hx hb dX4_readAtom_14 rfl (lv_at hl 1 rfl) ?_
    refine q_grS (T := TX4) C S.1 ga0 0 kF_X4_39 dX4_readAtom_15 rfl rfl (by decide) rfl (by decide) kSF_X4_tape (fun g14 => ?_)
    refine lv_bipush (v := 40) hx hb dX4_readAtom_18 (by decide) ?_
    have k_40 : (40 : Int32).toInt = 40 := by decide
    refine callV_Pi C S.1 S.2.1.2.1 (c_X9_isSign l D G (fR D s.heap 4 a0 0) (40 : Int32) g14) kV_X4_84 g14 (trivial) dX4_readAtom_20 hl.1 rfl rfl (by decide) cd_X9_isSign ⟨Nat.le_of_ble_eq_true rfl, Nat.le_of_ble_eq_true rfl, Nat.le_of_ble_eq_true rfl, Nat.le_of_ble_eq_true rfl, Nat.le_of_ble_eq_true rfl⟩ (fun v15 q15 => ?_)
    refine lv_if_eq (tgt := 99) hx hb dX4_readAtom_23 (by decide) (fun c16 => ?_) (fun c16 => ?_)
    · have b16 : v15.toInt = (0 : Int32).toInt := i_eq.mp c16
      refine lv_aload_n hx hb dX4_readAtom_99 rfl (lv_at hl 1 rfl) ?_
      refine callV_Pi C S.1 S.2.1.2.1 (c_X4_presentTruth l D G a0 ga0) kV_X4_91 ga0 (trivial) dX4_readAtom_100 hl.1 rfl rfl (by decide) cd_X4_presentTruth ⟨Nat.le_of_ble_eq_true rfl, Nat.le_of_ble_eq_true rfl, Nat.le_of_ble_eq_true rfl, Nat.le_of_ble_eq_true rfl, Nat.le_of_ble_eq_true rfl⟩ (fun v17 q17 => ?_)
      refine lv_istore_n (lv' := [(3, .int v17), (2, .int v3), (0, .ref a0), (1, .int x1)]) hx hb dX4_readAtom_103 rfl hl (by decide) rfl (fun ls hl => ?_)
      refine lv_iload_n hx hb dX4_readAtom_104 rfl (lv_at hl 0 rfl) ?_
      refine lv_iconst (v := -1) hx hb dX4_readAtom_105 (by decide) ?_
      have k_m1 : (-1 : Int32).toInt = -1 := by decide
      refine lv_icmp_ne (tgt := 114) hx hb dX4_readAtom_106 (by decide) (fun c18 => ?_) (fun c18 => ?_)
      · have b18 : ¬ v17.toInt = (-1 : Int32).toInt := fun z9 => c18 (i_eq.mpr z9)
        refine lv_aload_n hx hb dX4_readAtom_114 rfl (lv_at hl 2 rfl) ?_
        refine lv_iload_n hx hb dX4_readAtom_115 rfl (lv_at hl 0 rfl) ?_
        refine callV_Ev C S (c_X4_put l D G a0 v17 ga0) kV_X4_55 ga0 (trivial) (by decide +kernel) dX4_readAtom_116 hl.1 rfl rfl (by decide) cd_X4_put ⟨Nat.le_of_ble_eq_true rfl, Nat.le_of_ble_eq_true rfl, Nat.le_of_ble_eq_true rfl, Nat.le_of_ble_eq_true rfl, Nat.le_of_ble_eq_true rfl⟩ (fun H19 L19 S19 K19 q19 => ?_)
        obtain ⟨qa19, qb19, tq19⟩ := q19
        have tk19 : Lw D s.heap H19 a0 := tk0.trans tq19
        refine lv_aload_n hx hb dX4_readAtom_119 rfl (lv_at hl 2 rfl) ?_
        refine q_grS (T := TX4) C S19.1 ga0 0 kF_X4_39 dX4_readAtom_120 rfl rfl (by decide) rfl (by decide) kSF_X4_tape (fun g20 => ?_)
        refine callV_Ev C S19 (c_X9_next l D G (fR D H19 4 a0 0) g20) kV_X4_47 g20 (trivial) (by decide +kernel) dX4_readAtom_123 hl.1 rfl rfl (by decide) cd_X9_next ⟨Nat.le_of_ble_eq_true rfl, Nat.le_of_ble_eq_true rfl, Nat.le_of_ble_eq_true rfl, Nat.le_of_ble_eq_true rfl, Nat.le_of_ble_eq_true rfl⟩ (fun H21 L21 S21 K21 q21 => ?_)
        have tk21 : Lw D s.heap H21 a0 := tk19.trans (Lw.keep S19.1 ga0 K21 (by decide +kernel) (by decide +kernel) (by decide +kernel))
        refine lv_iconst (v := 1) hx hb dX4_readAtom_126 (by decide) ?_
        have k_1 : (1 : Int32).toInt = 1 := by decide
        exact retE_z hQ C S21 hr dX4_readAtom_127 (z01 (by omega) (by omega)) (⟨by omega, tk21⟩)
      · have b18 : v17.toInt = (-1 : Int32).toInt := i_eq.mp c18
        refine lv_aload_n hx hb dX4_readAtom_109 rfl (lv_at hl 2 rfl) ?_
        refine callV_Ei C S (c_X4_readComparison l D G a0 ga0) kV_X4_94 ga0 (trivial) (by decide +kernel) dX4_readAtom_110 hl.1 rfl rfl (by decide) cd_X4_readComparison ⟨Nat.le_of_ble_eq_true rfl, Nat.le_of_ble_eq_true rfl, Nat.le_of_ble_eq_true rfl, Nat.le_of_ble_eq_true rfl, Nat.le_of_ble_eq_true rfl⟩ (fun v22 H22 L22 S22 K22 q22 => ?_)
        obtain ⟨q22, tq22⟩ := q22
        have tk22 : Lw D s.heap H22 a0 := tk0.trans tq22
        exact retE_z hQ C S22 hr dX4_readAtom_113 (z01 (by omega) (by omega)) (⟨by omega, tk22⟩)
    · have b16 : ¬ v15.toInt = (0 : Int32).toInt := fun z9 => c16 (i_eq.mpr z9)
      refine lv_iload_n hx hb dX4_readAtom_26 rfl (lv_at hl 2 rfl) ?_
      refine lv_bipush (v := 6) hx hb dX4_readAtom_27 (by decide) ?_
      have k_6 : (6 : Int32).toInt = 6 := by decide
      refine lv_icmp_lt (tgt := 40) hx hb dX4_readAtom_29 (by decide) (fun c23 => ?_) (fun c23 => ?_)
      · have b23 : x1.toInt < (6 : Int32).toInt := i_lt.mp c23
        refine lv_aload_n hx hb dX4_readAtom_40 rfl (lv_at hl 1 rfl) ?_
        refine q_grS (T := TX4) C S.1 ga0 0 kF_X4_39 dX4_readAtom_41 rfl rfl (by decide) rfl (by decide) kSF_X4_tape (fun g24 => ?_)
        refine callV_Ev C S (c_X9_next l D G (fR D s.heap 4 a0 0) g24) kV_X4_47 g24 (trivial) (by decide +kernel) dX4_readAtom_44 hl.1 rfl rfl (by decide) cd_X9_next ⟨Nat.le_of_ble_eq_true rfl, Nat.le_of_ble_eq_true rfl, Nat.le_of_ble_eq_true rfl, Nat.le_of_ble_eq_true rfl, Nat.le_of_ble_eq_true rfl⟩ (fun H25 L25 S25 K25 q25 => ?_)
        have tk25 : Lw D s.heap H25 a0 := tk0.trans (Lw.keep S.1 ga0 K25 (by decide +kernel) (by decide +kernel) (by decide +kernel))
        refine lv_iload_n hx hb dX4_readAtom_47 rfl (lv_at hl 0 rfl) ?_
        refine lv_if_ne (tgt := 79) hx hb dX4_readAtom_48 (by decide) (fun c26 => ?_) (fun c26 => ?_)
        · have b26 : ¬ v3.toInt = (0 : Int32).toInt := fun z9 => c26 (i_eq.mpr z9)
          exact absurd b26 (by omega)
        · have b26 : v3.toInt = (0 : Int32).toInt := i_eq.mp c26
          refine lv_aload_n hx hb dX4_readAtom_51 rfl (lv_at hl 1 rfl) ?_
          refine lv_iload_n hx hb dX4_readAtom_52 rfl (lv_at hl 2 rfl) ?_
          refine lv_iconst (v := 1) hx hb dX4_readAtom_53 (by decide) ?_
          have k_1 : (1 : Int32).toInt = 1 := by decide
          refine lv_iadd hx hb dX4_readAtom_54 ?_
          refine lv_topi (fun v27 ev27 => ?_)
          have f28 : v27.toInt = x1.toInt + (1 : Int32).toInt := by rw [ev27]; exact i_add (by omega) (by omega)
          refine callV_Ei C S25 (c_X4_readCondition_d2 l D G a0 v27 ga0 (by omega)) kV_X4_65 ga0 (trivial) (by decide +kernel) dX4_readAtom_55 hl.1 rfl rfl (by decide) cd_X4_readCondition ⟨Nat.le_of_ble_eq_true rfl, Nat.le_of_ble_eq_true rfl, Nat.le_of_ble_eq_true rfl, Nat.le_of_ble_eq_true rfl, Nat.le_of_ble_eq_true rfl⟩ (fun v29 H29 L29 S29 K29 q29 => ?_)
          obtain ⟨q29, tq29⟩ := q29
          have tk29 : Lw D s.heap H29 a0 := tk25.trans tq29
          refine lv_if_eq (tgt := 77) hx hb dX4_readAtom_58 (by decide) (fun c30 => ?_) (fun c30 => ?_)
          · have b30 : v29.toInt = (0 : Int32).toInt := i_eq.mp c30
            refine lv_iconst (v := 0) hx hb dX4_readAtom_77 (by decide) ?_
            exact retE_z hQ C S29 hr dX4_readAtom_78 (z01 (by omega) (by omega)) (⟨by omega, tk29⟩)
          · have b30 : ¬ v29.toInt = (0 : Int32).toInt := fun z9 => c30 (i_eq.mpr z9)
            refine lv_aload_n hx hb dX4_readAtom_61 rfl (lv_at hl 1 rfl) ?_
            refine q_grS (T := TX4) C S29.1 ga0 0 kF_X4_39 dX4_readAtom_62 rfl rfl (by decide) rfl (by decide) kSF_X4_tape (fun g31 => ?_)
            refine lv_bipush (v := 41) hx hb dX4_readAtom_65 (by decide) ?_
            have k_41 : (41 : Int32).toInt = 41 := by decide
            refine callV_Ei C S29 (c_X9_takeSign l D G (fR D H29 4 a0 0) (41 : Int32) g31) kV_X4_88 g31 (trivial) (by decide +kernel) dX4_readAtom_67 hl.1 rfl rfl (by decide) cd_X9_takeSign ⟨Nat.le_of_ble_eq_true rfl, Nat.le_of_ble_eq_true rfl, Nat.le_of_ble_eq_true rfl, Nat.le_of_ble_eq_true rfl, Nat.le_of_ble_eq_true rfl⟩ (fun v32 H32 L32 S32 K32 q32 => ?_)
            have tk32 : Lw D s.heap H32 a0 := tk29.trans (Lw.keep S29.1 ga0 K32 (by decide +kernel) (by decide +kernel) (by decide +kernel))
            refine lv_if_eq (tgt := 77) hx hb dX4_readAtom_70 (by decide) (fun c33 => ?_) (fun c33 => ?_)
            · have b33 : v32.toInt = (0 : Int32).toInt := i_eq.mp c33
              refine lv_iconst (v := 0) hx hb dX4_readAtom_77 (by decide) ?_
              exact retE_z hQ C S32 hr dX4_readAtom_78 (z01 (by omega) (by omega)) (⟨by omega, tk32⟩)
            · have b33 : ¬ v32.toInt = (0 : Int32).toInt := fun z9 => c33 (i_eq.mpr z9)
              refine lv_iconst (v := 1) hx hb dX4_readAtom_73 (by decide) ?_
              refine lv_goto (tgt := 78) hx hb dX4_readAtom_74 (by decide) ?_
              exact retE_z hQ C S32 hr dX4_readAtom_78 (z01 (by omega) (by omega)) (⟨by omega, tk32⟩)
      · have b23 : ¬ x1.toInt < (6 : Int32).toInt := fun z9 => c23 (i_lt.mpr z9)
        exact absurd b23 (by omega)

set_option maxRecDepth 100000 in
set_option maxHeartbeats 4000000 in
theorem c_X4_readCondition_d1 (l : Launch) (D : DD) (G : Nat → Nat) (a0 : Nat) (x1 : Int32) (ga0 : G a0 = 21) (ix1 : 1 ≤ x1.toInt ∧ x1.toInt ≤ 1) : CE l D G yX4_readCondition cX4_readCondition 5 (some .boolean) 18 [.ref a0, .int x1] (fun _ => True) [(2, 3), (2, 4), (2, 5), (2, 6), (2, 2), (22, 0), (21, 3)] (xI (fun H r H1 => (0 ≤ r.toInt ∧ r.toInt ≤ 1) ∧ (Lw D H H1 a0))) := by
  refine enter (by decide) (Nat.le_of_ble_eq_true rfl) ?_
  intro p e s m args below meth c ls Q hA hQ C hr hO hpre hl
  have hx := C.1
  have hb := C.2.1
  have S : Sd D G [(2, 3), (2, 4), (2, 5), (2, 6), (2, 2), (22, 0), (21, 3)] s.heap s.heap [] := Sd.start hO
  have hl : lv_has ls 5 [(0, .ref a0), (1, .int x1)] := hl
  have tk0 : Lw D s.heap s.heap a0 := Lw.refl
  refine lv_iconst (v := 0) hx hb dX4_readCondition_0 (by decide) ?_
  refine lv_istore_n (lv' := [(2, .int (0 : Int32)), (0, .ref a0), (1, .int x1)]) hx hb dX4_readCondition_1 rfl hl (by decide) rfl (fun ls hl => ?_)
  refine lv_iconst (v := 0) hx hb dX4_readCondition_2 (by decide) ?_
  refine lv_istore_n (lv' := [(3, .int (0 : Int32)), (2, .int (0 : Int32)), (0, .ref a0), (1, .int x1)]) hx hb dX4_readCondition_3 rfl hl (by decide) rfl (fun ls hl => ?_)
  refine lv_iconst (v := 0) hx hb dX4_readCondition_4 (by decide) ?_
  refine lv_istore (lv' := [(4, .int (0 : Int32)), (3, .int (0 : Int32)), (2, .int (0 : Int32)), (0, .ref a0), (1, .int x1)]) hx hb dX4_readCondition_5 hl (by decide) rfl (fun ls hl => ?_)
  have Lp7 : ∀ (n : Nat) (x4_7 : Int32) (x3_7 : Int32) (x2_7 : Int32) (H_7 : Heap) (L_7 : List Loc) (ls : Array Slot), (Sd D G [(2, 3), (2, 4), (2, 5), (2, 6), (2, 2), (22, 0), (21, 3)] s.heap H_7 L_7) → (0 ≤ x4_7.toInt ∧ x4_7.toInt ≤ 2147483647) → (0 ≤ x3_7.toInt ∧ x3_7.toInt ≤ 1) → (0 ≤ x2_7.toInt ∧ x2_7.toInt ≤ 1) → (Lw D s.heap H_7 a0) → 2147483648 - x4_7.toInt ≤ (n : Int) → lv_has ls 5 [(4, .int x4_7), (3, .int x3_7), (2, .int x2_7), (0, .ref a0), (1, .int x1)] → W p l e (rmU 18 0 0) s m args below meth c H_7 L_7 0 0 Q (F0 m 7 ls []) := by
    intro n
    induction n with
    | zero =>
      intro x4_7 x3_7 x2_7 H_7 L_7 ls S_7 j7_0 j7_1 j7_2 u7_0 hn hl
      exact absurd hn (by omega)
    | succ n ih7 =>
      intro x4_7 x3_7 x2_7 H_7 L_7 ls S_7 j7_0 j7_1 j7_2 u7_0 hn hl
      refine lv_iload hx hb dX4_readCondition_7 (lv_at hl 0 rfl) ?_
      refine lv_sipush (v := 400) hx hb dX4_readCondition_9 (by decide) ?_
      have k_400 : (400 : Int32).toInt = 400 := by decide
      refine lv_icmp_ge (tgt := 88) hx hb dX4_readCondition_12 (by decide) (fun c1 => ?_) (fun c1 => ?_)
      · have b1 : (400 : Int32).toInt ≤ x4_7.toInt := i_le.mp c1
        refine lv_aload_n hx hb dX4_readCondition_88 rfl (lv_at hl 3 rfl) ?_
        refine q_grS (T := TX4) C S_7.1 ga0 0 kF_X4_39 dX4_readCondition_89 rfl rfl (by decide) rfl (by decide) kSF_X4_tape (fun g2 => ?_)
        refine callV_Ei C S_7 (c_X9_refuse l D G (fR D H_7 4 a0 0) g2) kV_X4_43 g2 (trivial) (by decide +kernel) dX4_readCondition_92 hl.1 rfl rfl (by decide) cd_X9_refuse ⟨Nat.le_of_ble_eq_true rfl, Nat.le_of_ble_eq_true rfl, Nat.le_of_ble_eq_true rfl, Nat.le_of_ble_eq_true rfl, Nat.le_of_ble_eq_true rfl⟩ (fun v3 H3 L3 S3 K3 q3 => ?_)
        have tk3 : Lw D s.heap H3 a0 := u7_0.trans (Lw.keep S_7.1 ga0 K3 (by decide +kernel) (by decide +kernel) (by decide +kernel))
        exact retE_z hQ C S3 hr dX4_readCondition_95 (z01 (by omega) (by omega)) (⟨by omega, tk3⟩)
      · have b1 : ¬ (400 : Int32).toInt ≤ x4_7.toInt := fun z9 => c1 (i_le.mpr z9)
        refine lv_aload_n hx hb dX4_readCondition_15 rfl (lv_at hl 3 rfl) ?_
        refine lv_iload_n hx hb dX4_readCondition_16 rfl (lv_at hl 4 rfl) ?_
        refine callV_Ei C S_7 (c_X4_readAtom_d1 l D G a0 x1 ga0 (by omega)) kV_X4_75 ga0 (trivial) (by decide +kernel) dX4_readCondition_17 hl.1 rfl rfl (by decide) cd_X4_readAtom ⟨Nat.le_of_ble_eq_true rfl, Nat.le_of_ble_eq_true rfl, Nat.le_of_ble_eq_true rfl, Nat.le_of_ble_eq_true rfl, Nat.le_of_ble_eq_true rfl⟩ (fun v4 H4 L4 S4 K4 q4 => ?_)
        obtain ⟨q4, tq4⟩ := q4
        have tk4 : Lw D s.heap H4 a0 := u7_0.trans tq4
        have k_0 : (0 : Int32).toInt = 0 := by decide
        refine lv_if_ne (tgt := 25) hx hb dX4_readCondition_20 (by decide) (fun c5 => ?_) (fun c5 => ?_)
        · have b5 : ¬ v4.toInt = (0 : Int32).toInt := fun z9 => c5 (i_eq.mpr z9)
          refine lv_iload_n hx hb dX4_readCondition_25 rfl (lv_at hl 1 rfl) ?_
          refine lv_if_eq (tgt := 35) hx hb dX4_readCondition_26 (by decide) (fun c6 => ?_) (fun c6 => ?_)
          · have b6 : x3_7.toInt = (0 : Int32).toInt := i_eq.mp c6
            refine lv_aload_n hx hb dX4_readCondition_35 rfl (lv_at hl 3 rfl) ?_
            refine q_grS (T := TX4) C S4.1 ga0 0 kF_X4_39 dX4_readCondition_36 rfl rfl (by decide) rfl (by decide) kSF_X4_tape (fun g7 => ?_)
            refine q_lds C ks_X4_78 dX4_readCondition_39 (fun a8 ha8 => ?_)
            refine callV_Pi C S4.1 S4.2.1.2.1 (c_X9_isWord l D G (fR D H4 4 a0 0) a8 3 g7 ha8) kV_X4_61 g7 (trivial) dX4_readCondition_41 hl.1 rfl rfl (by decide) cd_X9_isWord ⟨Nat.le_of_ble_eq_true rfl, Nat.le_of_ble_eq_true rfl, Nat.le_of_ble_eq_true rfl, Nat.le_of_ble_eq_true rfl, Nat.le_of_ble_eq_true rfl⟩ (fun v9 q9 => ?_)
            refine lv_istore_n (lv' := [(3, .int v9), (4, .int x4_7), (2, .int x2_7), (0, .ref a0), (1, .int x1)]) hx hb dX4_readCondition_44 rfl hl (by decide) rfl (fun ls hl => ?_)
            refine lv_iload_n hx hb dX4_readCondition_45 rfl (lv_at hl 0 rfl) ?_
            refine lv_if_ne (tgt := 75) hx hb dX4_readCondition_46 (by decide) (fun c10 => ?_) (fun c10 => ?_)
            · have b10 : ¬ v9.toInt = (0 : Int32).toInt := fun z9 => c10 (i_eq.mpr z9)
              refine lv_aload_n hx hb dX4_readCondition_75 rfl (lv_at hl 3 rfl) ?_
              refine q_grS (T := TX4) C S4.1 ga0 0 kF_X4_39 dX4_readCondition_76 rfl rfl (by decide) rfl (by decide) kSF_X4_tape (fun g11 => ?_)
              refine callV_Ev C S4 (c_X9_next l D G (fR D H4 4 a0 0) g11) kV_X4_47 g11 (trivial) (by decide +kernel) dX4_readCondition_79 hl.1 rfl rfl (by decide) cd_X9_next ⟨Nat.le_of_ble_eq_true rfl, Nat.le_of_ble_eq_true rfl, Nat.le_of_ble_eq_true rfl, Nat.le_of_ble_eq_true rfl, Nat.le_of_ble_eq_true rfl⟩ (fun H12 L12 S12 K12 q12 => ?_)
              have tk12 : Lw D s.heap H12 a0 := tk4.trans (Lw.keep S4.1 ga0 K12 (by decide +kernel) (by decide +kernel) (by decide +kernel))
              obtain ⟨v13, ev13⟩ : ∃ y : Int32, y = x4_7 + (1) := ⟨_, rfl⟩
              have k_1 : (1 : Int32).toInt = 1 := by decide
              have f14 : v13.toInt = x4_7.toInt + (1) := by rw [ev13]; exact i_addc k_1 (by omega) (by omega)
              refine lv_iinc (v := v13) (lv' := [(4, .int v13), (3, .int v9), (2, .int x2_7), (0, .ref a0), (1, .int x1)]) hx hb dX4_readCondition_82 hl (k := 1) rfl (by rw [ev13]; rfl) (by decide) rfl (fun ls hl => ?_)
              refine lv_goto (tgt := 7) hx hb dX4_readCondition_85 (by decide) ?_
              exact ih7 v13 v9 x2_7 H12 L12 ls S12 (by omega) (by omega) (by omega) tk12 (by omega) (lv_sub hl [0, 1, 2, 3, 4] rfl)
            · have b10 : v9.toInt = (0 : Int32).toInt := i_eq.mp c10
              refine lv_iload_n hx hb dX4_readCondition_49 rfl (lv_at hl 2 rfl) ?_
              refine lv_if_eq (tgt := 59) hx hb dX4_readCondition_50 (by decide) (fun c15 => ?_) (fun c15 => ?_)
              · have b15 : x2_7.toInt = (0 : Int32).toInt := i_eq.mp c15
                refine lv_aload_n hx hb dX4_readCondition_59 rfl (lv_at hl 3 rfl) ?_
                refine q_grS (T := TX4) C S4.1 ga0 0 kF_X4_39 dX4_readCondition_60 rfl rfl (by decide) rfl (by decide) kSF_X4_tape (fun g16 => ?_)
                refine q_lds C ks_X4_80 dX4_readCondition_63 (fun a17 ha17 => ?_)
                refine callV_Pi C S4.1 S4.2.1.2.1 (c_X9_isWord l D G (fR D H4 4 a0 0) a17 2 g16 ha17) kV_X4_61 g16 (trivial) dX4_readCondition_65 hl.1 rfl rfl (by decide) cd_X9_isWord ⟨Nat.le_of_ble_eq_true rfl, Nat.le_of_ble_eq_true rfl, Nat.le_of_ble_eq_true rfl, Nat.le_of_ble_eq_true rfl, Nat.le_of_ble_eq_true rfl⟩ (fun v18 q18 => ?_)
                refine lv_istore_n (lv' := [(2, .int v18), (3, .int v9), (4, .int x4_7), (0, .ref a0), (1, .int x1)]) hx hb dX4_readCondition_68 rfl hl (by decide) rfl (fun ls hl => ?_)
                refine lv_iload_n hx hb dX4_readCondition_69 rfl (lv_at hl 0 rfl) ?_
                refine lv_if_ne (tgt := 75) hx hb dX4_readCondition_70 (by decide) (fun c19 => ?_) (fun c19 => ?_)
                · have b19 : ¬ v18.toInt = (0 : Int32).toInt := fun z9 => c19 (i_eq.mpr z9)
                  refine lv_aload_n hx hb dX4_readCondition_75 rfl (lv_at hl 3 rfl) ?_
                  refine q_grS (T := TX4) C S4.1 ga0 0 kF_X4_39 dX4_readCondition_76 rfl rfl (by decide) rfl (by decide) kSF_X4_tape (fun g20 => ?_)
                  refine callV_Ev C S4 (c_X9_next l D G (fR D H4 4 a0 0) g20) kV_X4_47 g20 (trivial) (by decide +kernel) dX4_readCondition_79 hl.1 rfl rfl (by decide) cd_X9_next ⟨Nat.le_of_ble_eq_true rfl, Nat.le_of_ble_eq_true rfl, Nat.le_of_ble_eq_true rfl, Nat.le_of_ble_eq_true rfl, Nat.le_of_ble_eq_true rfl⟩ (fun H21 L21 S21 K21 q21 => ?_)
                  have tk21 : Lw D s.heap H21 a0 := tk4.trans (Lw.keep S4.1 ga0 K21 (by decide +kernel) (by decide +kernel) (by decide +kernel))
                  obtain ⟨v22, ev22⟩ : ∃ y : Int32, y = x4_7 + (1) := ⟨_, rfl⟩
                  have k_1 : (1 : Int32).toInt = 1 := by decide
                  have f23 : v22.toInt = x4_7.toInt + (1) := by rw [ev22]; exact i_addc k_1 (by omega) (by omega)
                  refine lv_iinc (v := v22) (lv' := [(4, .int v22), (2, .int v18), (3, .int v9), (0, .ref a0), (1, .int x1)]) hx hb dX4_readCondition_82 hl (k := 2) rfl (by rw [ev22]; rfl) (by decide) rfl (fun ls hl => ?_)
                  refine lv_goto (tgt := 7) hx hb dX4_readCondition_85 (by decide) ?_
                  exact ih7 v22 v9 v18 H21 L21 ls S21 (by omega) (by omega) (by omega) tk21 (by omega) (lv_sub hl [0, 2, 1, 3, 4] rfl)
                · have b19 : v18.toInt = (0 : Int32).toInt := i_eq.mp c19
                  refine lv_iconst (v := 1) hx hb dX4_readCondition_73 (by decide) ?_
                  have k_1 : (1 : Int32).toInt = 1 := by decide
                  exact retE_z hQ C S4 hr dX4_readCondition_74 (z01 (by omega) (by omega)) (⟨by omega, tk4⟩)
              · have b15 : ¬ x2_7.toInt = (0 : Int32).toInt := fun z9 => c15 (i_eq.mpr z9)
                refine lv_aload_n hx hb dX4_readCondition_53 rfl (lv_at hl 3 rfl) ?_
                refine lv_bipush (v := -18) hx hb dX4_readCondition_54 (by decide) ?_
                have k_m18 : (-18 : Int32).toInt = -18 := by decide
                refine callV_Ev C S4 (c_X4_put l D G a0 (-18 : Int32) ga0) kV_X4_55 ga0 (trivial) (by decide +kernel) dX4_readCondition_56 hl.1 rfl rfl (by decide) cd_X4_put ⟨Nat.le_of_ble_eq_true rfl, Nat.le_of_ble_eq_true rfl, Nat.le_of_ble_eq_true rfl, Nat.le_of_ble_eq_true rfl, Nat.le_of_ble_eq_true rfl⟩ (fun H24 L24 S24 K24 q24 => ?_)
                obtain ⟨qa24, qb24, tq24⟩ := q24
                have tk24 : Lw D s.heap H24 a0 := tk4.trans tq24
                refine lv_aload_n hx hb dX4_readCondition_59 rfl (lv_at hl 3 rfl) ?_
                refine q_grS (T := TX4) C S24.1 ga0 0 kF_X4_39 dX4_readCondition_60 rfl rfl (by decide) rfl (by decide) kSF_X4_tape (fun g25 => ?_)
                refine q_lds C ks_X4_80 dX4_readCondition_63 (fun a26 ha26 => ?_)
                refine callV_Pi C S24.1 S24.2.1.2.1 (c_X9_isWord l D G (fR D H24 4 a0 0) a26 2 g25 ha26) kV_X4_61 g25 (trivial) dX4_readCondition_65 hl.1 rfl rfl (by decide) cd_X9_isWord ⟨Nat.le_of_ble_eq_true rfl, Nat.le_of_ble_eq_true rfl, Nat.le_of_ble_eq_true rfl, Nat.le_of_ble_eq_true rfl, Nat.le_of_ble_eq_true rfl⟩ (fun v27 q27 => ?_)
                refine lv_istore_n (lv' := [(2, .int v27), (3, .int v9), (4, .int x4_7), (0, .ref a0), (1, .int x1)]) hx hb dX4_readCondition_68 rfl hl (by decide) rfl (fun ls hl => ?_)
                refine lv_iload_n hx hb dX4_readCondition_69 rfl (lv_at hl 0 rfl) ?_
                refine lv_if_ne (tgt := 75) hx hb dX4_readCondition_70 (by decide) (fun c28 => ?_) (fun c28 => ?_)
                · have b28 : ¬ v27.toInt = (0 : Int32).toInt := fun z9 => c28 (i_eq.mpr z9)
                  refine lv_aload_n hx hb dX4_readCondition_75 rfl (lv_at hl 3 rfl) ?_
                  refine q_grS (T := TX4) C S24.1 ga0 0 kF_X4_39 dX4_readCondition_76 rfl rfl (by decide) rfl (by decide) kSF_X4_tape (fun g29 => ?_)
                  refine callV_Ev C S24 (c_X9_next l D G (fR D H24 4 a0 0) g29) kV_X4_47 g29 (trivial) (by decide +kernel) dX4_readCondition_79 hl.1 rfl rfl (by decide) cd_X9_next ⟨Nat.le_of_ble_eq_true rfl, Nat.le_of_ble_eq_true rfl, Nat.le_of_ble_eq_true rfl, Nat.le_of_ble_eq_true rfl, Nat.le_of_ble_eq_true rfl⟩ (fun H30 L30 S30 K30 q30 => ?_)
                  have tk30 : Lw D s.heap H30 a0 := tk24.trans (Lw.keep S24.1 ga0 K30 (by decide +kernel) (by decide +kernel) (by decide +kernel))
                  obtain ⟨v31, ev31⟩ : ∃ y : Int32, y = x4_7 + (1) := ⟨_, rfl⟩
                  have k_1 : (1 : Int32).toInt = 1 := by decide
                  have f32 : v31.toInt = x4_7.toInt + (1) := by rw [ev31]; exact i_addc k_1 (by omega) (by omega)
                  refine lv_iinc (v := v31) (lv' := [(4, .int v31), (2, .int v27), (3, .int v9), (0, .ref a0), (1, .int x1)]) hx hb dX4_readCondition_82 hl (k := 2) rfl (by rw [ev31]; rfl) (by decide) rfl (fun ls hl => ?_)
                  refine lv_goto (tgt := 7) hx hb dX4_readCondition_85 (by decide) ?_
                  exact ih7 v31 v9 v27 H30 L30 ls S30 (by omega) (by omega) (by omega) tk30 (by omega) (lv_sub hl [0, 2, 1, 3, 4] rfl)
                · have b28 : v27.toInt = (0 : Int32).toInt := i_eq.mp c28
                  refine lv_iconst (v := 1) hx hb dX4_readCondition_73 (by decide) ?_
                  have k_1 : (1 : Int32).toInt = 1 := by decide
                  exact retE_z hQ C S24 hr dX4_readCondition_74 (z01 (by omega) (by omega)) (⟨by omega, tk24⟩)
          · have b6 : ¬ x3_7.toInt = (0 : Int32).toInt := fun z9 => c6 (i_eq.mpr z9)
            refine lv_aload_n hx hb dX4_readCondition_29 rfl (lv_at hl 3 rfl) ?_
            refine lv_bipush (v := -17) hx hb dX4_readCondition_30 (by decide) ?_
            have k_m17 : (-17 : Int32).toInt = -17 := by decide
            refine callV_Ev C S4 (c_X4_put l D G a0 (-17 : Int32) ga0) kV_X4_55 ga0 (trivial) (by decide +kernel) dX4_readCondition_32 hl.1 rfl rfl (by decide) cd_X4_put ⟨Nat.le_of_ble_eq_true rfl, Nat.le_of_ble_eq_true rfl, Nat.le_of_ble_eq_true rfl, Nat.le_of_ble_eq_true rfl, Nat.le_of_ble_eq_true rfl⟩ (fun H33 L33 S33 K33 q33 => ?_)
            obtain ⟨qa33, qb33, tq33⟩ := q33
            have tk33 : Lw D s.heap H33 a0 := tk4.trans tq33
            refine lv_aload_n hx hb dX4_readCondition_35 rfl (lv_at hl 3 rfl) ?_
            refine q_grS (T := TX4) C S33.1 ga0 0 kF_X4_39 dX4_readCondition_36 rfl rfl (by decide) rfl (by decide) kSF_X4_tape (fun g34 => ?_)
            refine q_lds C ks_X4_78 dX4_readCondition_39 (fun a35 ha35 => ?_)
            refine callV_Pi C S33.1 S33.2.1.2.1 (c_X9_isWord l D G (fR D H33 4 a0 0) a35 3 g34 ha35) kV_X4_61 g34 (trivial) dX4_readCondition_41 hl.1 rfl rfl (by decide) cd_X9_isWord ⟨Nat.le_of_ble_eq_true rfl, Nat.le_of_ble_eq_true rfl, Nat.le_of_ble_eq_true rfl, Nat.le_of_ble_eq_true rfl, Nat.le_of_ble_eq_true rfl⟩ (fun v36 q36 => ?_)
            refine lv_istore_n (lv' := [(3, .int v36), (4, .int x4_7), (2, .int x2_7), (0, .ref a0), (1, .int x1)]) hx hb dX4_readCondition_44 rfl hl (by decide) rfl (fun ls hl => ?_)
            refine lv_iload_n hx hb dX4_readCondition_45 rfl (lv_at hl 0 rfl) ?_
            refine lv_if_ne (tgt := 75) hx hb dX4_readCondition_46 (by decide) (fun c37 => ?_) (fun c37 => ?_)
            · have b37 : ¬ v36.toInt = (0 : Int32).toInt := fun z9 => c37 (i_eq.mpr z9)
              refine lv_aload_n hx hb dX4_readCondition_75 rfl (lv_at hl 3 rfl) ?_
              refine q_grS (T := TX4) C S33.1 ga0 0 kF_X4_39 dX4_readCondition_76 rfl rfl (by decide) rfl (by decide) kSF_X4_tape (fun g38 => ?_)
              refine callV_Ev C S33 (c_X9_next l D G (fR D H33 4 a0 0) g38) kV_X4_47 g38 (trivial) (by decide +kernel) dX4_readCondition_79 hl.1 rfl rfl (by decide) cd_X9_next ⟨Nat.le_of_ble_eq_true rfl, Nat.le_of_ble_eq_true rfl, Nat.le_of_ble_eq_true rfl, Nat.le_of_ble_eq_true rfl, Nat.le_of_ble_eq_true rfl⟩ (fun H39 L39 S39 K39 q39 => ?_)
              have tk39 : Lw D s.heap H39 a0 := tk33.trans (Lw.keep S33.1 ga0 K39 (by decide +kernel) (by decide +kernel) (by decide +kernel))
              obtain ⟨v40, ev40⟩ : ∃ y : Int32, y = x4_7 + (1) := ⟨_, rfl⟩
              have k_1 : (1 : Int32).toInt = 1 := by decide
              have f41 : v40.toInt = x4_7.toInt + (1) := by rw [ev40]; exact i_addc k_1 (by omega) (by omega)
              refine lv_iinc (v := v40) (lv' := [(4, .int v40), (3, .int v36), (2, .int x2_7), (0, .ref a0), (1, .int x1)]) hx hb dX4_readCondition_82 hl (k := 1) rfl (by rw [ev40]; rfl) (by decide) rfl (fun ls hl => ?_)
              refine lv_goto (tgt := 7) hx hb dX4_readCondition_85 (by decide) ?_
              exact ih7 v40 v36 x2_7 H39 L39 ls S39 (by omega) (by omega) (by omega) tk39 (by omega) (lv_sub hl [0, 1, 2, 3, 4] rfl)
            · have b37 : v36.toInt = (0 : Int32).toInt := i_eq.mp c37
              refine lv_iload_n hx hb dX4_readCondition_49 rfl (lv_at hl 2 rfl) ?_
              refine lv_if_eq (tgt := 59) hx hb dX4_readCondition_50 (by decide) (fun c42 => ?_) (fun c42 => ?_)
              · have b42 : x2_7.toInt = (0 : Int32).toInt := i_eq.mp c42
                refine lv_aload_n hx hb dX4_readCondition_59 rfl (lv_at hl 3 rfl) ?_
                refine q_grS (T := TX4) C S33.1 ga0 0 kF_X4_39 dX4_readCondition_60 rfl rfl (by decide) rfl (by decide) kSF_X4_tape (fun g43 => ?_)
                refine q_lds C ks_X4_80 dX4_readCondition_63 (fun a44 ha44 => ?_)
                refine callV_Pi C S33.1 S33.2.1.2.1 (c_X9_isWord l D G (fR D H33 4 a0 0) a44 2 g43 ha44) kV_X4_61 g43 (trivial) dX4_readCondition_65 hl.1 rfl rfl (by decide) cd_X9_isWord ⟨Nat.le_of_ble_eq_true rfl, Nat.le_of_ble_eq_true rfl, Nat.le_of_ble_eq_true rfl, Nat.le_of_ble_eq_true rfl, Nat.le_of_ble_eq_true rfl⟩ (fun v45 q45 => ?_)
                refine lv_istore_n (lv' := [(2, .int v45), (3, .int v36), (4, .int x4_7), (0, .ref a0), (1, .int x1)]) hx hb dX4_readCondition_68 rfl hl (by decide) rfl (fun ls hl => ?_)
                refine lv_iload_n hx hb dX4_readCondition_69 rfl (lv_at hl 0 rfl) ?_
                refine lv_if_ne (tgt := 75) hx hb dX4_readCondition_70 (by decide) (fun c46 => ?_) (fun c46 => ?_)
                · have b46 : ¬ v45.toInt = (0 : Int32).toInt := fun z9 => c46 (i_eq.mpr z9)
                  refine lv_aload_n hx hb dX4_readCondition_75 rfl (lv_at hl 3 rfl) ?_
                  refine q_grS (T := TX4) C S33.1 ga0 0 kF_X4_39 dX4_readCondition_76 rfl rfl (by decide) rfl (by decide) kSF_X4_tape (fun g47 => ?_)
                  refine callV_Ev C S33 (c_X9_next l D G (fR D H33 4 a0 0) g47) kV_X4_47 g47 (trivial) (by decide +kernel) dX4_readCondition_79 hl.1 rfl rfl (by decide) cd_X9_next ⟨Nat.le_of_ble_eq_true rfl, Nat.le_of_ble_eq_true rfl, Nat.le_of_ble_eq_true rfl, Nat.le_of_ble_eq_true rfl, Nat.le_of_ble_eq_true rfl⟩ (fun H48 L48 S48 K48 q48 => ?_)
                  have tk48 : Lw D s.heap H48 a0 := tk33.trans (Lw.keep S33.1 ga0 K48 (by decide +kernel) (by decide +kernel) (by decide +kernel))
                  obtain ⟨v49, ev49⟩ : ∃ y : Int32, y = x4_7 + (1) := ⟨_, rfl⟩
                  have k_1 : (1 : Int32).toInt = 1 := by decide
                  have f50 : v49.toInt = x4_7.toInt + (1) := by rw [ev49]; exact i_addc k_1 (by omega) (by omega)
                  refine lv_iinc (v := v49) (lv' := [(4, .int v49), (2, .int v45), (3, .int v36), (0, .ref a0), (1, .int x1)]) hx hb dX4_readCondition_82 hl (k := 2) rfl (by rw [ev49]; rfl) (by decide) rfl (fun ls hl => ?_)
                  refine lv_goto (tgt := 7) hx hb dX4_readCondition_85 (by decide) ?_
                  exact ih7 v49 v36 v45 H48 L48 ls S48 (by omega) (by omega) (by omega) tk48 (by omega) (lv_sub hl [0, 2, 1, 3, 4] rfl)
                · have b46 : v45.toInt = (0 : Int32).toInt := i_eq.mp c46
                  refine lv_iconst (v := 1) hx hb dX4_readCondition_73 (by decide) ?_
                  have k_1 : (1 : Int32).toInt = 1 := by decide
                  exact retE_z hQ C S33 hr dX4_readCondition_74 (z01 (by omega) (by omega)) (⟨by omega, tk33⟩)
              · have b42 : ¬ x2_7.toInt = (0 : Int32).toInt := fun z9 => c42 (i_eq.mpr z9)
                refine lv_aload_n hx hb dX4_readCondition_53 rfl (lv_at hl 3 rfl) ?_
                refine lv_bipush (v := -18) hx hb dX4_readCondition_54 (by decide) ?_
                have k_m18 : (-18 : Int32).toInt = -18 := by decide
                refine callV_Ev C S33 (c_X4_put l D G a0 (-18 : Int32) ga0) kV_X4_55 ga0 (trivial) (by decide +kernel) dX4_readCondition_56 hl.1 rfl rfl (by decide) cd_X4_put ⟨Nat.le_of_ble_eq_true rfl, Nat.le_of_ble_eq_true rfl, Nat.le_of_ble_eq_true rfl, Nat.le_of_ble_eq_true rfl, Nat.le_of_ble_eq_true rfl⟩ (fun H51 L51 S51 K51 q51 => ?_)
                obtain ⟨qa51, qb51, tq51⟩ := q51
                have tk51 : Lw D s.heap H51 a0 := tk33.trans tq51
                refine lv_aload_n hx hb dX4_readCondition_59 rfl (lv_at hl 3 rfl) ?_
                refine q_grS (T := TX4) C S51.1 ga0 0 kF_X4_39 dX4_readCondition_60 rfl rfl (by decide) rfl (by decide) kSF_X4_tape (fun g52 => ?_)
                refine q_lds C ks_X4_80 dX4_readCondition_63 (fun a53 ha53 => ?_)
                refine callV_Pi C S51.1 S51.2.1.2.1 (c_X9_isWord l D G (fR D H51 4 a0 0) a53 2 g52 ha53) kV_X4_61 g52 (trivial) dX4_readCondition_65 hl.1 rfl rfl (by decide) cd_X9_isWord ⟨Nat.le_of_ble_eq_true rfl, Nat.le_of_ble_eq_true rfl, Nat.le_of_ble_eq_true rfl, Nat.le_of_ble_eq_true rfl, Nat.le_of_ble_eq_true rfl⟩ (fun v54 q54 => ?_)
                refine lv_istore_n (lv' := [(2, .int v54), (3, .int v36), (4, .int x4_7), (0, .ref a0), (1, .int x1)]) hx hb dX4_readCondition_68 rfl hl (by decide) rfl (fun ls hl => ?_)
                refine lv_iload_n hx hb dX4_readCondition_69 rfl (lv_at hl 0 rfl) ?_
                refine lv_if_ne (tgt := 75) hx hb dX4_readCondition_70 (by decide) (fun c55 => ?_) (fun c55 => ?_)
                · have b55 : ¬ v54.toInt = (0 : Int32).toInt := fun z9 => c55 (i_eq.mpr z9)
                  refine lv_aload_n hx hb dX4_readCondition_75 rfl (lv_at hl 3 rfl) ?_
                  refine q_grS (T := TX4) C S51.1 ga0 0 kF_X4_39 dX4_readCondition_76 rfl rfl (by decide) rfl (by decide) kSF_X4_tape (fun g56 => ?_)
                  refine callV_Ev C S51 (c_X9_next l D G (fR D H51 4 a0 0) g56) kV_X4_47 g56 (trivial) (by decide +kernel) dX4_readCondition_79 hl.1 rfl rfl (by decide) cd_X9_next ⟨Nat.le_of_ble_eq_true rfl, Nat.le_of_ble_eq_true rfl, Nat.le_of_ble_eq_true rfl, Nat.le_of_ble_eq_true rfl, Nat.le_of_ble_eq_true rfl⟩ (fun H57 L57 S57 K57 q57 => ?_)
                  have tk57 : Lw D s.heap H57 a0 := tk51.trans (Lw.keep S51.1 ga0 K57 (by decide +kernel) (by decide +kernel) (by decide +kernel))
                  obtain ⟨v58, ev58⟩ : ∃ y : Int32, y = x4_7 + (1) := ⟨_, rfl⟩
                  have k_1 : (1 : Int32).toInt = 1 := by decide
                  have f59 : v58.toInt = x4_7.toInt + (1) := by rw [ev58]; exact i_addc k_1 (by omega) (by omega)
                  refine lv_iinc (v := v58) (lv' := [(4, .int v58), (2, .int v54), (3, .int v36), (0, .ref a0), (1, .int x1)]) hx hb dX4_readCondition_82 hl (k := 2) rfl (by rw [ev58]; rfl) (by decide) rfl (fun ls hl => ?_)
                  refine lv_goto (tgt := 7) hx hb dX4_readCondition_85 (by decide) ?_
                  exact ih7 v58 v36 v54 H57 L57 ls S57 (by omega) (by omega) (by omega) tk57 (by omega) (lv_sub hl [0, 2, 1, 3, 4] rfl)
                · have b55 : v54.toInt = (0 : Int32).toInt := i_eq.mp c55
                  refine lv_iconst (v := 1) hx hb dX4_readCondition_73 (by decide) ?_
                  have k_1 : (1 : Int32).toInt = 1 := by decide
                  exact retE_z hQ C S51 hr dX4_readCondition_74 (z01 (by omega) (by omega)) (⟨by omega, tk51⟩)
        · have b5 : v4.toInt = (0 : Int32).toInt := i_eq.mp c5
          refine lv_iconst (v := 0) hx hb dX4_readCondition_23 (by decide) ?_
          exact retE_z hQ C S4 hr dX4_readCondition_24 (z01 (by omega) (by omega)) (⟨by omega, tk4⟩)
  have k_0 : (0 : Int32).toInt = 0 := by decide
  exact Lp7 2147483648 (0 : Int32) (0 : Int32) (0 : Int32) s.heap [] ls S (by omega) (by omega) (by omega) tk0  (by omega) (lv_sub hl [0, 1, 2, 3, 4] rfl)

set_option maxRecDepth 100000 in
set_option maxHeartbeats 4000000 in
theorem c_X4_readAtom_d0 (l : Launch) (D : DD) (G : Nat → Nat) (a0 : Nat) (x1 : Int32) (ga0 : G a0 = 21) (ix1 : 0 ≤ x1.toInt ∧ x1.toInt ≤ 0) : CE l D G yX4_readAtom cX4_readAtom 4 (some .boolean) 19 [.ref a0, .int x1] (fun _ => True) [(2, 3), (2, 4), (2, 5), (2, 6), (2, 2), (22, 0), (21, 3)] (xI (fun H r H1 => (0 ≤ r.toInt ∧ r.toInt ≤ 1) ∧ (Lw D H H1 a0))) := by
  refine enter (by decide) (Nat.le_of_ble_eq_true rfl) ?_
  intro p e s m args below meth c ls Q hA hQ C hr hO hpre hl
  have hx := C.1
  have hb := C.2.1
  have S : Sd D G [(2, 3), (2, 4), (2, 5), (2, 6), (2, 2), (22, 0), (21, 3)] s.heap s.heap [] := Sd.start hO
  have hl : lv_has ls 4 [(0, .ref a0), (1, .int x1)] := hl
  have tk0 : Lw D s.heap s.heap a0 := Lw.refl
  refine lv_aload_n hx hb dX4_readAtom_0 rfl (lv_at hl 0 rfl) ?_
  refine q_grS (T := TX4) C S.1 ga0 0 kF_X4_39 dX4_readAtom_1 rfl rfl (by decide) rfl (by decide) kSF_X4_tape (fun g1 => ?_)
  refine q_lds C ks_X4_82 dX4_readAtom_4 (fun a2 ha2 => ?_)
  refine callV_Pi C S.1 S.2.1.2.1 (c_X9_isWord l D G (fR D s.heap 4 a0 0) a2 3 g1 ha2) kV_X4_61 g1 (trivial) dX4_readAtom_6 hl.1 rfl rfl (by decide) cd_X9_isWord ⟨Nat.le_of_ble_eq_true rfl, Nat.le_of_ble_eq_true rfl, Nat.le_of_ble_eq_true rfl, Nat.le_of_ble_eq_true rfl, Nat.le_of_ble_eq_true rfl⟩ (fun v3 q3 => ?_)
  refine lv_istore_n (lv' := [(2, .int v3), (0, .ref a0), (1, .int x1)]) hx hb dX4_readAtom_9 rfl hl (by decide) rfl (fun ls hl => ?_)
  refine lv_iload_n hx hb dX4_readAtom_10 rfl (lv_at hl 0 rfl) ?_
  have k_0 : (0 : Int32).toInt = 0 := by decide
  refine lv_if_ne (tgt := 26) hx hb dX4_readAtom_11 (by decide) (fun c4 => ?_) (fun c4 => ?_)
  · have b4 : ¬ v3.toInt = (0 : Int32).toInt := fun z9 => c4 (i_eq.mpr z9)
    refine lv_iload_n hx hb dX4_readAtom_26 rfl (lv_at hl 2 rfl) ?_
    refine lv_bipush (v := 6) hx hb dX4_readAtom_27 (by decide) ?_
    have k_6 : (6 : Int32).toInt = 6 := by decide
    refine lv_icmp_lt (tgt := 40) hx hb dX4_readAtom_29 (by decide) (fun c5 => ?_) (fun c5 => ?_)
    · have b5 : x1.toInt < (6 : Int32).toInt := i_lt.mp c5
      refine lv_aload_n hx hb dX4_readAtom_40 rfl (lv_at hl 1 rfl) ?_
      refine q_grS (T := TX4) C S.1 ga0 0 kF_X4_39 dX4_readAtom_41 rfl rfl (by decide) rfl (by decide) kSF_X4_tape (fun g6 => ?_)
      refine callV_Ev C S (c_X9_next l D G (fR D s.heap 4 a0 0) g6) kV_X4_47 g6 (trivial) (by decide +kernel) dX4_readAtom_44 hl.1 rfl rfl (by decide) cd_X9_next ⟨Nat.le_of_ble_eq_true rfl, Nat.le_of_ble_eq_true rfl, Nat.le_of_ble_eq_true rfl, Nat.le_of_ble_eq_true rfl, Nat.le_of_ble_eq_true rfl⟩ (fun H7 L7 S7 K7 q7 => ?_)
      have tk7 : Lw D s.heap H7 a0 := tk0.trans (Lw.keep S.1 ga0 K7 (by decide +kernel) (by decide +kernel) (by decide +kernel))
      refine lv_iload_n hx hb dX4_readAtom_47 rfl (lv_at hl 0 rfl) ?_
      refine lv_if_ne (tgt := 79) hx hb dX4_readAtom_48 (by decide) (fun c8 => ?_) (fun c8 => ?_)
      · have b8 : ¬ v3.toInt = (0 : Int32).toInt := fun z9 => c8 (i_eq.mpr z9)
        refine lv_aload_n hx hb dX4_readAtom_79 rfl (lv_at hl 1 rfl) ?_
        refine lv_iload_n hx hb dX4_readAtom_80 rfl (lv_at hl 2 rfl) ?_
        refine lv_iconst (v := 1) hx hb dX4_readAtom_81 (by decide) ?_
        have k_1 : (1 : Int32).toInt = 1 := by decide
        refine lv_iadd hx hb dX4_readAtom_82 ?_
        refine lv_topi (fun v9 ev9 => ?_)
        have f10 : v9.toInt = x1.toInt + (1 : Int32).toInt := by rw [ev9]; exact i_add (by omega) (by omega)
        refine callV_Ei C S7 (c_X4_readAtom_d1 l D G a0 v9 ga0 (by omega)) kV_X4_75 ga0 (trivial) (by decide +kernel) dX4_readAtom_83 hl.1 rfl rfl (by decide) cd_X4_readAtom ⟨Nat.le_of_ble_eq_true rfl, Nat.le_of_ble_eq_true rfl, Nat.le_of_ble_eq_true rfl, Nat.le_of_ble_eq_true rfl, Nat.le_of_ble_eq_true rfl⟩ (fun v11 H11 L11 S11 K11 q11 => ?_)
        obtain ⟨q11, tq11⟩ := q11
        have tk11 : Lw D s.heap H11 a0 := tk7.trans tq11
        refine lv_if_ne (tgt := 91) hx hb dX4_readAtom_86 (by decide) (fun c12 => ?_) (fun c12 => ?_)
        · have b12 : ¬ v11.toInt = (0 : Int32).toInt := fun z9 => c12 (i_eq.mpr z9)
          refine lv_aload_n hx hb dX4_readAtom_91 rfl (lv_at hl 1 rfl) ?_
          refine lv_bipush (v := -13) hx hb dX4_readAtom_92 (by decide) ?_
          have k_m13 : (-13 : Int32).toInt = -13 := by decide
          refine callV_Ev C S11 (c_X4_put l D G a0 (-13 : Int32) ga0) kV_X4_55 ga0 (trivial) (by decide +kernel) dX4_readAtom_94 hl.1 rfl rfl (by decide) cd_X4_put ⟨Nat.le_of_ble_eq_true rfl, Nat.le_of_ble_eq_true rfl, Nat.le_of_ble_eq_true rfl, Nat.le_of_ble_eq_true rfl, Nat.le_of_ble_eq_true rfl⟩ (fun H13 L13 S13 K13 q13 => ?_)
          obtain ⟨qa13, qb13, tq13⟩ := q13
          have tk13 : Lw D s.heap H13 a0 := tk11.trans tq13
          refine lv_iconst (v := 1) hx hb dX4_readAtom_97 (by decide) ?_
          exact retE_z hQ C S13 hr dX4_readAtom_98 (z01 (by omega) (by omega)) (⟨by omega, tk13⟩)
        · have b12 : v11.toInt = (0 : Int32).toInt := i_eq.mp c12
          refine lv_iconst (v := 0) hx hb dX4_readAtom_89 (by decide) ?_
          exact retE_z hQ C S11 hr dX4_readAtom_90 (z01 (by omega) (by omega)) (⟨by omega, tk11⟩)
      · have b8 : v3.toInt = (0 : Int32).toInt := i_eq.mp c8
        exact absurd b8 (by omega)
    · have b5 : ¬ x1.toInt < (6 : Int32).toInt := fun z9 => c5 (i_lt.mpr z9)
      exact absurd b5 (by omega)
  · have b4 : v3.toInt = (0 : Int32).toInt := i_eq.mp c4
    refine lv_aload_n hx hb dX4_readAtom_14 rfl (lv_at hl 1 rfl) ?_
    refine q_grS (T := TX4) C S.1 ga0 0 kF_X4_39 dX4_readAtom_15 rfl rfl (by decide) rfl (by decide) kSF_X4_tape (fun g14 => ?_)
    refine lv_bipush (v := 40) hx hb dX4_readAtom_18 (by decide) ?_
    have k_40 : (40 : Int32).toInt = 40 := by decide
    refine callV_Pi C S.1 S.2.1.2.1 (c_X9_isSign l D G (fR D s.heap 4 a0 0) (40 : Int32) g14) kV_X4_84 g14 (trivial) dX4_readAtom_20 hl.1 rfl rfl (by decide) cd_X9_isSign ⟨Nat.le_of_ble_eq_true rfl, Nat.le_of_ble_eq_true rfl, Nat.le_of_ble_eq_true rfl, Nat.le_of_ble_eq_true rfl, Nat.le_of_ble_eq_true rfl⟩ (fun v15 q15 => ?_)
    refine lv_if_eq (tgt := 99) hx hb dX4_readAtom_23 (by decide) (fun c16 => ?_) (fun c16 => ?_)
    · have b16 : v15.toInt = (0 : Int32).toInt := i_eq.mp c16
      refine lv_aload_n hx hb dX4_readAtom_99 rfl (lv_at hl 1 rfl) ?_
      refine callV_Pi C S.1 S.2.1.2.1 (c_X4_presentTruth l D G a0 ga0) kV_X4_91 ga0 (trivial) dX4_readAtom_100 hl.1 rfl rfl (by decide) cd_X4_presentTruth ⟨Nat.le_of_ble_eq_true rfl, Nat.le_of_ble_eq_true rfl, Nat.le_of_ble_eq_true rfl, Nat.le_of_ble_eq_true rfl, Nat.le_of_ble_eq_true rfl⟩ (fun v17 q17 => ?_)
      refine lv_istore_n (lv' := [(3, .int v17), (2, .int v3), (0, .ref a0), (1, .int x1)]) hx hb dX4_readAtom_103 rfl hl (by decide) rfl (fun ls hl => ?_)
      refine lv_iload_n hx hb dX4_readAtom_104 rfl (lv_at hl 0 rfl) ?_
      refine lv_iconst (v := -1) hx hb dX4_readAtom_105 (by decide) ?_
      have k_m1 : (-1 : Int32).toInt = -1 := by decide
      refine lv_icmp_ne (tgt := 114) hx hb dX4_readAtom_106 (by decide) (fun c18 => ?_) (fun c18 => ?_)
      · have b18 : ¬ v17.toInt = (-1 : Int32).toInt := fun z9 => c18 (i_eq.mpr z9)
        refine lv_aload_n hx hb dX4_readAtom_114 rfl (lv_at hl 2 rfl) ?_
        refine lv_iload_n hx hb dX4_readAtom_115 rfl (lv_at hl 0 rfl) ?_
        refine callV_Ev C S (c_X4_put l D G a0 v17 ga0) kV_X4_55 ga0 (trivial) (by decide +kernel) dX4_readAtom_116 hl.1 rfl rfl (by decide) cd_X4_put ⟨Nat.le_of_ble_eq_true rfl, Nat.le_of_ble_eq_true rfl, Nat.le_of_ble_eq_true rfl, Nat.le_of_ble_eq_true rfl, Nat.le_of_ble_eq_true rfl⟩ (fun H19 L19 S19 K19 q19 => ?_)
        obtain ⟨qa19, qb19, tq19⟩ := q19
        have tk19 : Lw D s.heap H19 a0 := tk0.trans tq19
        refine lv_aload_n hx hb dX4_readAtom_119 rfl (lv_at hl 2 rfl) ?_
        refine q_grS (T := TX4) C S19.1 ga0 0 kF_X4_39 dX4_readAtom_120 rfl rfl (by decide) rfl (by decide) kSF_X4_tape (fun g20 => ?_)
        refine callV_Ev C S19 (c_X9_next l D G (fR D H19 4 a0 0) g20) kV_X4_47 g20 (trivial) (by decide +kernel) dX4_readAtom_123 hl.1 rfl rfl (by decide) cd_X9_next ⟨Nat.le_of_ble_eq_true rfl, Nat.le_of_ble_eq_true rfl, Nat.le_of_ble_eq_true rfl, Nat.le_of_ble_eq_true rfl, Nat.le_of_ble_eq_true rfl⟩ (fun H21 L21 S21 K21 q21 => ?_)
        have tk21 : Lw D s.heap H21 a0 := tk19.trans (Lw.keep S19.1 ga0 K21 (by decide +kernel) (by decide +kernel) (by decide +kernel))
        refine lv_iconst (v := 1) hx hb dX4_readAtom_126 (by decide) ?_
        have k_1 : (1 : Int32).toInt = 1 := by decide
        exact retE_z hQ C S21 hr dX4_readAtom_127 (z01 (by omega) (by omega)) (⟨by omega, tk21⟩)
      · have b18 : v17.toInt = (-1 : Int32).toInt := i_eq.mp c18
        refine lv_aload_n hx hb dX4_readAtom_109 rfl (lv_at hl 2 rfl) ?_
        refine callV_Ei C S (c_X4_readComparison l D G a0 ga0) kV_X4_94 ga0 (trivial) (by decide +kernel) dX4_readAtom_110 hl.1 rfl rfl (by decide) cd_X4_readComparison ⟨Nat.le_of_ble_eq_true rfl, Nat.le_of_ble_eq_true rfl, Nat.le_of_ble_eq_true rfl, Nat.le_of_ble_eq_true rfl, Nat.le_of_ble_eq_true rfl⟩ (fun v22 H22 L22 S22 K22 q22 => ?_)
        obtain ⟨q22, tq22⟩ := q22
        have tk22 : Lw D s.heap H22 a0 := tk0.trans tq22
        exact retE_z hQ C S22 hr dX4_readAtom_113 (z01 (by omega) (by omega)) (⟨by omega, tk22⟩)
    · have b16 : ¬ v15.toInt = (0 : Int32).toInt := fun z9 => c16 (i_eq.mpr z9)
      refine lv_iload_n hx hb dX4_readAtom_26 rfl (lv_at hl 2 rfl) ?_
      refine lv_bipush (v := 6) hx hb dX4_readAtom_27 (by decide) ?_
      have k_6 : (6 : Int32).toInt = 6 := by decide
      refine lv_icmp_lt (tgt := 40) hx hb dX4_readAtom_29 (by decide) (fun c23 => ?_) (fun c23 => ?_)
      · have b23 : x1.toInt < (6 : Int32).toInt := i_lt.mp c23
        refine lv_aload_n hx hb dX4_readAtom_40 rfl (lv_at hl 1 rfl) ?_
        refine q_grS (T := TX4) C S.1 ga0 0 kF_X4_39 dX4_readAtom_41 rfl rfl (by decide) rfl (by decide) kSF_X4_tape (fun g24 => ?_)
        refine callV_Ev C S (c_X9_next l D G (fR D s.heap 4 a0 0) g24) kV_X4_47 g24 (trivial) (by decide +kernel) dX4_readAtom_44 hl.1 rfl rfl (by decide) cd_X9_next ⟨Nat.le_of_ble_eq_true rfl, Nat.le_of_ble_eq_true rfl, Nat.le_of_ble_eq_true rfl, Nat.le_of_ble_eq_true rfl, Nat.le_of_ble_eq_true rfl⟩ (fun H25 L25 S25 K25 q25 => ?_)
        have tk25 : Lw D s.heap H25 a0 := tk0.trans (Lw.keep S.1 ga0 K25 (by decide +kernel) (by decide +kernel) (by decide +kernel))
        refine lv_iload_n hx hb dX4_readAtom_47 rfl (lv_at hl 0 rfl) ?_
        refine lv_if_ne (tgt := 79) hx hb dX4_readAtom_48 (by decide) (fun c26 => ?_) (fun c26 => ?_)
        · have b26 : ¬ v3.toInt = (0 : Int32).toInt := fun z9 => c26 (i_eq.mpr z9)
          exact absurd b26 (by omega)
        · have b26 : v3.toInt = (0 : Int32).toInt := i_eq.mp c26
          refine lv_aload_n hx hb dX4_readAtom_51 rfl (lv_at hl 1 rfl) ?_
          refine lv_iload_n hx hb dX4_readAtom_52 rfl (lv_at hl 2 rfl) ?_
          refine lv_iconst (v := 1) hx hb dX4_readAtom_53 (by decide) ?_
          have k_1 : (1 : Int32).toInt = 1 := by decide
          refine lv_iadd hx hb dX4_readAtom_54 ?_
          refine lv_topi (fun v27 ev27 => ?_)
          have f28 : v27.toInt = x1.toInt + (1 : Int32).toInt := by rw [ev27]; exact i_add (by omega) (by omega)
          refine callV_Ei C S25 (c_X4_readCondition_d1 l D G a0 v27 ga0 (by omega)) kV_X4_65 ga0 (trivial) (by decide +kernel) dX4_readAtom_55 hl.1 rfl rfl (by decide) cd_X4_readCondition ⟨Nat.le_of_ble_eq_true rfl, Nat.le_of_ble_eq_true rfl, Nat.le_of_ble_eq_true rfl, Nat.le_of_ble_eq_true rfl, Nat.le_of_ble_eq_true rfl⟩ (fun v29 H29 L29 S29 K29 q29 => ?_)
          obtain ⟨q29, tq29⟩ := q29
          have tk29 : Lw D s.heap H29 a0 := tk25.trans tq29
          refine lv_if_eq (tgt := 77) hx hb dX4_readAtom_58 (by decide) (fun c30 => ?_) (fun c30 => ?_)
          · have b30 : v29.toInt = (0 : Int32).toInt := i_eq.mp c30
            refine lv_iconst (v := 0) hx hb dX4_readAtom_77 (by decide) ?_
            exact retE_z hQ C S29 hr dX4_readAtom_78 (z01 (by omega) (by omega)) (⟨by omega, tk29⟩)
          · have b30 : ¬ v29.toInt = (0 : Int32).toInt := fun z9 => c30 (i_eq.mpr z9)
            refine lv_aload_n hx hb dX4_readAtom_61 rfl (lv_at hl 1 rfl) ?_
            refine q_grS (T := TX4) C S29.1 ga0 0 kF_X4_39 dX4_readAtom_62 rfl rfl (by decide) rfl (by decide) kSF_X4_tape (fun g31 => ?_)
            refine lv_bipush (v := 41) hx hb dX4_readAtom_65 (by decide) ?_
            have k_41 : (41 : Int32).toInt = 41 := by decide
            refine callV_Ei C S29 (c_X9_takeSign l D G (fR D H29 4 a0 0) (41 : Int32) g31) kV_X4_88 g31 (trivial) (by decide +kernel) dX4_readAtom_67 hl.1 rfl rfl (by decide) cd_X9_takeSign ⟨Nat.le_of_ble_eq_true rfl, Nat.le_of_ble_eq_true rfl, Nat.le_of_ble_eq_true rfl, Nat.le_of_ble_eq_true rfl, Nat.le_of_ble_eq_true rfl⟩ (fun v32 H32 L32 S32 K32 q32 => ?_)
            have tk32 : Lw D s.heap H32 a0 := tk29.trans (Lw.keep S29.1 ga0 K32 (by decide +kernel) (by decide +kernel) (by decide +kernel))
            refine lv_if_eq (tgt := 77) hx hb dX4_readAtom_70 (by decide) (fun c33 => ?_) (fun c33 => ?_)
            · have b33 : v32.toInt = (0 : Int32).toInt := i_eq.mp c33
              refine lv_iconst (v := 0) hx hb dX4_readAtom_77 (by decide) ?_
              exact retE_z hQ C S32 hr dX4_readAtom_78 (z01 (by omega) (by omega)) (⟨by omega, tk32⟩)
            · have b33 : ¬ v32.toInt = (0 : Int32).toInt := fun z9 => c33 (i_eq.mpr z9)
              refine lv_iconst (v := 1) hx hb dX4_readAtom_73 (by decide) ?_
              refine lv_goto (tgt := 78) hx hb dX4_readAtom_74 (by decide) ?_
              exact retE_z hQ C S32 hr dX4_readAtom_78 (z01 (by omega) (by omega)) (⟨by omega, tk32⟩)
      · have b23 : ¬ x1.toInt < (6 : Int32).toInt := fun z9 => c23 (i_lt.mpr z9)
        exact absurd b23 (by omega)

set_option maxRecDepth 100000 in
set_option maxHeartbeats 4000000 in
theorem c_X4_readCondition_d0 (l : Launch) (D : DD) (G : Nat → Nat) (a0 : Nat) (x1 : Int32) (ga0 : G a0 = 21) (ix1 : 0 ≤ x1.toInt ∧ x1.toInt ≤ 0) : CE l D G yX4_readCondition cX4_readCondition 5 (some .boolean) 20 [.ref a0, .int x1] (fun _ => True) [(2, 3), (2, 4), (2, 5), (2, 6), (2, 2), (22, 0), (21, 3)] (xI (fun H r H1 => (0 ≤ r.toInt ∧ r.toInt ≤ 1) ∧ (Lw D H H1 a0))) := by
  refine enter (by decide) (Nat.le_of_ble_eq_true rfl) ?_
  intro p e s m args below meth c ls Q hA hQ C hr hO hpre hl
  have hx := C.1
  have hb := C.2.1
  have S : Sd D G [(2, 3), (2, 4), (2, 5), (2, 6), (2, 2), (22, 0), (21, 3)] s.heap s.heap [] := Sd.start hO
  have hl : lv_has ls 5 [(0, .ref a0), (1, .int x1)] := hl
  have tk0 : Lw D s.heap s.heap a0 := Lw.refl
  refine lv_iconst (v := 0) hx hb dX4_readCondition_0 (by decide) ?_
  refine lv_istore_n (lv' := [(2, .int (0 : Int32)), (0, .ref a0), (1, .int x1)]) hx hb dX4_readCondition_1 rfl hl (by decide) rfl (fun ls hl => ?_)
  refine lv_iconst (v := 0) hx hb dX4_readCondition_2 (by decide) ?_
  refine lv_istore_n (lv' := [(3, .int (0 : Int32)), (2, .int (0 : Int32)), (0, .ref a0), (1, .int x1)]) hx hb dX4_readCondition_3 rfl hl (by decide) rfl (fun ls hl => ?_)
  refine lv_iconst (v := 0) hx hb dX4_readCondition_4 (by decide) ?_
  refine lv_istore (lv' := [(4, .int (0 : Int32)), (3, .int (0 : Int32)), (2, .int (0 : Int32)), (0, .ref a0), (1, .int x1)]) hx hb dX4_readCondition_5 hl (by decide) rfl (fun ls hl => ?_)
  have Lp7 : ∀ (n : Nat) (x4_7 : Int32) (x3_7 : Int32) (x2_7 : Int32) (H_7 : Heap) (L_7 : List Loc) (ls : Array Slot), (Sd D G [(2, 3), (2, 4), (2, 5), (2, 6), (2, 2), (22, 0), (21, 3)] s.heap H_7 L_7) → (0 ≤ x4_7.toInt ∧ x4_7.toInt ≤ 2147483647) → (0 ≤ x3_7.toInt ∧ x3_7.toInt ≤ 1) → (0 ≤ x2_7.toInt ∧ x2_7.toInt ≤ 1) → (Lw D s.heap H_7 a0) → 2147483648 - x4_7.toInt ≤ (n : Int) → lv_has ls 5 [(4, .int x4_7), (3, .int x3_7), (2, .int x2_7), (0, .ref a0), (1, .int x1)] → W p l e (rmU 20 0 0) s m args below meth c H_7 L_7 0 0 Q (F0 m 7 ls []) := by
    intro n
    induction n with
    | zero =>
      intro x4_7 x3_7 x2_7 H_7 L_7 ls S_7 j7_0 j7_1 j7_2 u7_0 hn hl
      exact absurd hn (by omega)
    | succ n ih7 =>
      intro x4_7 x3_7 x2_7 H_7 L_7 ls S_7 j7_0 j7_1 j7_2 u7_0 hn hl
      refine lv_iload hx hb dX4_readCondition_7 (lv_at hl 0 rfl) ?_
      refine lv_sipush (v := 400) hx hb dX4_readCondition_9 (by decide) ?_
      have k_400 : (400 : Int32).toInt = 400 := by decide
      refine lv_icmp_ge (tgt := 88) hx hb dX4_readCondition_12 (by decide) (fun c1 => ?_) (fun c1 => ?_)
      · have b1 : (400 : Int32).toInt ≤ x4_7.toInt := i_le.mp c1
        refine lv_aload_n hx hb dX4_readCondition_88 rfl (lv_at hl 3 rfl) ?_
        refine q_grS (T := TX4) C S_7.1 ga0 0 kF_X4_39 dX4_readCondition_89 rfl rfl (by decide) rfl (by decide) kSF_X4_tape (fun g2 => ?_)
        refine callV_Ei C S_7 (c_X9_refuse l D G (fR D H_7 4 a0 0) g2) kV_X4_43 g2 (trivial) (by decide +kernel) dX4_readCondition_92 hl.1 rfl rfl (by decide) cd_X9_refuse ⟨Nat.le_of_ble_eq_true rfl, Nat.le_of_ble_eq_true rfl, Nat.le_of_ble_eq_true rfl, Nat.le_of_ble_eq_true rfl, Nat.le_of_ble_eq_true rfl⟩ (fun v3 H3 L3 S3 K3 q3 => ?_)
        have tk3 : Lw D s.heap H3 a0 := u7_0.trans (Lw.keep S_7.1 ga0 K3 (by decide +kernel) (by decide +kernel) (by decide +kernel))
        exact retE_z hQ C S3 hr dX4_readCondition_95 (z01 (by omega) (by omega)) (⟨by omega, tk3⟩)
      · have b1 : ¬ (400 : Int32).toInt ≤ x4_7.toInt := fun z9 => c1 (i_le.mpr z9)
        refine lv_aload_n hx hb dX4_readCondition_15 rfl (lv_at hl 3 rfl) ?_
        refine lv_iload_n hx hb dX4_readCondition_16 rfl (lv_at hl 4 rfl) ?_
        refine callV_Ei C S_7 (c_X4_readAtom_d0 l D G a0 x1 ga0 (by omega)) kV_X4_75 ga0 (trivial) (by decide +kernel) dX4_readCondition_17 hl.1 rfl rfl (by decide) cd_X4_readAtom ⟨Nat.le_of_ble_eq_true rfl, Nat.le_of_ble_eq_true rfl, Nat.le_of_ble_eq_true rfl, Nat.le_of_ble_eq_true rfl, Nat.le_of_ble_eq_true rfl⟩ (fun v4 H4 L4 S4 K4 q4 => ?_)
        obtain ⟨q4, tq4⟩ := q4
        have tk4 : Lw D s.heap H4 a0 := u7_0.trans tq4
        have k_0 : (0 : Int32).toInt = 0 := by decide
        refine lv_if_ne (tgt := 25) hx hb dX4_readCondition_20 (by decide) (fun c5 => ?_) (fun c5 => ?_)
        · have b5 : ¬ v4.toInt = (0 : Int32).toInt := fun z9 => c5 (i_eq.mpr z9)
          refine lv_iload_n hx hb dX4_readCondition_25 rfl (lv_at hl 1 rfl) ?_
          refine lv_if_eq (tgt := 35) hx hb dX4_readCondition_26 (by decide) (fun c6 => ?_) (fun c6 => ?_)
          · have b6 : x3_7.toInt = (0 : Int32).toInt := i_eq.mp c6
            refine lv_aload_n hx hb dX4_readCondition_35 rfl (lv_at hl 3 rfl) ?_
            refine q_grS (T := TX4) C S4.1 ga0 0 kF_X4_39 dX4_readCondition_36 rfl rfl (by decide) rfl (by decide) kSF_X4_tape (fun g7 => ?_)
            refine q_lds C ks_X4_78 dX4_readCondition_39 (fun a8 ha8 => ?_)
            refine callV_Pi C S4.1 S4.2.1.2.1 (c_X9_isWord l D G (fR D H4 4 a0 0) a8 3 g7 ha8) kV_X4_61 g7 (trivial) dX4_readCondition_41 hl.1 rfl rfl (by decide) cd_X9_isWord ⟨Nat.le_of_ble_eq_true rfl, Nat.le_of_ble_eq_true rfl, Nat.le_of_ble_eq_true rfl, Nat.le_of_ble_eq_true rfl, Nat.le_of_ble_eq_true rfl⟩ (fun v9 q9 => ?_)
            refine lv_istore_n (lv' := [(3, .int v9), (4, .int x4_7), (2, .int x2_7), (0, .ref a0), (1, .int x1)]) hx hb dX4_readCondition_44 rfl hl (by decide) rfl (fun ls hl => ?_)
            refine lv_iload_n hx hb dX4_readCondition_45 rfl (lv_at hl 0 rfl) ?_
            refine lv_if_ne (tgt := 75) hx hb dX4_readCondition_46 (by decide) (fun c10 => ?_) (fun c10 => ?_)
            · have b10 : ¬ v9.toInt = (0 : Int32).toInt := fun z9 => c10 (i_eq.mpr z9)
              refine lv_aload_n hx hb dX4_readCondition_75 rfl (lv_at hl 3 rfl) ?_
              refine q_grS (T := TX4) C S4.1 ga0 0 kF_X4_39 dX4_readCondition_76 rfl rfl (by decide) rfl (by decide) kSF_X4_tape (fun g11 => ?_)
              refine callV_Ev C S4 (c_X9_next l D G (fR D H4 4 a0 0) g11) kV_X4_47 g11 (trivial) (by decide +kernel) dX4_readCondition_79 hl.1 rfl rfl (by decide) cd_X9_next ⟨Nat.le_of_ble_eq_true rfl, Nat.le_of_ble_eq_true rfl, Nat.le_of_ble_eq_true rfl, Nat.le_of_ble_eq_true rfl, Nat.le_of_ble_eq_true rfl⟩ (fun H12 L12 S12 K12 q12 => ?_)
              have tk12 : Lw D s.heap H12 a0 := tk4.trans (Lw.keep S4.1 ga0 K12 (by decide +kernel) (by decide +kernel) (by decide +kernel))
              obtain ⟨v13, ev13⟩ : ∃ y : Int32, y = x4_7 + (1) := ⟨_, rfl⟩
              have k_1 : (1 : Int32).toInt = 1 := by decide
              have f14 : v13.toInt = x4_7.toInt + (1) := by rw [ev13]; exact i_addc k_1 (by omega) (by omega)
              refine lv_iinc (v := v13) (lv' := [(4, .int v13), (3, .int v9), (2, .int x2_7), (0, .ref a0), (1, .int x1)]) hx hb dX4_readCondition_82 hl (k := 1) rfl (by rw [ev13]; rfl) (by decide) rfl (fun ls hl => ?_)
              refine lv_goto (tgt := 7) hx hb dX4_readCondition_85 (by decide) ?_
              exact ih7 v13 v9 x2_7 H12 L12 ls S12 (by omega) (by omega) (by omega) tk12 (by omega) (lv_sub hl [0, 1, 2, 3, 4] rfl)
            · have b10 : v9.toInt = (0 : Int32).toInt := i_eq.mp c10
              refine lv_iload_n hx hb dX4_readCondition_49 rfl (lv_at hl 2 rfl) ?_
              refine lv_if_eq (tgt := 59) hx hb dX4_readCondition_50 (by decide) (fun c15 => ?_) (fun c15 => ?_)
              · have b15 : x2_7.toInt = (0 : Int32).toInt := i_eq.mp c15
                refine lv_aload_n hx hb dX4_readCondition_59 rfl (lv_at hl 3 rfl) ?_
                refine q_grS (T := TX4) C S4.1 ga0 0 kF_X4_39 dX4_readCondition_60 rfl rfl (by decide) rfl (by decide) kSF_X4_tape (fun g16 => ?_)
                refine q_lds C ks_X4_80 dX4_readCondition_63 (fun a17 ha17 => ?_)
                refine callV_Pi C S4.1 S4.2.1.2.1 (c_X9_isWord l D G (fR D H4 4 a0 0) a17 2 g16 ha17) kV_X4_61 g16 (trivial) dX4_readCondition_65 hl.1 rfl rfl (by decide) cd_X9_isWord ⟨Nat.le_of_ble_eq_true rfl, Nat.le_of_ble_eq_true rfl, Nat.le_of_ble_eq_true rfl, Nat.le_of_ble_eq_true rfl, Nat.le_of_ble_eq_true rfl⟩ (fun v18 q18 => ?_)
                refine lv_istore_n (lv' := [(2, .int v18), (3, .int v9), (4, .int x4_7), (0, .ref a0), (1, .int x1)]) hx hb dX4_readCondition_68 rfl hl (by decide) rfl (fun ls hl => ?_)
                refine lv_iload_n hx hb dX4_readCondition_69 rfl (lv_at hl 0 rfl) ?_
                refine lv_if_ne (tgt := 75) hx hb dX4_readCondition_70 (by decide) (fun c19 => ?_) (fun c19 => ?_)
                · have b19 : ¬ v18.toInt = (0 : Int32).toInt := fun z9 => c19 (i_eq.mpr z9)
                  refine lv_aload_n hx hb dX4_readCondition_75 rfl (lv_at hl 3 rfl) ?_
                  refine q_grS (T := TX4) C S4.1 ga0 0 kF_X4_39 dX4_readCondition_76 rfl rfl (by decide) rfl (by decide) kSF_X4_tape (fun g20 => ?_)
                  refine callV_Ev C S4 (c_X9_next l D G (fR D H4 4 a0 0) g20) kV_X4_47 g20 (trivial) (by decide +kernel) dX4_readCondition_79 hl.1 rfl rfl (by decide) cd_X9_next ⟨Nat.le_of_ble_eq_true rfl, Nat.le_of_ble_eq_true rfl, Nat.le_of_ble_eq_true rfl, Nat.le_of_ble_eq_true rfl, Nat.le_of_ble_eq_true rfl⟩ (fun H21 L21 S21 K21 q21 => ?_)
                  have tk21 : Lw D s.heap H21 a0 := tk4.trans (Lw.keep S4.1 ga0 K21 (by decide +kernel) (by decide +kernel) (by decide +kernel))
                  obtain ⟨v22, ev22⟩ : ∃ y : Int32, y = x4_7 + (1) := ⟨_, rfl⟩
                  have k_1 : (1 : Int32).toInt = 1 := by decide
                  have f23 : v22.toInt = x4_7.toInt + (1) := by rw [ev22]; exact i_addc k_1 (by omega) (by omega)
                  refine lv_iinc (v := v22) (lv' := [(4, .int v22), (2, .int v18), (3, .int v9), (0, .ref a0), (1, .int x1)]) hx hb dX4_readCondition_82 hl (k := 2) rfl (by rw [ev22]; rfl) (by decide) rfl (fun ls hl => ?_)
                  refine lv_goto (tgt := 7) hx hb dX4_readCondition_85 (by decide) ?_
                  exact ih7 v22 v9 v18 H21 L21 ls S21 (by omega) (by omega) (by omega) tk21 (by omega) (lv_sub hl [0, 2, 1, 3, 4] rfl)
                · have b19 : v18.toInt = (0 : Int32).toInt := i_eq.mp c19
                  refine lv_iconst (v := 1) hx hb dX4_readCondition_73 (by decide) ?_
                  have k_1 : (1 : Int32).toInt = 1 := by decide
                  exact retE_z hQ C S4 hr dX4_readCondition_74 (z01 (by omega) (by omega)) (⟨by omega, tk4⟩)
              · have b15 : ¬ x2_7.toInt = (0 : Int32).toInt := fun z9 => c15 (i_eq.mpr z9)
                refine lv_aload_n hx hb dX4_readCondition_53 rfl (lv_at hl 3 rfl) ?_
                refine lv_bipush (v := -18) hx hb dX4_readCondition_54 (by decide) ?_
                have k_m18 : (-18 : Int32).toInt = -18 := by decide
                refine callV_Ev C S4 (c_X4_put l D G a0 (-18 : Int32) ga0) kV_X4_55 ga0 (trivial) (by decide +kernel) dX4_readCondition_56 hl.1 rfl rfl (by decide) cd_X4_put ⟨Nat.le_of_ble_eq_true rfl, Nat.le_of_ble_eq_true rfl, Nat.le_of_ble_eq_true rfl, Nat.le_of_ble_eq_true rfl, Nat.le_of_ble_eq_true rfl⟩ (fun H24 L24 S24 K24 q24 => ?_)
                obtain ⟨qa24, qb24, tq24⟩ := q24
                have tk24 : Lw D s.heap H24 a0 := tk4.trans tq24
                refine lv_aload_n hx hb dX4_readCondition_59 rfl (lv_at hl 3 rfl) ?_
                refine q_grS (T := TX4) C S24.1 ga0 0 kF_X4_39 dX4_readCondition_60 rfl rfl (by decide) rfl (by decide) kSF_X4_tape (fun g25 => ?_)
                refine q_lds C ks_X4_80 dX4_readCondition_63 (fun a26 ha26 => ?_)
                refine callV_Pi C S24.1 S24.2.1.2.1 (c_X9_isWord l D G (fR D H24 4 a0 0) a26 2 g25 ha26) kV_X4_61 g25 (trivial) dX4_readCondition_65 hl.1 rfl rfl (by decide) cd_X9_isWord ⟨Nat.le_of_ble_eq_true rfl, Nat.le_of_ble_eq_true rfl, Nat.le_of_ble_eq_true rfl, Nat.le_of_ble_eq_true rfl, Nat.le_of_ble_eq_true rfl⟩ (fun v27 q27 => ?_)
                refine lv_istore_n (lv' := [(2, .int v27), (3, .int v9), (4, .int x4_7), (0, .ref a0), (1, .int x1)]) hx hb dX4_readCondition_68 rfl hl (by decide) rfl (fun ls hl => ?_)
                refine lv_iload_n hx hb dX4_readCondition_69 rfl (lv_at hl 0 rfl) ?_
                refine lv_if_ne (tgt := 75) hx hb dX4_readCondition_70 (by decide) (fun c28 => ?_) (fun c28 => ?_)
                · have b28 : ¬ v27.toInt = (0 : Int32).toInt := fun z9 => c28 (i_eq.mpr z9)
                  refine lv_aload_n hx hb dX4_readCondition_75 rfl (lv_at hl 3 rfl) ?_
                  refine q_grS (T := TX4) C S24.1 ga0 0 kF_X4_39 dX4_readCondition_76 rfl rfl (by decide) rfl (by decide) kSF_X4_tape (fun g29 => ?_)
                  refine callV_Ev C S24 (c_X9_next l D G (fR D H24 4 a0 0) g29) kV_X4_47 g29 (trivial) (by decide +kernel) dX4_readCondition_79 hl.1 rfl rfl (by decide) cd_X9_next ⟨Nat.le_of_ble_eq_true rfl, Nat.le_of_ble_eq_true rfl, Nat.le_of_ble_eq_true rfl, Nat.le_of_ble_eq_true rfl, Nat.le_of_ble_eq_true rfl⟩ (fun H30 L30 S30 K30 q30 => ?_)
                  have tk30 : Lw D s.heap H30 a0 := tk24.trans (Lw.keep S24.1 ga0 K30 (by decide +kernel) (by decide +kernel) (by decide +kernel))
                  obtain ⟨v31, ev31⟩ : ∃ y : Int32, y = x4_7 + (1) := ⟨_, rfl⟩
                  have k_1 : (1 : Int32).toInt = 1 := by decide
                  have f32 : v31.toInt = x4_7.toInt + (1) := by rw [ev31]; exact i_addc k_1 (by omega) (by omega)
                  refine lv_iinc (v := v31) (lv' := [(4, .int v31), (2, .int v27), (3, .int v9), (0, .ref a0), (1, .int x1)]) hx hb dX4_readCondition_82 hl (k := 2) rfl (by rw [ev31]; rfl) (by decide) rfl (fun ls hl => ?_)
                  refine lv_goto (tgt := 7) hx hb dX4_readCondition_85 (by decide) ?_
                  exact ih7 v31 v9 v27 H30 L30 ls S30 (by omega) (by omega) (by omega) tk30 (by omega) (lv_sub hl [0, 2, 1, 3, 4] rfl)
                · have b28 : v27.toInt = (0 : Int32).toInt := i_eq.mp c28
                  refine lv_iconst (v := 1) hx hb dX4_readCondition_73 (by decide) ?_
                  have k_1 : (1 : Int32).toInt = 1 := by decide
                  exact retE_z hQ C S24 hr dX4_readCondition_74 (z01 (by omega) (by omega)) (⟨by omega, tk24⟩)
          · have b6 : ¬ x3_7.toInt = (0 : Int32).toInt := fun z9 => c6 (i_eq.mpr z9)
            refine lv_aload_n hx hb dX4_readCondition_29 rfl (lv_at hl 3 rfl) ?_
            refine lv_bipush (v := -17) hx hb dX4_readCondition_30 (by decide) ?_
            have k_m17 : (-17 : Int32).toInt = -17 := by decide
            refine callV_Ev C S4 (c_X4_put l D G a0 (-17 : Int32) ga0) kV_X4_55 ga0 (trivial) (by decide +kernel) dX4_readCondition_32 hl.1 rfl rfl (by decide) cd_X4_put ⟨Nat.le_of_ble_eq_true rfl, Nat.le_of_ble_eq_true rfl, Nat.le_of_ble_eq_true rfl, Nat.le_of_ble_eq_true rfl, Nat.le_of_ble_eq_true rfl⟩ (fun H33 L33 S33 K33 q33 => ?_)
            obtain ⟨qa33, qb33, tq33⟩ := q33
            have tk33 : Lw D s.heap H33 a0 := tk4.trans tq33
            refine lv_aload_n hx hb dX4_readCondition_35 rfl (lv_at hl 3 rfl) ?_
            refine q_grS (T := TX4) C S33.1 ga0 0 kF_X4_39 dX4_readCondition_36 rfl rfl (by decide) rfl (by decide) kSF_X4_tape (fun g34 => ?_)
            refine q_lds C ks_X4_78 dX4_readCondition_39 (fun a35 ha35 => ?_)
            refine callV_Pi C S33.1 S33.2.1.2.1 (c_X9_isWord l D G (fR D H33 4 a0 0) a35 3 g34 ha35) kV_X4_61 g34 (trivial) dX4_readCondition_41 hl.1 rfl rfl (by decide) cd_X9_isWord ⟨Nat.le_of_ble_eq_true rfl, Nat.le_of_ble_eq_true rfl, Nat.le_of_ble_eq_true rfl, Nat.le_of_ble_eq_true rfl, Nat.le_of_ble_eq_true rfl⟩ (fun v36 q36 => ?_)
            refine lv_istore_n (lv' := [(3, .int v36), (4, .int x4_7), (2, .int x2_7), (0, .ref a0), (1, .int x1)]) hx hb dX4_readCondition_44 rfl hl (by decide) rfl (fun ls hl => ?_)
            refine lv_iload_n hx hb dX4_readCondition_45 rfl (lv_at hl 0 rfl) ?_
            refine lv_if_ne (tgt := 75) hx hb dX4_readCondition_46 (by decide) (fun c37 => ?_) (fun c37 => ?_)
            · have b37 : ¬ v36.toInt = (0 : Int32).toInt := fun z9 => c37 (i_eq.mpr z9)
              refine lv_aload_n hx hb dX4_readCondition_75 rfl (lv_at hl 3 rfl) ?_
              refine q_grS (T := TX4) C S33.1 ga0 0 kF_X4_39 dX4_readCondition_76 rfl rfl (by decide) rfl (by decide) kSF_X4_tape (fun g38 => ?_)
              refine callV_Ev C S33 (c_X9_next l D G (fR D H33 4 a0 0) g38) kV_X4_47 g38 (trivial) (by decide +kernel) dX4_readCondition_79 hl.1 rfl rfl (by decide) cd_X9_next ⟨Nat.le_of_ble_eq_true rfl, Nat.le_of_ble_eq_true rfl, Nat.le_of_ble_eq_true rfl, Nat.le_of_ble_eq_true rfl, Nat.le_of_ble_eq_true rfl⟩ (fun H39 L39 S39 K39 q39 => ?_)
              have tk39 : Lw D s.heap H39 a0 := tk33.trans (Lw.keep S33.1 ga0 K39 (by decide +kernel) (by decide +kernel) (by decide +kernel))
              obtain ⟨v40, ev40⟩ : ∃ y : Int32, y = x4_7 + (1) := ⟨_, rfl⟩
              have k_1 : (1 : Int32).toInt = 1 := by decide
              have f41 : v40.toInt = x4_7.toInt + (1) := by rw [ev40]; exact i_addc k_1 (by omega) (by omega)
              refine lv_iinc (v := v40) (lv' := [(4, .int v40), (3, .int v36), (2, .int x2_7), (0, .ref a0), (1, .int x1)]) hx hb dX4_readCondition_82 hl (k := 1) rfl (by rw [ev40]; rfl) (by decide) rfl (fun ls hl => ?_)
              refine lv_goto (tgt := 7) hx hb dX4_readCondition_85 (by decide) ?_
              exact ih7 v40 v36 x2_7 H39 L39 ls S39 (by omega) (by omega) (by omega) tk39 (by omega) (lv_sub hl [0, 1, 2, 3, 4] rfl)
            · have b37 : v36.toInt = (0 : Int32).toInt := i_eq.mp c37
              refine lv_iload_n hx hb dX4_readCondition_49 rfl (lv_at hl 2 rfl) ?_
              refine lv_if_eq (tgt := 59) hx hb dX4_readCondition_50 (by decide) (fun c42 => ?_) (fun c42 => ?_)
              · have b42 : x2_7.toInt = (0 : Int32).toInt := i_eq.mp c42
                refine lv_aload_n hx hb dX4_readCondition_59 rfl (lv_at hl 3 rfl) ?_
                refine q_grS (T := TX4) C S33.1 ga0 0 kF_X4_39 dX4_readCondition_60 rfl rfl (by decide) rfl (by decide) kSF_X4_tape (fun g43 => ?_)
                refine q_lds C ks_X4_80 dX4_readCondition_63 (fun a44 ha44 => ?_)
                refine callV_Pi C S33.1 S33.2.1.2.1 (c_X9_isWord l D G (fR D H33 4 a0 0) a44 2 g43 ha44) kV_X4_61 g43 (trivial) dX4_readCondition_65 hl.1 rfl rfl (by decide) cd_X9_isWord ⟨Nat.le_of_ble_eq_true rfl, Nat.le_of_ble_eq_true rfl, Nat.le_of_ble_eq_true rfl, Nat.le_of_ble_eq_true rfl, Nat.le_of_ble_eq_true rfl⟩ (fun v45 q45 => ?_)
                refine lv_istore_n (lv' := [(2, .int v45), (3, .int v36), (4, .int x4_7), (0, .ref a0), (1, .int x1)]) hx hb dX4_readCondition_68 rfl hl (by decide) rfl (fun ls hl => ?_)
                refine lv_iload_n hx hb dX4_readCondition_69 rfl (lv_at hl 0 rfl) ?_
                refine lv_if_ne (tgt := 75) hx hb dX4_readCondition_70 (by decide) (fun c46 => ?_) (fun c46 => ?_)
                · have b46 : ¬ v45.toInt = (0 : Int32).toInt := fun z9 => c46 (i_eq.mpr z9)
                  refine lv_aload_n hx hb dX4_readCondition_75 rfl (lv_at hl 3 rfl) ?_
                  refine q_grS (T := TX4) C S33.1 ga0 0 kF_X4_39 dX4_readCondition_76 rfl rfl (by decide) rfl (by decide) kSF_X4_tape (fun g47 => ?_)
                  refine callV_Ev C S33 (c_X9_next l D G (fR D H33 4 a0 0) g47) kV_X4_47 g47 (trivial) (by decide +kernel) dX4_readCondition_79 hl.1 rfl rfl (by decide) cd_X9_next ⟨Nat.le_of_ble_eq_true rfl, Nat.le_of_ble_eq_true rfl, Nat.le_of_ble_eq_true rfl, Nat.le_of_ble_eq_true rfl, Nat.le_of_ble_eq_true rfl⟩ (fun H48 L48 S48 K48 q48 => ?_)
                  have tk48 : Lw D s.heap H48 a0 := tk33.trans (Lw.keep S33.1 ga0 K48 (by decide +kernel) (by decide +kernel) (by decide +kernel))
                  obtain ⟨v49, ev49⟩ : ∃ y : Int32, y = x4_7 + (1) := ⟨_, rfl⟩
                  have k_1 : (1 : Int32).toInt = 1 := by decide
                  have f50 : v49.toInt = x4_7.toInt + (1) := by rw [ev49]; exact i_addc k_1 (by omega) (by omega)
                  refine lv_iinc (v := v49) (lv' := [(4, .int v49), (2, .int v45), (3, .int v36), (0, .ref a0), (1, .int x1)]) hx hb dX4_readCondition_82 hl (k := 2) rfl (by rw [ev49]; rfl) (by decide) rfl (fun ls hl => ?_)
                  refine lv_goto (tgt := 7) hx hb dX4_readCondition_85 (by decide) ?_
                  exact ih7 v49 v36 v45 H48 L48 ls S48 (by omega) (by omega) (by omega) tk48 (by omega) (lv_sub hl [0, 2, 1, 3, 4] rfl)
                · have b46 : v45.toInt = (0 : Int32).toInt := i_eq.mp c46
                  refine lv_iconst (v := 1) hx hb dX4_readCondition_73 (by decide) ?_
                  have k_1 : (1 : Int32).toInt = 1 := by decide
                  exact retE_z hQ C S33 hr dX4_readCondition_74 (z01 (by omega) (by omega)) (⟨by omega, tk33⟩)
              · have b42 : ¬ x2_7.toInt = (0 : Int32).toInt := fun z9 => c42 (i_eq.mpr z9)
                refine lv_aload_n hx hb dX4_readCondition_53 rfl (lv_at hl 3 rfl) ?_
                refine lv_bipush (v := -18) hx hb dX4_readCondition_54 (by decide) ?_
                have k_m18 : (-18 : Int32).toInt = -18 := by decide
                refine callV_Ev C S33 (c_X4_put l D G a0 (-18 : Int32) ga0) kV_X4_55 ga0 (trivial) (by decide +kernel) dX4_readCondition_56 hl.1 rfl rfl (by decide) cd_X4_put ⟨Nat.le_of_ble_eq_true rfl, Nat.le_of_ble_eq_true rfl, Nat.le_of_ble_eq_true rfl, Nat.le_of_ble_eq_true rfl, Nat.le_of_ble_eq_true rfl⟩ (fun H51 L51 S51 K51 q51 => ?_)
                obtain ⟨qa51, qb51, tq51⟩ := q51
                have tk51 : Lw D s.heap H51 a0 := tk33.trans tq51
                refine lv_aload_n hx hb dX4_readCondition_59 rfl (lv_at hl 3 rfl) ?_
                refine q_grS (T := TX4) C S51.1 ga0 0 kF_X4_39 dX4_readCondition_60 rfl rfl (by decide) rfl (by decide) kSF_X4_tape (fun g52 => ?_)
                refine q_lds C ks_X4_80 dX4_readCondition_63 (fun a53 ha53 => ?_)
                refine callV_Pi C S51.1 S51.2.1.2.1 (c_X9_isWord l D G (fR D H51 4 a0 0) a53 2 g52 ha53) kV_X4_61 g52 (trivial) dX4_readCondition_65 hl.1 rfl rfl (by decide) cd_X9_isWord ⟨Nat.le_of_ble_eq_true rfl, Nat.le_of_ble_eq_true rfl, Nat.le_of_ble_eq_true rfl, Nat.le_of_ble_eq_true rfl, Nat.le_of_ble_eq_true rfl⟩ (fun v54 q54 => ?_)
                refine lv_istore_n (lv' := [(2, .int v54), (3, .int v36), (4, .int x4_7), (0, .ref a0), (1, .int x1)]) hx hb dX4_readCondition_68 rfl hl (by decide) rfl (fun ls hl => ?_)
                refine lv_iload_n hx hb dX4_readCondition_69 rfl (lv_at hl 0 rfl) ?_
                refine lv_if_ne (tgt := 75) hx hb dX4_readCondition_70 (by decide) (fun c55 => ?_) (fun c55 => ?_)
                · have b55 : ¬ v54.toInt = (0 : Int32).toInt := fun z9 => c55 (i_eq.mpr z9)
                  refine lv_aload_n hx hb dX4_readCondition_75 rfl (lv_at hl 3 rfl) ?_
                  refine q_grS (T := TX4) C S51.1 ga0 0 kF_X4_39 dX4_readCondition_76 rfl rfl (by decide) rfl (by decide) kSF_X4_tape (fun g56 => ?_)
                  refine callV_Ev C S51 (c_X9_next l D G (fR D H51 4 a0 0) g56) kV_X4_47 g56 (trivial) (by decide +kernel) dX4_readCondition_79 hl.1 rfl rfl (by decide) cd_X9_next ⟨Nat.le_of_ble_eq_true rfl, Nat.le_of_ble_eq_true rfl, Nat.le_of_ble_eq_true rfl, Nat.le_of_ble_eq_true rfl, Nat.le_of_ble_eq_true rfl⟩ (fun H57 L57 S57 K57 q57 => ?_)
                  have tk57 : Lw D s.heap H57 a0 := tk51.trans (Lw.keep S51.1 ga0 K57 (by decide +kernel) (by decide +kernel) (by decide +kernel))
                  obtain ⟨v58, ev58⟩ : ∃ y : Int32, y = x4_7 + (1) := ⟨_, rfl⟩
                  have k_1 : (1 : Int32).toInt = 1 := by decide
                  have f59 : v58.toInt = x4_7.toInt + (1) := by rw [ev58]; exact i_addc k_1 (by omega) (by omega)
                  refine lv_iinc (v := v58) (lv' := [(4, .int v58), (2, .int v54), (3, .int v36), (0, .ref a0), (1, .int x1)]) hx hb dX4_readCondition_82 hl (k := 2) rfl (by rw [ev58]; rfl) (by decide) rfl (fun ls hl => ?_)
                  refine lv_goto (tgt := 7) hx hb dX4_readCondition_85 (by decide) ?_
                  exact ih7 v58 v36 v54 H57 L57 ls S57 (by omega) (by omega) (by omega) tk57 (by omega) (lv_sub hl [0, 2, 1, 3, 4] rfl)
                · have b55 : v54.toInt = (0 : Int32).toInt := i_eq.mp c55
                  refine lv_iconst (v := 1) hx hb dX4_readCondition_73 (by decide) ?_
                  have k_1 : (1 : Int32).toInt = 1 := by decide
                  exact retE_z hQ C S51 hr dX4_readCondition_74 (z01 (by omega) (by omega)) (⟨by omega, tk51⟩)
        · have b5 : v4.toInt = (0 : Int32).toInt := i_eq.mp c5
          refine lv_iconst (v := 0) hx hb dX4_readCondition_23 (by decide) ?_
          exact retE_z hQ C S4 hr dX4_readCondition_24 (z01 (by omega) (by omega)) (⟨by omega, tk4⟩)
  have k_0 : (0 : Int32).toInt = 0 := by decide
  exact Lp7 2147483648 (0 : Int32) (0 : Int32) (0 : Int32) s.heap [] ls S (by omega) (by omega) (by omega) tk0  (by omega) (lv_sub hl [0, 1, 2, 3, 4] rfl)

set_option maxRecDepth 100000 in
set_option maxHeartbeats 4000000 in
theorem c_X4_readLine (l : Launch) (D : DD) (G : Nat → Nat) (a0 : Nat) (ga0 : G a0 = 21) : CE l D G yX4_readLine cX4_readLine 4 (some .boolean) 21 [.ref a0] (fun _ => True) [(2, 3), (2, 4), (2, 5), (2, 6), (2, 2), (22, 0), (21, 3), (21, 4)] (xI (fun H r H1 => (0 ≤ r.toInt ∧ r.toInt ≤ 1) ∧ (r.toInt = 1 → Lc D H a0 → Lc D H1 a0))) := by
  refine enter (by decide) (Nat.le_of_ble_eq_true rfl) ?_
  intro p e s m args below meth c ls Q hA hQ C hr hO hpre hl
  have hx := C.1
  have hb := C.2.1
  have S : Sd D G [(2, 3), (2, 4), (2, 5), (2, 6), (2, 2), (22, 0), (21, 3), (21, 4)] s.heap s.heap [] := Sd.start hO
  have hl : lv_has ls 4 [(0, .ref a0)] := hl
  have tk0 : Lw D s.heap s.heap a0 := Lw.refl
  refine lv_aload_n hx hb dX4_readLine_0 rfl (lv_at hl 0 rfl) ?_
  refine callV_Pi C S.1 S.2.1.2.1 (c_X4_presentSort l D G a0 ga0) kV_X4_35 ga0 (trivial) dX4_readLine_1 hl.1 rfl rfl (by decide) cd_X4_presentSort ⟨Nat.le_of_ble_eq_true rfl, Nat.le_of_ble_eq_true rfl, Nat.le_of_ble_eq_true rfl, Nat.le_of_ble_eq_true rfl, Nat.le_of_ble_eq_true rfl⟩ (fun v1 q1 => ?_)
  refine lv_istore_n (lv' := [(1, .int v1), (0, .ref a0)]) hx hb dX4_readLine_4 rfl hl (by decide) rfl (fun ls hl => ?_)
  refine lv_iload_n hx hb dX4_readLine_5 rfl (lv_at hl 0 rfl) ?_
  refine lv_iconst (v := -1) hx hb dX4_readLine_6 (by decide) ?_
  have k_m1 : (-1 : Int32).toInt = -1 := by decide
  refine lv_icmp_ne (tgt := 18) hx hb dX4_readLine_7 (by decide) (fun c2 => ?_) (fun c2 => ?_)
  · have b2 : ¬ v1.toInt = (-1 : Int32).toInt := fun z9 => c2 (i_eq.mpr z9)
    refine lv_aload_n hx hb dX4_readLine_18 rfl (lv_at hl 1 rfl) ?_
    refine q_grS (T := TX4) C S.1 ga0 0 kF_X4_39 dX4_readLine_19 rfl rfl (by decide) rfl (by decide) kSF_X4_tape (fun g3 => ?_)
    refine callV_Ev C S (c_X9_next l D G (fR D s.heap 4 a0 0) g3) kV_X4_47 g3 (trivial) (by decide +kernel) dX4_readLine_22 hl.1 rfl rfl (by decide) cd_X9_next ⟨Nat.le_of_ble_eq_true rfl, Nat.le_of_ble_eq_true rfl, Nat.le_of_ble_eq_true rfl, Nat.le_of_ble_eq_true rfl, Nat.le_of_ble_eq_true rfl⟩ (fun H4 L4 S4 K4 q4 => ?_)
    have tk4 : Lw D s.heap H4 a0 := tk0.trans (Lw.keep S.1 ga0 K4 (by decide +kernel) (by decide +kernel) (by decide +kernel))
    refine lv_iload_n hx hb dX4_readLine_25 rfl (lv_at hl 0 rfl) ?_
    refine lv_iconst (v := 1) hx hb dX4_readLine_26 (by decide) ?_
    have k_1 : (1 : Int32).toInt = 1 := by decide
    refine lv_icmp_ne (tgt := 34) hx hb dX4_readLine_27 (by decide) (fun c5 => ?_) (fun c5 => ?_)
    · have b5 : ¬ v1.toInt = (1 : Int32).toInt := fun z9 => c5 (i_eq.mpr z9)
      refine lv_aload_n hx hb dX4_readLine_34 rfl (lv_at hl 1 rfl) ?_
      refine q_grS (T := TX4) C S4.1 ga0 0 kF_X4_39 dX4_readLine_35 rfl rfl (by decide) rfl (by decide) kSF_X4_tape (fun g6 => ?_)
      refine lv_iconst (v := 0) hx hb dX4_readLine_38 (by decide) ?_
      refine lv_bipush (v := 99) hx hb dX4_readLine_39 (by decide) ?_
      have k_0 : (0 : Int32).toInt = 0 := by decide
      have k_99 : (99 : Int32).toInt = 99 := by decide
      refine callV_Ei C S4 (c_X9_takeNumber l D G (fR D H4 4 a0 0) (0 : Int32) (99 : Int32) g6) kV_X4_51 g6 (trivial) (by decide +kernel) dX4_readLine_41 hl.1 rfl rfl (by decide) cd_X9_takeNumber ⟨Nat.le_of_ble_eq_true rfl, Nat.le_of_ble_eq_true rfl, Nat.le_of_ble_eq_true rfl, Nat.le_of_ble_eq_true rfl, Nat.le_of_ble_eq_true rfl⟩ (fun v7 H7 L7 S7 K7 q7 => ?_)
      have tk7 : Lw D s.heap H7 a0 := tk4.trans (Lw.keep S4.1 ga0 K7 (by decide +kernel) (by decide +kernel) (by decide +kernel))
      refine lv_istore_n (lv' := [(2, .int v7), (1, .int v1), (0, .ref a0)]) hx hb dX4_readLine_44 rfl hl (by decide) rfl (fun ls hl => ?_)
      refine lv_iload_n hx hb dX4_readLine_45 rfl (lv_at hl 0 rfl) ?_
      refine lv_iconst (v := -1) hx hb dX4_readLine_46 (by decide) ?_
      refine lv_icmp_ne (tgt := 52) hx hb dX4_readLine_47 (by decide) (fun c8 => ?_) (fun c8 => ?_)
      · have b8 : ¬ v7.toInt = (-1 : Int32).toInt := fun z9 => c8 (i_eq.mpr z9)
        have u0 : (fI D H7 4 a0 3).toInt = (fI D s.heap 4 a0 3).toInt := by rw [K7.fI ga0 rfl (by decide) (by decide +kernel), K4.fI ga0 rfl (by decide) (by decide +kernel)]
        have ur : 0 ≤ (fI D s.heap 4 a0 3).toInt ∧ (fI D s.heap 4 a0 3).toInt ≤ 400 := hO.rng ga0 rfl (by decide) rfl
        refine lv_aload_n hx hb dX4_readLine_52 rfl (lv_at hl 2 rfl) ?_
        refine lv_iload_n hx hb dX4_readLine_53 rfl (lv_at hl 1 rfl) ?_
        refine callV_Ev C S7 (c_X4_put l D G a0 v1 ga0) kV_X4_55 ga0 (trivial) (by decide +kernel) dX4_readLine_54 hl.1 rfl rfl (by decide) cd_X4_put ⟨Nat.le_of_ble_eq_true rfl, Nat.le_of_ble_eq_true rfl, Nat.le_of_ble_eq_true rfl, Nat.le_of_ble_eq_true rfl, Nat.le_of_ble_eq_true rfl⟩ (fun H9 L9 S9 K9 q9 => ?_)
        obtain ⟨qa9, qb9, tq9⟩ := q9
        have tk9 : Lw D s.heap H9 a0 := tk7.trans tq9
        refine lv_aload_n hx hb dX4_readLine_57 rfl (lv_at hl 2 rfl) ?_
        refine lv_iload_n hx hb dX4_readLine_58 rfl (lv_at hl 0 rfl) ?_
        refine callV_Ev C S9 (c_X4_put l D G a0 v7 ga0) kV_X4_55 ga0 (trivial) (by decide +kernel) dX4_readLine_59 hl.1 rfl rfl (by decide) cd_X4_put ⟨Nat.le_of_ble_eq_true rfl, Nat.le_of_ble_eq_true rfl, Nat.le_of_ble_eq_true rfl, Nat.le_of_ble_eq_true rfl, Nat.le_of_ble_eq_true rfl⟩ (fun H10 L10 S10 K10 q10 => ?_)
        obtain ⟨qa10, qb10, tq10⟩ := q10
        have tk10 : Lw D s.heap H10 a0 := tk9.trans tq10
        refine lv_aload_n hx hb dX4_readLine_62 rfl (lv_at hl 2 rfl) ?_
        refine q_gi (T := TX4) C S10.1 ga0 3 kF_X4_17 dX4_readLine_63 rfl rfl (by decide) rfl (by decide) rfl ?_
        have r11 : 0 ≤ (fI D H10 4 a0 3).toInt ∧ (fI D H10 4 a0 3).toInt ≤ 400 := S10.1.rng ga0 rfl (by decide) rfl
        refine lv_istore_n (lv' := [(3, .int (fI D H10 4 a0 3)), (2, .int v7), (1, .int v1), (0, .ref a0)]) hx hb dX4_readLine_66 rfl hl (by decide) rfl (fun ls hl => ?_)
        refine lv_aload_n hx hb dX4_readLine_67 rfl (lv_at hl 3 rfl) ?_
        refine lv_iconst (v := 0) hx hb dX4_readLine_68 (by decide) ?_
        refine callV_Ev C S10 (c_X4_put l D G a0 (0 : Int32) ga0) kV_X4_55 ga0 (trivial) (by decide +kernel) dX4_readLine_69 hl.1 rfl rfl (by decide) cd_X4_put ⟨Nat.le_of_ble_eq_true rfl, Nat.le_of_ble_eq_true rfl, Nat.le_of_ble_eq_true rfl, Nat.le_of_ble_eq_true rfl, Nat.le_of_ble_eq_true rfl⟩ (fun H12 L12 S12 K12 q12 => ?_)
        obtain ⟨qa12, qb12, tq12⟩ := q12
        have tk12 : Lw D s.heap H12 a0 := tk10.trans tq12
        refine lv_aload_n hx hb dX4_readLine_72 rfl (lv_at hl 3 rfl) ?_
        refine q_grS (T := TX4) C S12.1 ga0 0 kF_X4_39 dX4_readLine_73 rfl rfl (by decide) rfl (by decide) kSF_X4_tape (fun g13 => ?_)
        refine q_lds C ks_X4_59 dX4_readLine_76 (fun a14 ha14 => ?_)
        refine callV_Pi C S12.1 S12.2.1.2.1 (c_X9_isWord l D G (fR D H12 4 a0 0) a14 2 g13 ha14) kV_X4_61 g13 (trivial) dX4_readLine_78 hl.1 rfl rfl (by decide) cd_X9_isWord ⟨Nat.le_of_ble_eq_true rfl, Nat.le_of_ble_eq_true rfl, Nat.le_of_ble_eq_true rfl, Nat.le_of_ble_eq_true rfl, Nat.le_of_ble_eq_true rfl⟩ (fun v15 q15 => ?_)
        refine lv_if_eq (tgt := 101) hx hb dX4_readLine_81 (by decide) (fun c16 => ?_) (fun c16 => ?_)
        · have b16 : v15.toInt = (0 : Int32).toInt := i_eq.mp c16
          have rw9 : 0 ≤ (fI D H12 4 a0 3).toInt ∧ (fI D H12 4 a0 3).toInt ≤ 400 := S12.1.rng ga0 rfl (by decide) rfl
          refine lv_iload_n hx hb dX4_readLine_101 rfl (lv_at hl 0 rfl) ?_
          refine lv_aload_n hx hb dX4_readLine_102 rfl (lv_at hl 3 rfl) ?_
          refine q_gr (T := TX4) C S12.1 ga0 2 kF_X4_13 dX4_readLine_103 rfl rfl (by decide) rfl (by decide) rfl (fun g17 => ?_)
          have n18 : aN H12 (fR D H12 4 a0 2) = 400 := len_22 S12.1 g17
          refine q_alen C S12.1 g17 dX4_readLine_106 rfl (by decide) rfl (fun v19 fv19 => ?_)
          refine lv_icmp_ge (tgt := 120) hx hb dX4_readLine_107 (by decide) (fun c20 => ?_) (fun c20 => ?_)
          · have b20 : v19.toInt ≤ (fI D H10 4 a0 3).toInt := i_le.mp c20
            have fin : Lc D s.heap a0 → Lc D H12 a0 := fun h9 => Lc.full tk12 (by omega) (by omega) h9
            have SQ := S12
            refine lv_aload_n hx hb dX4_readLine_120 rfl (lv_at hl 3 rfl) ?_
            refine lv_dup hx hb dX4_readLine_121 rfl ?_
            refine q_gi (T := TX4) C S12.1 ga0 4 kF_X4_21 dX4_readLine_122 rfl rfl (by decide) rfl (by decide) rfl ?_
            refine lv_iconst (v := 1) hx hb dX4_readLine_125 (by decide) ?_
            refine lv_iadd hx hb dX4_readLine_126 ?_
            refine lv_topi (fun v21 ev21 => ?_)
            refine q_put (T := TX4) C S12 ga0 4 kF_X4_21 dX4_readLine_127 rfl rfl (by decide) (by decide) rfl rfl rfl rfl rfl (vok_a rfl) (by decide +kernel) (fun H22 L22 S22 P22 => ?_)
            refine lv_iconst (v := 1) hx hb dX4_readLine_130 (by decide) ?_
            exact retE_z hQ C S22 hr dX4_readLine_131 (z01 (by omega) (by omega)) (⟨by omega, fun _ h9 => (fin h9).put SQ.1 ga0 P22⟩)
          · have b20 : ¬ v19.toInt ≤ (fI D H10 4 a0 3).toInt := fun z9 => c20 (i_le.mpr z9)
            refine lv_aload_n hx hb dX4_readLine_110 rfl (lv_at hl 3 rfl) ?_
            refine q_gr (T := TX4) C S12.1 ga0 2 kF_X4_13 dX4_readLine_111 rfl rfl (by decide) rfl (by decide) rfl (fun g23 => ?_)
            refine lv_iload_n hx hb dX4_readLine_114 rfl (lv_at hl 0 rfl) ?_
            refine lv_aload_n hx hb dX4_readLine_115 rfl (lv_at hl 3 rfl) ?_
            refine q_gi (T := TX4) C S12.1 ga0 3 kF_X4_17 dX4_readLine_116 rfl rfl (by decide) rfl (by decide) rfl ?_
            have r24 : 0 ≤ (fI D H12 4 a0 3).toInt ∧ (fI D H12 4 a0 3).toInt ≤ 400 := S12.1.rng ga0 rfl (by decide) rfl
            refine q_iast C S12 g23 (by omega) (by omega) dX4_readLine_119 rfl (by decide) (by decide +kernel) (fun _ _ h => ak_22 h) (fun H25 L25 S25 P25 => ?_)
            have fin : Lc D s.heap a0 → Lc D H25 a0 := fun h9 => Lc.wr S12.1 ga0 P25 tk12 (by omega) (by omega) (by omega) h9
            have SQ := S25
            refine lv_aload_n hx hb dX4_readLine_120 rfl (lv_at hl 3 rfl) ?_
            refine lv_dup hx hb dX4_readLine_121 rfl ?_
            refine q_gi (T := TX4) C S25.1 ga0 4 kF_X4_21 dX4_readLine_122 rfl rfl (by decide) rfl (by decide) rfl ?_
            refine lv_iconst (v := 1) hx hb dX4_readLine_125 (by decide) ?_
            refine lv_iadd hx hb dX4_readLine_126 ?_
            refine lv_topi (fun v26 ev26 => ?_)
            refine q_put (T := TX4) C S25 ga0 4 kF_X4_21 dX4_readLine_127 rfl rfl (by decide) (by decide) rfl rfl rfl rfl rfl (vok_a rfl) (by decide +kernel) (fun H27 L27 S27 P27 => ?_)
            refine lv_iconst (v := 1) hx hb dX4_readLine_130 (by decide) ?_
            exact retE_z hQ C S27 hr dX4_readLine_131 (z01 (by omega) (by omega)) (⟨by omega, fun _ h9 => (fin h9).put SQ.1 ga0 P27⟩)
        · have b16 : ¬ v15.toInt = (0 : Int32).toInt := fun z9 => c16 (i_eq.mpr z9)
          refine lv_aload_n hx hb dX4_readLine_84 rfl (lv_at hl 3 rfl) ?_
          refine q_grS (T := TX4) C S12.1 ga0 0 kF_X4_39 dX4_readLine_85 rfl rfl (by decide) rfl (by decide) kSF_X4_tape (fun g28 => ?_)
          refine callV_Ev C S12 (c_X9_next l D G (fR D H12 4 a0 0) g28) kV_X4_47 g28 (trivial) (by decide +kernel) dX4_readLine_88 hl.1 rfl rfl (by decide) cd_X9_next ⟨Nat.le_of_ble_eq_true rfl, Nat.le_of_ble_eq_true rfl, Nat.le_of_ble_eq_true rfl, Nat.le_of_ble_eq_true rfl, Nat.le_of_ble_eq_true rfl⟩ (fun H29 L29 S29 K29 q29 => ?_)
          have tk29 : Lw D s.heap H29 a0 := tk12.trans (Lw.keep S12.1 ga0 K29 (by decide +kernel) (by decide +kernel) (by decide +kernel))
          have ud : (fI D H29 4 a0 3).toInt = _ := congrArg Int32.toInt (K29.fI (k := 3) ga0 rfl (by decide) (by decide +kernel))
          refine lv_aload_n hx hb dX4_readLine_91 rfl (lv_at hl 3 rfl) ?_
          refine lv_iconst (v := 0) hx hb dX4_readLine_92 (by decide) ?_
          refine callV_Ei C S29 (c_X4_readCondition_d0 l D G a0 (0 : Int32) ga0 (by omega)) kV_X4_65 ga0 (trivial) (by decide +kernel) dX4_readLine_93 hl.1 rfl rfl (by decide) cd_X4_readCondition ⟨Nat.le_of_ble_eq_true rfl, Nat.le_of_ble_eq_true rfl, Nat.le_of_ble_eq_true rfl, Nat.le_of_ble_eq_true rfl, Nat.le_of_ble_eq_true rfl⟩ (fun v30 H30 L30 S30 K30 q30 => ?_)
          obtain ⟨q30, tq30⟩ := q30
          have tk30 : Lw D s.heap H30 a0 := tk29.trans tq30
          have ue := tq30.1
          refine lv_if_ne (tgt := 101) hx hb dX4_readLine_96 (by decide) (fun c31 => ?_) (fun c31 => ?_)
          · have b31 : ¬ v30.toInt = (0 : Int32).toInt := fun z9 => c31 (i_eq.mpr z9)
            have rw9 : 0 ≤ (fI D H30 4 a0 3).toInt ∧ (fI D H30 4 a0 3).toInt ≤ 400 := S30.1.rng ga0 rfl (by decide) rfl
            refine lv_iload_n hx hb dX4_readLine_101 rfl (lv_at hl 0 rfl) ?_
            refine lv_aload_n hx hb dX4_readLine_102 rfl (lv_at hl 3 rfl) ?_
            refine q_gr (T := TX4) C S30.1 ga0 2 kF_X4_13 dX4_readLine_103 rfl rfl (by decide) rfl (by decide) rfl (fun g32 => ?_)
            have n33 : aN H30 (fR D H30 4 a0 2) = 400 := len_22 S30.1 g32
            refine q_alen C S30.1 g32 dX4_readLine_106 rfl (by decide) rfl (fun v34 fv34 => ?_)
            refine lv_icmp_ge (tgt := 120) hx hb dX4_readLine_107 (by decide) (fun c35 => ?_) (fun c35 => ?_)
            · have b35 : v34.toInt ≤ (fI D H10 4 a0 3).toInt := i_le.mp c35
              have fin : Lc D s.heap a0 → Lc D H30 a0 := fun h9 => Lc.full tk30 (by omega) (by omega) h9
              have SQ := S30
              refine lv_aload_n hx hb dX4_readLine_120 rfl (lv_at hl 3 rfl) ?_
              refine lv_dup hx hb dX4_readLine_121 rfl ?_
              refine q_gi (T := TX4) C S30.1 ga0 4 kF_X4_21 dX4_readLine_122 rfl rfl (by decide) rfl (by decide) rfl ?_
              refine lv_iconst (v := 1) hx hb dX4_readLine_125 (by decide) ?_
              refine lv_iadd hx hb dX4_readLine_126 ?_
              refine lv_topi (fun v36 ev36 => ?_)
              refine q_put (T := TX4) C S30 ga0 4 kF_X4_21 dX4_readLine_127 rfl rfl (by decide) (by decide) rfl rfl rfl rfl rfl (vok_a rfl) (by decide +kernel) (fun H37 L37 S37 P37 => ?_)
              refine lv_iconst (v := 1) hx hb dX4_readLine_130 (by decide) ?_
              exact retE_z hQ C S37 hr dX4_readLine_131 (z01 (by omega) (by omega)) (⟨by omega, fun _ h9 => (fin h9).put SQ.1 ga0 P37⟩)
            · have b35 : ¬ v34.toInt ≤ (fI D H10 4 a0 3).toInt := fun z9 => c35 (i_le.mpr z9)
              refine lv_aload_n hx hb dX4_readLine_110 rfl (lv_at hl 3 rfl) ?_
              refine q_gr (T := TX4) C S30.1 ga0 2 kF_X4_13 dX4_readLine_111 rfl rfl (by decide) rfl (by decide) rfl (fun g38 => ?_)
              refine lv_iload_n hx hb dX4_readLine_114 rfl (lv_at hl 0 rfl) ?_
              refine lv_aload_n hx hb dX4_readLine_115 rfl (lv_at hl 3 rfl) ?_
              refine q_gi (T := TX4) C S30.1 ga0 3 kF_X4_17 dX4_readLine_116 rfl rfl (by decide) rfl (by decide) rfl ?_
              have r39 : 0 ≤ (fI D H30 4 a0 3).toInt ∧ (fI D H30 4 a0 3).toInt ≤ 400 := S30.1.rng ga0 rfl (by decide) rfl
              refine q_iast C S30 g38 (by omega) (by omega) dX4_readLine_119 rfl (by decide) (by decide +kernel) (fun _ _ h => ak_22 h) (fun H40 L40 S40 P40 => ?_)
              have fin : Lc D s.heap a0 → Lc D H40 a0 := fun h9 => Lc.wr S30.1 ga0 P40 tk30 (by omega) (by omega) (by omega) h9
              have SQ := S40
              refine lv_aload_n hx hb dX4_readLine_120 rfl (lv_at hl 3 rfl) ?_
              refine lv_dup hx hb dX4_readLine_121 rfl ?_
              refine q_gi (T := TX4) C S40.1 ga0 4 kF_X4_21 dX4_readLine_122 rfl rfl (by decide) rfl (by decide) rfl ?_
              refine lv_iconst (v := 1) hx hb dX4_readLine_125 (by decide) ?_
              refine lv_iadd hx hb dX4_readLine_126 ?_
              refine lv_topi (fun v41 ev41 => ?_)
              refine q_put (T := TX4) C S40 ga0 4 kF_X4_21 dX4_readLine_127 rfl rfl (by decide) (by decide) rfl rfl rfl rfl rfl (vok_a rfl) (by decide +kernel) (fun H42 L42 S42 P42 => ?_)
              refine lv_iconst (v := 1) hx hb dX4_readLine_130 (by decide) ?_
              exact retE_z hQ C S42 hr dX4_readLine_131 (z01 (by omega) (by omega)) (⟨by omega, fun _ h9 => (fin h9).put SQ.1 ga0 P42⟩)
          · have b31 : v30.toInt = (0 : Int32).toInt := i_eq.mp c31
            refine lv_iconst (v := 0) hx hb dX4_readLine_99 (by decide) ?_
            exact retE_z hQ C S30 hr dX4_readLine_100 (z01 (by omega) (by omega)) (⟨by omega, fun h9 => absurd h9 (by decide)⟩)
      · have b8 : v7.toInt = (-1 : Int32).toInt := i_eq.mp c8
        refine lv_iconst (v := 0) hx hb dX4_readLine_50 (by decide) ?_
        exact retE_z hQ C S7 hr dX4_readLine_51 (z01 (by omega) (by omega)) (⟨by omega, fun h9 => absurd h9 (by decide)⟩)
    · have b5 : v1.toInt = (1 : Int32).toInt := i_eq.mp c5
      refine lv_iconst (v := 1) hx hb dX4_readLine_30 (by decide) ?_
      refine lv_goto (tgt := 44) hx hb dX4_readLine_31 (by decide) ?_
      refine lv_istore_n (lv' := [(2, .int (1 : Int32)), (1, .int v1), (0, .ref a0)]) hx hb dX4_readLine_44 rfl hl (by decide) rfl (fun ls hl => ?_)
      refine lv_iload_n hx hb dX4_readLine_45 rfl (lv_at hl 0 rfl) ?_
      refine lv_iconst (v := -1) hx hb dX4_readLine_46 (by decide) ?_
      refine lv_icmp_ne (tgt := 52) hx hb dX4_readLine_47 (by decide) (fun c43 => ?_) (fun c43 => ?_)
      · have b43 : ¬ (1 : Int32).toInt = (-1 : Int32).toInt := fun z9 => c43 (i_eq.mpr z9)
        have u0 : (fI D H4 4 a0 3).toInt = (fI D s.heap 4 a0 3).toInt := by rw [K4.fI ga0 rfl (by decide) (by decide +kernel)]
        have ur : 0 ≤ (fI D s.heap 4 a0 3).toInt ∧ (fI D s.heap 4 a0 3).toInt ≤ 400 := hO.rng ga0 rfl (by decide) rfl
        refine lv_aload_n hx hb dX4_readLine_52 rfl (lv_at hl 2 rfl) ?_
        refine lv_iload_n hx hb dX4_readLine_53 rfl (lv_at hl 1 rfl) ?_
        refine callV_Ev C S4 (c_X4_put l D G a0 v1 ga0) kV_X4_55 ga0 (trivial) (by decide +kernel) dX4_readLine_54 hl.1 rfl rfl (by decide) cd_X4_put ⟨Nat.le_of_ble_eq_true rfl, Nat.le_of_ble_eq_true rfl, Nat.le_of_ble_eq_true rfl, Nat.le_of_ble_eq_true rfl, Nat.le_of_ble_eq_true rfl⟩ (fun H44 L44 S44 K44 q44 => ?_)
        obtain ⟨qa44, qb44, tq44⟩ := q44
        have tk44 : Lw D s.heap H44 a0 := tk4.trans tq44
        refine lv_aload_n hx hb dX4_readLine_57 rfl (lv_at hl 2 rfl) ?_
        refine lv_iload_n hx hb dX4_readLine_58 rfl (lv_at hl 0 rfl) ?_
        refine callV_Ev C S44 (c_X4_put l D G a0 (1 : Int32) ga0) kV_X4_55 ga0 (trivial) (by decide +kernel) dX4_readLine_59 hl.1 rfl rfl (by decide) cd_X4_put ⟨Nat.le_of_ble_eq_true rfl, Nat.le_of_ble_eq_true rfl, Nat.le_of_ble_eq_true rfl, Nat.le_of_ble_eq_true rfl, Nat.le_of_ble_eq_true rfl⟩ (fun H45 L45 S45 K45 q45 => ?_)
        obtain ⟨qa45, qb45, tq45⟩ := q45
        have tk45 : Lw D s.heap H45 a0 := tk44.trans tq45
        refine lv_aload_n hx hb dX4_readLine_62 rfl (lv_at hl 2 rfl) ?_
        refine q_gi (T := TX4) C S45.1 ga0 3 kF_X4_17 dX4_readLine_63 rfl rfl (by decide) rfl (by decide) rfl ?_
        have r46 : 0 ≤ (fI D H45 4 a0 3).toInt ∧ (fI D H45 4 a0 3).toInt ≤ 400 := S45.1.rng ga0 rfl (by decide) rfl
        refine lv_istore_n (lv' := [(3, .int (fI D H45 4 a0 3)), (2, .int (1 : Int32)), (1, .int v1), (0, .ref a0)]) hx hb dX4_readLine_66 rfl hl (by decide) rfl (fun ls hl => ?_)
        refine lv_aload_n hx hb dX4_readLine_67 rfl (lv_at hl 3 rfl) ?_
        refine lv_iconst (v := 0) hx hb dX4_readLine_68 (by decide) ?_
        have k_0 : (0 : Int32).toInt = 0 := by decide
        refine callV_Ev C S45 (c_X4_put l D G a0 (0 : Int32) ga0) kV_X4_55 ga0 (trivial) (by decide +kernel) dX4_readLine_69 hl.1 rfl rfl (by decide) cd_X4_put ⟨Nat.le_of_ble_eq_true rfl, Nat.le_of_ble_eq_true rfl, Nat.le_of_ble_eq_true rfl, Nat.le_of_ble_eq_true rfl, Nat.le_of_ble_eq_true rfl⟩ (fun H47 L47 S47 K47 q47 => ?_)
        obtain ⟨qa47, qb47, tq47⟩ := q47
        have tk47 : Lw D s.heap H47 a0 := tk45.trans tq47
        refine lv_aload_n hx hb dX4_readLine_72 rfl (lv_at hl 3 rfl) ?_
        refine q_grS (T := TX4) C S47.1 ga0 0 kF_X4_39 dX4_readLine_73 rfl rfl (by decide) rfl (by decide) kSF_X4_tape (fun g48 => ?_)
        refine q_lds C ks_X4_59 dX4_readLine_76 (fun a49 ha49 => ?_)
        refine callV_Pi C S47.1 S47.2.1.2.1 (c_X9_isWord l D G (fR D H47 4 a0 0) a49 2 g48 ha49) kV_X4_61 g48 (trivial) dX4_readLine_78 hl.1 rfl rfl (by decide) cd_X9_isWord ⟨Nat.le_of_ble_eq_true rfl, Nat.le_of_ble_eq_true rfl, Nat.le_of_ble_eq_true rfl, Nat.le_of_ble_eq_true rfl, Nat.le_of_ble_eq_true rfl⟩ (fun v50 q50 => ?_)
        refine lv_if_eq (tgt := 101) hx hb dX4_readLine_81 (by decide) (fun c51 => ?_) (fun c51 => ?_)
        · have b51 : v50.toInt = (0 : Int32).toInt := i_eq.mp c51
          have rw9 : 0 ≤ (fI D H47 4 a0 3).toInt ∧ (fI D H47 4 a0 3).toInt ≤ 400 := S47.1.rng ga0 rfl (by decide) rfl
          refine lv_iload_n hx hb dX4_readLine_101 rfl (lv_at hl 0 rfl) ?_
          refine lv_aload_n hx hb dX4_readLine_102 rfl (lv_at hl 3 rfl) ?_
          refine q_gr (T := TX4) C S47.1 ga0 2 kF_X4_13 dX4_readLine_103 rfl rfl (by decide) rfl (by decide) rfl (fun g52 => ?_)
          have n53 : aN H47 (fR D H47 4 a0 2) = 400 := len_22 S47.1 g52
          refine q_alen C S47.1 g52 dX4_readLine_106 rfl (by decide) rfl (fun v54 fv54 => ?_)
          refine lv_icmp_ge (tgt := 120) hx hb dX4_readLine_107 (by decide) (fun c55 => ?_) (fun c55 => ?_)
          · have b55 : v54.toInt ≤ (fI D H45 4 a0 3).toInt := i_le.mp c55
            have fin : Lc D s.heap a0 → Lc D H47 a0 := fun h9 => Lc.full tk47 (by omega) (by omega) h9
            have SQ := S47
            refine lv_aload_n hx hb dX4_readLine_120 rfl (lv_at hl 3 rfl) ?_
            refine lv_dup hx hb dX4_readLine_121 rfl ?_
            refine q_gi (T := TX4) C S47.1 ga0 4 kF_X4_21 dX4_readLine_122 rfl rfl (by decide) rfl (by decide) rfl ?_
            refine lv_iconst (v := 1) hx hb dX4_readLine_125 (by decide) ?_
            refine lv_iadd hx hb dX4_readLine_126 ?_
            refine lv_topi (fun v56 ev56 => ?_)
            refine q_put (T := TX4) C S47 ga0 4 kF_X4_21 dX4_readLine_127 rfl rfl (by decide) (by decide) rfl rfl rfl rfl rfl (vok_a rfl) (by decide +kernel) (fun H57 L57 S57 P57 => ?_)
            refine lv_iconst (v := 1) hx hb dX4_readLine_130 (by decide) ?_
            exact retE_z hQ C S57 hr dX4_readLine_131 (z01 (by omega) (by omega)) (⟨by omega, fun _ h9 => (fin h9).put SQ.1 ga0 P57⟩)
          · have b55 : ¬ v54.toInt ≤ (fI D H45 4 a0 3).toInt := fun z9 => c55 (i_le.mpr z9)
            refine lv_aload_n hx hb dX4_readLine_110 rfl (lv_at hl 3 rfl) ?_
            refine q_gr (T := TX4) C S47.1 ga0 2 kF_X4_13 dX4_readLine_111 rfl rfl (by decide) rfl (by decide) rfl (fun g58 => ?_)
            refine lv_iload_n hx hb dX4_readLine_114 rfl (lv_at hl 0 rfl) ?_
            refine lv_aload_n hx hb dX4_readLine_115 rfl (lv_at hl 3 rfl) ?_
            refine q_gi (T := TX4) C S47.1 ga0 3 kF_X4_17 dX4_readLine_116 rfl rfl (by decide) rfl (by decide) rfl ?_
            have r59 : 0 ≤ (fI D H47 4 a0 3).toInt ∧ (fI D H47 4 a0 3).toInt ≤ 400 := S47.1.rng ga0 rfl (by decide) rfl
            refine q_iast C S47 g58 (by omega) (by omega) dX4_readLine_119 rfl (by decide) (by decide +kernel) (fun _ _ h => ak_22 h) (fun H60 L60 S60 P60 => ?_)
            have fin : Lc D s.heap a0 → Lc D H60 a0 := fun h9 => Lc.wr S47.1 ga0 P60 tk47 (by omega) (by omega) (by omega) h9
            have SQ := S60
            refine lv_aload_n hx hb dX4_readLine_120 rfl (lv_at hl 3 rfl) ?_
            refine lv_dup hx hb dX4_readLine_121 rfl ?_
            refine q_gi (T := TX4) C S60.1 ga0 4 kF_X4_21 dX4_readLine_122 rfl rfl (by decide) rfl (by decide) rfl ?_
            refine lv_iconst (v := 1) hx hb dX4_readLine_125 (by decide) ?_
            refine lv_iadd hx hb dX4_readLine_126 ?_
            refine lv_topi (fun v61 ev61 => ?_)
            refine q_put (T := TX4) C S60 ga0 4 kF_X4_21 dX4_readLine_127 rfl rfl (by decide) (by decide) rfl rfl rfl rfl rfl (vok_a rfl) (by decide +kernel) (fun H62 L62 S62 P62 => ?_)
            refine lv_iconst (v := 1) hx hb dX4_readLine_130 (by decide) ?_
            exact retE_z hQ C S62 hr dX4_readLine_131 (z01 (by omega) (by omega)) (⟨by omega, fun _ h9 => (fin h9).put SQ.1 ga0 P62⟩)
        · have b51 : ¬ v50.toInt = (0 : Int32).toInt := fun z9 => c51 (i_eq.mpr z9)
          refine lv_aload_n hx hb dX4_readLine_84 rfl (lv_at hl 3 rfl) ?_
          refine q_grS (T := TX4) C S47.1 ga0 0 kF_X4_39 dX4_readLine_85 rfl rfl (by decide) rfl (by decide) kSF_X4_tape (fun g63 => ?_)
          refine callV_Ev C S47 (c_X9_next l D G (fR D H47 4 a0 0) g63) kV_X4_47 g63 (trivial) (by decide +kernel) dX4_readLine_88 hl.1 rfl rfl (by decide) cd_X9_next ⟨Nat.le_of_ble_eq_true rfl, Nat.le_of_ble_eq_true rfl, Nat.le_of_ble_eq_true rfl, Nat.le_of_ble_eq_true rfl, Nat.le_of_ble_eq_true rfl⟩ (fun H64 L64 S64 K64 q64 => ?_)
          have tk64 : Lw D s.heap H64 a0 := tk47.trans (Lw.keep S47.1 ga0 K64 (by decide +kernel) (by decide +kernel) (by decide +kernel))
          have ud : (fI D H64 4 a0 3).toInt = _ := congrArg Int32.toInt (K64.fI (k := 3) ga0 rfl (by decide) (by decide +kernel))
          refine lv_aload_n hx hb dX4_readLine_91 rfl (lv_at hl 3 rfl) ?_
          refine lv_iconst (v := 0) hx hb dX4_readLine_92 (by decide) ?_
          refine callV_Ei C S64 (c_X4_readCondition_d0 l D G a0 (0 : Int32) ga0 (by omega)) kV_X4_65 ga0 (trivial) (by decide +kernel) dX4_readLine_93 hl.1 rfl rfl (by decide) cd_X4_readCondition ⟨Nat.le_of_ble_eq_true rfl, Nat.le_of_ble_eq_true rfl, Nat.le_of_ble_eq_true rfl, Nat.le_of_ble_eq_true rfl, Nat.le_of_ble_eq_true rfl⟩ (fun v65 H65 L65 S65 K65 q65 => ?_)
          obtain ⟨q65, tq65⟩ := q65
          have tk65 : Lw D s.heap H65 a0 := tk64.trans tq65
          have ue := tq65.1
          refine lv_if_ne (tgt := 101) hx hb dX4_readLine_96 (by decide) (fun c66 => ?_) (fun c66 => ?_)
          · have b66 : ¬ v65.toInt = (0 : Int32).toInt := fun z9 => c66 (i_eq.mpr z9)
            have rw9 : 0 ≤ (fI D H65 4 a0 3).toInt ∧ (fI D H65 4 a0 3).toInt ≤ 400 := S65.1.rng ga0 rfl (by decide) rfl
            refine lv_iload_n hx hb dX4_readLine_101 rfl (lv_at hl 0 rfl) ?_
            refine lv_aload_n hx hb dX4_readLine_102 rfl (lv_at hl 3 rfl) ?_
            refine q_gr (T := TX4) C S65.1 ga0 2 kF_X4_13 dX4_readLine_103 rfl rfl (by decide) rfl (by decide) rfl (fun g67 => ?_)
            have n68 : aN H65 (fR D H65 4 a0 2) = 400 := len_22 S65.1 g67
            refine q_alen C S65.1 g67 dX4_readLine_106 rfl (by decide) rfl (fun v69 fv69 => ?_)
            refine lv_icmp_ge (tgt := 120) hx hb dX4_readLine_107 (by decide) (fun c70 => ?_) (fun c70 => ?_)
            · have b70 : v69.toInt ≤ (fI D H45 4 a0 3).toInt := i_le.mp c70
              have fin : Lc D s.heap a0 → Lc D H65 a0 := fun h9 => Lc.full tk65 (by omega) (by omega) h9
              have SQ := S65
              refine lv_aload_n hx hb dX4_readLine_120 rfl (lv_at hl 3 rfl) ?_
              refine lv_dup hx hb dX4_readLine_121 rfl ?_
              refine q_gi (T := TX4) C S65.1 ga0 4 kF_X4_21 dX4_readLine_122 rfl rfl (by decide) rfl (by decide) rfl ?_
              refine lv_iconst (v := 1) hx hb dX4_readLine_125 (by decide) ?_
              refine lv_iadd hx hb dX4_readLine_126 ?_
              refine lv_topi (fun v71 ev71 => ?_)
              refine q_put (T := TX4) C S65 ga0 4 kF_X4_21 dX4_readLine_127 rfl rfl (by decide) (by decide) rfl rfl rfl rfl rfl (vok_a rfl) (by decide +kernel) (fun H72 L72 S72 P72 => ?_)
              refine lv_iconst (v := 1) hx hb dX4_readLine_130 (by decide) ?_
              exact retE_z hQ C S72 hr dX4_readLine_131 (z01 (by omega) (by omega)) (⟨by omega, fun _ h9 => (fin h9).put SQ.1 ga0 P72⟩)
            · have b70 : ¬ v69.toInt ≤ (fI D H45 4 a0 3).toInt := fun z9 => c70 (i_le.mpr z9)
              refine lv_aload_n hx hb dX4_readLine_110 rfl (lv_at hl 3 rfl) ?_
              refine q_gr (T := TX4) C S65.1 ga0 2 kF_X4_13 dX4_readLine_111 rfl rfl (by decide) rfl (by decide) rfl (fun g73 => ?_)
              refine lv_iload_n hx hb dX4_readLine_114 rfl (lv_at hl 0 rfl) ?_
              refine lv_aload_n hx hb dX4_readLine_115 rfl (lv_at hl 3 rfl) ?_
              refine q_gi (T := TX4) C S65.1 ga0 3 kF_X4_17 dX4_readLine_116 rfl rfl (by decide) rfl (by decide) rfl ?_
              have r74 : 0 ≤ (fI D H65 4 a0 3).toInt ∧ (fI D H65 4 a0 3).toInt ≤ 400 := S65.1.rng ga0 rfl (by decide) rfl
              refine q_iast C S65 g73 (by omega) (by omega) dX4_readLine_119 rfl (by decide) (by decide +kernel) (fun _ _ h => ak_22 h) (fun H75 L75 S75 P75 => ?_)
              have fin : Lc D s.heap a0 → Lc D H75 a0 := fun h9 => Lc.wr S65.1 ga0 P75 tk65 (by omega) (by omega) (by omega) h9
              have SQ := S75
              refine lv_aload_n hx hb dX4_readLine_120 rfl (lv_at hl 3 rfl) ?_
              refine lv_dup hx hb dX4_readLine_121 rfl ?_
              refine q_gi (T := TX4) C S75.1 ga0 4 kF_X4_21 dX4_readLine_122 rfl rfl (by decide) rfl (by decide) rfl ?_
              refine lv_iconst (v := 1) hx hb dX4_readLine_125 (by decide) ?_
              refine lv_iadd hx hb dX4_readLine_126 ?_
              refine lv_topi (fun v76 ev76 => ?_)
              refine q_put (T := TX4) C S75 ga0 4 kF_X4_21 dX4_readLine_127 rfl rfl (by decide) (by decide) rfl rfl rfl rfl rfl (vok_a rfl) (by decide +kernel) (fun H77 L77 S77 P77 => ?_)
              refine lv_iconst (v := 1) hx hb dX4_readLine_130 (by decide) ?_
              exact retE_z hQ C S77 hr dX4_readLine_131 (z01 (by omega) (by omega)) (⟨by omega, fun _ h9 => (fin h9).put SQ.1 ga0 P77⟩)
          · have b66 : v65.toInt = (0 : Int32).toInt := i_eq.mp c66
            refine lv_iconst (v := 0) hx hb dX4_readLine_99 (by decide) ?_
            exact retE_z hQ C S65 hr dX4_readLine_100 (z01 (by omega) (by omega)) (⟨by omega, fun h9 => absurd h9 (by decide)⟩)
      · have b43 : (1 : Int32).toInt = (-1 : Int32).toInt := i_eq.mp c43
        exact absurd b43 (by omega)
  · have b2 : v1.toInt = (-1 : Int32).toInt := i_eq.mp c2
    refine lv_aload_n hx hb dX4_readLine_10 rfl (lv_at hl 1 rfl) ?_
    refine q_grS (T := TX4) C S.1 ga0 0 kF_X4_39 dX4_readLine_11 rfl rfl (by decide) rfl (by decide) kSF_X4_tape (fun g78 => ?_)
    refine callV_Ei C S (c_X9_refuse l D G (fR D s.heap 4 a0 0) g78) kV_X4_43 g78 (trivial) (by decide +kernel) dX4_readLine_14 hl.1 rfl rfl (by decide) cd_X9_refuse ⟨Nat.le_of_ble_eq_true rfl, Nat.le_of_ble_eq_true rfl, Nat.le_of_ble_eq_true rfl, Nat.le_of_ble_eq_true rfl, Nat.le_of_ble_eq_true rfl⟩ (fun v79 H79 L79 S79 K79 q79 => ?_)
    have tk79 : Lw D s.heap H79 a0 := tk0.trans (Lw.keep S.1 ga0 K79 (by decide +kernel) (by decide +kernel) (by decide +kernel))
    exact retE_z hQ C S79 hr dX4_readLine_17 (z01 (by omega) (by omega)) (⟨by omega, fun _ h9 => h9.keep hO ga0 K79 (by decide +kernel) (by decide +kernel) (by decide +kernel)⟩)

set_option maxRecDepth 100000 in
set_option maxHeartbeats 4000000 in
theorem c_X10_readLines_l (l : Launch) (D : DD) (G : Nat → Nat) (a0 : Nat) (ga0 : G a0 = 21) : CE l D G yX10_readLines cX10_readLines 2 (some .boolean) 22 [.ref a0] (fun _ => True) [(2, 3), (2, 4), (2, 5), (2, 6), (2, 2), (22, 0), (21, 3), (21, 4)] (xI (fun H r H1 => (0 ≤ r.toInt ∧ r.toInt ≤ 1) ∧ (r.toInt = 1 → Lc D H a0 → Lc D H1 a0))) := by
  refine enter (by decide) (Nat.le_of_ble_eq_true rfl) ?_
  intro p e s m args below meth c ls Q hA hQ C hr hO hpre hl
  have hx := C.1
  have hb := C.2.1
  have S : Sd D G [(2, 3), (2, 4), (2, 5), (2, 6), (2, 2), (22, 0), (21, 3), (21, 4)] s.heap s.heap [] := Sd.start hO
  have hl : lv_has ls 2 [(0, .ref a0)] := hl
  have tk0 : Lc D s.heap a0 → Lc D s.heap a0 := fun h => h
  refine lv_aload_n hx hb dX10_readLines_0 rfl (lv_at hl 0 rfl) ?_
  refine q_gr (T := TX4) C S.1 ga0 0 kF_X10_7 dX10_readLines_1 rfl rfl (by decide) rfl (by decide) rfl (fun g1 => ?_)
  refine callV_Ev C S (c_X9_rewind l D G (fR D s.heap 4 a0 0) g1) kV_X10_17 g1 (trivial) (by decide +kernel) dX10_readLines_4 hl.1 rfl rfl (by decide) cd_X9_rewind ⟨Nat.le_of_ble_eq_true rfl, Nat.le_of_ble_eq_true rfl, Nat.le_of_ble_eq_true rfl, Nat.le_of_ble_eq_true rfl, Nat.le_of_ble_eq_true rfl⟩ (fun H2 L2 S2 K2 q2 => ?_)
  have tk2 : Lc D s.heap a0 → Lc D H2 a0 := fun h9  => (tk0 h9).keep S.1 ga0 K2 (by decide +kernel) (by decide +kernel) (by decide +kernel)
  refine lv_aload_n hx hb dX10_readLines_7 rfl (lv_at hl 0 rfl) ?_
  refine q_gr (T := TX4) C S2.1 ga0 0 kF_X10_7 dX10_readLines_8 rfl rfl (by decide) rfl (by decide) rfl (fun g3 => ?_)
  refine q_gi (T := TX9) C S2.1 g3 3 kF_X10_22 dX10_readLines_11 rfl rfl (by decide) rfl (by decide) rfl ?_
  have k_0 : (0 : Int32).toInt = 0 := by decide
  refine lv_if_ne (tgt := 19) hx hb dX10_readLines_14 (by decide) (fun c4 => ?_) (fun c4 => ?_)
  · have b4 : ¬ (fI D H2 9 (fR D H2 4 a0 0) 3).toInt = (0 : Int32).toInt := fun z9 => c4 (i_eq.mpr z9)
    refine lv_iconst (v := 0) hx hb dX10_readLines_19 (by decide) ?_
    refine lv_istore_n (lv' := [(1, .int (0 : Int32)), (0, .ref a0)]) hx hb dX10_readLines_20 rfl hl (by decide) rfl (fun ls hl => ?_)
    have Lp21 : ∀ (n : Nat) (x1_21 : Int32) (H_21 : Heap) (L_21 : List Loc) (ls : Array Slot), (Sd D G [(2, 3), (2, 4), (2, 5), (2, 6), (2, 2), (22, 0), (21, 3), (21, 4)] s.heap H_21 L_21) → (0 ≤ x1_21.toInt ∧ x1_21.toInt ≤ 2147483647) → (Lc D s.heap a0 → Lc D H_21 a0) → 2147483648 - x1_21.toInt ≤ (n : Int) → lv_has ls 2 [(1, .int x1_21), (0, .ref a0)] → W p l e (rmU 22 0 0) s m args below meth c H_21 L_21 0 0 Q (F0 m 21 ls []) := by
      intro n
      induction n with
      | zero =>
        intro x1_21 H_21 L_21 ls S_21 j21_0 u21_0 hn hl
        exact absurd hn (by omega)
      | succ n ih21 =>
        intro x1_21 H_21 L_21 ls S_21 j21_0 u21_0 hn hl
        refine lv_iload_n hx hb dX10_readLines_21 rfl (lv_at hl 0 rfl) ?_
        refine lv_aload_n hx hb dX10_readLines_22 rfl (lv_at hl 1 rfl) ?_
        refine q_gi (T := TX4) C S_21.1 ga0 1 kF_X10_13 dX10_readLines_23 rfl rfl (by decide) rfl (by decide) rfl ?_
        have r6 := i_rng (fI D H_21 4 a0 1)
        refine lv_icmp_ge (tgt := 89) hx hb dX10_readLines_26 (by decide) (fun c5 => ?_) (fun c5 => ?_)
        · have b5 : (fI D H_21 4 a0 1).toInt ≤ x1_21.toInt := i_le.mp c5
          refine lv_aload_n hx hb dX10_readLines_89 rfl (lv_at hl 1 rfl) ?_
          refine q_gr (T := TX4) C S_21.1 ga0 0 kF_X10_7 dX10_readLines_90 rfl rfl (by decide) rfl (by decide) rfl (fun g7 => ?_)
          refine callV_Ei C S_21 (c_X9_refuse l D G (fR D H_21 4 a0 0) g7) kV_X10_25 g7 (trivial) (by decide +kernel) dX10_readLines_93 hl.1 rfl rfl (by decide) cd_X9_refuse ⟨Nat.le_of_ble_eq_true rfl, Nat.le_of_ble_eq_true rfl, Nat.le_of_ble_eq_true rfl, Nat.le_of_ble_eq_true rfl, Nat.le_of_ble_eq_true rfl⟩ (fun v8 H8 L8 S8 K8 q8 => ?_)
          have tk8 : Lc D s.heap a0 → Lc D H8 a0 := fun h9  => (u21_0 h9).keep S_21.1 ga0 K8 (by decide +kernel) (by decide +kernel) (by decide +kernel)
          exact retE_z hQ C S8 hr dX10_readLines_96 (z01 (by omega) (by omega)) (⟨by omega, fun _ h9 => tk8 h9⟩)
        · have b5 : ¬ (fI D H_21 4 a0 1).toInt ≤ x1_21.toInt := fun z9 => c5 (i_le.mpr z9)
          refine lv_aload_n hx hb dX10_readLines_29 rfl (lv_at hl 1 rfl) ?_
          refine q_gr (T := TX4) C S_21.1 ga0 0 kF_X10_7 dX10_readLines_30 rfl rfl (by decide) rfl (by decide) rfl (fun g9 => ?_)
          refine q_gi (T := TX9) C S_21.1 g9 3 kF_X10_22 dX10_readLines_33 rfl rfl (by decide) rfl (by decide) rfl ?_
          refine lv_iconst (v := 1) hx hb dX10_readLines_36 (by decide) ?_
          have k_1 : (1 : Int32).toInt = 1 := by decide
          refine lv_icmp_eq (tgt := 48) hx hb dX10_readLines_37 (by decide) (fun c10 => ?_) (fun c10 => ?_)
          · have b10 : (fI D H_21 9 (fR D H_21 4 a0 0) 3).toInt = (1 : Int32).toInt := i_eq.mp c10
            refine lv_aload_n hx hb dX10_readLines_48 rfl (lv_at hl 1 rfl) ?_
            refine callU_Ei C S_21 (c_X4_readLine l D G a0 ga0) kU_rl4 kD_rl ga0 (trivial) (by decide +kernel) dX10_readLines_49 hl.1 rfl rfl (by decide) (by decide +kernel) ⟨Nat.le_of_ble_eq_true rfl, Nat.le_of_ble_eq_true rfl, Nat.le_of_ble_eq_true rfl, Nat.le_of_ble_eq_true rfl, Nat.le_of_ble_eq_true rfl⟩ (fun v11 H11 L11 S11 K11 q11 => ?_)
            obtain ⟨q11, tq11⟩ := q11
            have tk11 : Lc D s.heap a0 → (v11.toInt = 1) → Lc D H11 a0 := fun h9 k90 => tq11 k90 (u21_0 h9)
            refine lv_if_ne (tgt := 57) hx hb dX10_readLines_52 (by decide) (fun c12 => ?_) (fun c12 => ?_)
            · have b12 : ¬ v11.toInt = (0 : Int32).toInt := fun z9 => c12 (i_eq.mpr z9)
              refine lv_aload_n hx hb dX10_readLines_57 rfl (lv_at hl 1 rfl) ?_
              refine q_gr (T := TX4) C S11.1 ga0 0 kF_X10_7 dX10_readLines_58 rfl rfl (by decide) rfl (by decide) rfl (fun g13 => ?_)
              refine q_gi (T := TX9) C S11.1 g13 3 kF_X10_22 dX10_readLines_61 rfl rfl (by decide) rfl (by decide) rfl ?_
              refine lv_if_ne (tgt := 69) hx hb dX10_readLines_64 (by decide) (fun c14 => ?_) (fun c14 => ?_)
              · have b14 : ¬ (fI D H11 9 (fR D H11 4 a0 0) 3).toInt = (0 : Int32).toInt := fun z9 => c14 (i_eq.mpr z9)
                refine lv_aload_n hx hb dX10_readLines_69 rfl (lv_at hl 1 rfl) ?_
                refine q_gr (T := TX4) C S11.1 ga0 0 kF_X10_7 dX10_readLines_70 rfl rfl (by decide) rfl (by decide) rfl (fun g15 => ?_)
                refine lv_bipush (v := 59) hx hb dX10_readLines_73 (by decide) ?_
                have k_59 : (59 : Int32).toInt = 59 := by decide
                refine callV_Ei C S11 (c_X9_takeSign l D G (fR D H11 4 a0 0) (59 : Int32) g15) kV_X10_32 g15 (trivial) (by decide +kernel) dX10_readLines_75 hl.1 rfl rfl (by decide) cd_X9_takeSign ⟨Nat.le_of_ble_eq_true rfl, Nat.le_of_ble_eq_true rfl, Nat.le_of_ble_eq_true rfl, Nat.le_of_ble_eq_true rfl, Nat.le_of_ble_eq_true rfl⟩ (fun v16 H16 L16 S16 K16 q16 => ?_)
                have tk16 : Lc D s.heap a0 → (v11.toInt = 1) → Lc D H16 a0 := fun h9 k90 => (tk11 h9 k90).keep S11.1 ga0 K16 (by decide +kernel) (by decide +kernel) (by decide +kernel)
                refine lv_if_ne (tgt := 83) hx hb dX10_readLines_78 (by decide) (fun c17 => ?_) (fun c17 => ?_)
                · have b17 : ¬ v16.toInt = (0 : Int32).toInt := fun z9 => c17 (i_eq.mpr z9)
                  obtain ⟨v18, ev18⟩ : ∃ y : Int32, y = x1_21 + (1) := ⟨_, rfl⟩
                  have f19 : v18.toInt = x1_21.toInt + (1) := by rw [ev18]; exact i_addc k_1 (by omega) (by omega)
                  refine lv_iinc (v := v18) (lv' := [(1, .int v18), (0, .ref a0)]) hx hb dX10_readLines_83 hl (k := 0) rfl (by rw [ev18]; rfl) (by decide) rfl (fun ls hl => ?_)
                  refine lv_goto (tgt := 21) hx hb dX10_readLines_86 (by decide) ?_
                  exact ih21 v18 H16 L16 ls S16 (by omega) (fun h9 => tk16 h9 (by omega)) (by omega) (lv_sub hl [0, 1] rfl)
                · have b17 : v16.toInt = (0 : Int32).toInt := i_eq.mp c17
                  refine lv_iconst (v := 0) hx hb dX10_readLines_81 (by decide) ?_
                  exact retE_z hQ C S16 hr dX10_readLines_82 (z01 (by omega) (by omega)) (⟨by omega, fun h9 => absurd h9 (by decide)⟩)
              · have b14 : (fI D H11 9 (fR D H11 4 a0 0) 3).toInt = (0 : Int32).toInt := i_eq.mp c14
                refine lv_iconst (v := 1) hx hb dX10_readLines_67 (by decide) ?_
                exact retE_z hQ C S11 hr dX10_readLines_68 (z01 (by omega) (by omega)) (⟨by omega, fun _ h9 => tk11 h9 (by omega)⟩)
            · have b12 : v11.toInt = (0 : Int32).toInt := i_eq.mp c12
              refine lv_iconst (v := 0) hx hb dX10_readLines_55 (by decide) ?_
              exact retE_z hQ C S11 hr dX10_readLines_56 (z01 (by omega) (by omega)) (⟨by omega, fun h9 => absurd h9 (by decide)⟩)
          · have b10 : ¬ (fI D H_21 9 (fR D H_21 4 a0 0) 3).toInt = (1 : Int32).toInt := fun z9 => c10 (i_eq.mpr z9)
            refine lv_aload_n hx hb dX10_readLines_40 rfl (lv_at hl 1 rfl) ?_
            refine q_gr (T := TX4) C S_21.1 ga0 0 kF_X10_7 dX10_readLines_41 rfl rfl (by decide) rfl (by decide) rfl (fun g20 => ?_)
            refine callV_Ei C S_21 (c_X9_refuse l D G (fR D H_21 4 a0 0) g20) kV_X10_25 g20 (trivial) (by decide +kernel) dX10_readLines_44 hl.1 rfl rfl (by decide) cd_X9_refuse ⟨Nat.le_of_ble_eq_true rfl, Nat.le_of_ble_eq_true rfl, Nat.le_of_ble_eq_true rfl, Nat.le_of_ble_eq_true rfl, Nat.le_of_ble_eq_true rfl⟩ (fun v21 H21 L21 S21 K21 q21 => ?_)
            have tk21 : Lc D s.heap a0 → Lc D H21 a0 := fun h9  => (u21_0 h9).keep S_21.1 ga0 K21 (by decide +kernel) (by decide +kernel) (by decide +kernel)
            exact retE_z hQ C S21 hr dX10_readLines_47 (z01 (by omega) (by omega)) (⟨by omega, fun _ h9 => tk21 h9⟩)
    exact Lp21 2147483648 (0 : Int32) H2 L2 ls S2 (by omega) (fun h9 => tk2 h9)  (by omega) (lv_sub hl [0, 1] rfl)
  · have b4 : (fI D H2 9 (fR D H2 4 a0 0) 3).toInt = (0 : Int32).toInt := i_eq.mp c4
    refine lv_iconst (v := 1) hx hb dX10_readLines_17 (by decide) ?_
    have k_1 : (1 : Int32).toInt = 1 := by decide
    exact retE_z hQ C S2 hr dX10_readLines_18 (z01 (by omega) (by omega)) (⟨by omega, fun _ h9 => tk2 h9⟩)
