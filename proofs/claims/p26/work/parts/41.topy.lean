set_option maxRecDepth 100000 in
set_option maxHeartbeats 4000000 in
theorem c_X11_needTold (l : Launch) (D : DD) (G : Nat → Nat) (a0 : Nat) (x1 : Int32) (ga0 : G a0 = 1) : CX l D G yX11_needTold cX11_needTold 3 none 1 2 12 [.ref a0, .int x1] (fun _ => True) [(18, 3), (18, 4), (2, 1)] (xV (fun H H1 => (0 ≤ x1.toInt ∧ x1.toInt ≤ 5) ∧ (fI D H1 9 (fR D H1 10 a0 0) 1).toInt = 0)) (fun H En H1 => (En = "java/lang/IndexOutOfBoundsException" ∨ En = "java/lang/IllegalArgumentException") ∧ (fI D H1 9 (fR D H1 10 a0 0) 1).toInt = 0) := by
  refine enterX (by decide) (Nat.le_of_ble_eq_true rfl) ?_
  intro hl0 p e s m args below meth c ls Q hA hQ ht C hr hO hpre hl
  have hx := C.1
  have hb := C.2.1
  have S : Sd D G [(18, 3), (18, 4), (2, 1)] s.heap s.heap [] := Sd.start hO
  have hl : lv_has ls 3 [(0, .ref a0), (1, .int x1)] := hl
  refine lv_aload_n hx hb dX11_needTold_0 rfl (lv_at hl 0 rfl) ?_
  refine q_gr (T := TX11) C S.1 ga0 5 kF_X11_41 dX11_needTold_1 rfl rfl (by decide) rfl (by decide) rfl (fun g1 => ?_)
  refine lv_aload_n hx hb dX11_needTold_4 rfl (lv_at hl 0 rfl) ?_
  refine q_gr (T := TX11) C S.1 ga0 0 kF_X11_10 dX11_needTold_5 rfl rfl (by decide) rfl (by decide) rfl (fun g2 => ?_)
  refine callV_Ei C S (c_X8_readSmoke l D G (fR D s.heap 10 a0 5) (fR D s.heap 10 a0 0) g1 g2) kV_X11_355 g1 (trivial) (by decide +kernel) dX11_needTold_8 hl.1 rfl rfl (by decide) cd_X8_readSmoke ⟨Nat.le_of_ble_eq_true rfl, Nat.le_of_ble_eq_true rfl, Nat.le_of_ble_eq_true rfl, Nat.le_of_ble_eq_true rfl, Nat.le_of_ble_eq_true rfl⟩ (fun v3 H3 L3 S3 K3 q3 => ?_)
  refine lv_istore_n (lv' := [(2, .int v3), (0, .ref a0), (1, .int x1)]) hx hb dX11_needTold_11 rfl hl (by decide) rfl (fun ls hl => ?_)
  refine lv_aload_n hx hb dX11_needTold_12 rfl (lv_at hl 1 rfl) ?_
  refine q_gr (T := TX11) C S3.1 ga0 0 kF_X11_10 dX11_needTold_13 rfl rfl (by decide) rfl (by decide) rfl (fun g4 => ?_)
  refine lv_iconst (v := 0) hx hb dX11_needTold_16 (by decide) ?_
  have k_0 : (0 : Int32).toInt = 0 := by decide
  refine q_put (T := TX9) C S3 g4 1 kF_X11_71 dX11_needTold_17 rfl rfl (by decide) (by decide) rfl rfl rfl rfl rfl (vok_i rfl (by omega) (by omega)) (by decide +kernel) (fun H5 L5 S5 P5 => ?_)
  have tz : (fI D H5 9 (fR D H5 10 a0 0) 1).toInt = 0 := by rw [Pt.r P5 (ne_role ga0 g4 (by decide)), Pt.i P5]; decide
  have SQ := S5
  refine lv_aload_n hx hb dX11_needTold_20 rfl (lv_at hl 1 rfl) ?_
  refine lv_iload_n hx hb dX11_needTold_21 rfl (lv_at hl 2 rfl) ?_
  refine callV_Xv hl0 C S5 (c_X11_needHouse l D G a0 x1 ga0) kV_X11_125 ga0 (trivial) (by decide +kernel) dX11_needTold_22 hl.1 rfl rfl (by decide) cd_X11_needHouse ⟨Nat.le_of_ble_eq_true rfl, Nat.le_of_ble_eq_true rfl, Nat.le_of_ble_eq_true rfl, Nat.le_of_ble_eq_true rfl, Nat.le_of_ble_eq_true rfl⟩ (fun H6 L6 S6 K6 q6 => ?_) (fun En H6 L6 q9 ce S6 K6 X6 h7 h8 h9 => outX hQ C ht S6 h7 h8 h9 (by decide) (by decide) (⟨Or.inl X6, by rw [tlK SQ.1 ga0 K6 (by decide) (by decide)]; exact tz⟩))
  have tz : (fI D H6 9 (fR D H6 10 a0 0) 1).toInt = 0 := by rw [tlK SQ.1 ga0 K6 (by decide) (by decide)]; exact tz
  refine lv_iload_n hx hb dX11_needTold_25 rfl (lv_at hl 0 rfl) ?_
  refine lv_if_ne (tgt := 40) hx hb dX11_needTold_26 (by decide) (fun c7 => ?_) (fun c7 => ?_)
  · have b7 : ¬ v3.toInt = (0 : Int32).toInt := fun z9 => c7 (i_eq.mpr z9)
    exact retX_v hQ C S6 hr dX11_needTold_40 (by decide) (by decide) (⟨by omega, tz⟩)
  · have b7 : v3.toInt = (0 : Int32).toInt := i_eq.mp c7
    exact q_throwW hl0 hQ C ht S6 kL_X11_88 kI_IAE ks_X11_359 ka_X11_92 kf_IAE dX11_needTold_29 dX11_needTold_32 dX11_needTold_33 dX11_needTold_36 dX11_needTold_39 hl.1 ⟨Nat.le_of_ble_eq_true rfl, Nat.le_of_ble_eq_true rfl, Nat.le_of_ble_eq_true rfl, Nat.le_of_ble_eq_true rfl⟩ (by decide) (by decide) (fun H1 g1 g2 => ⟨by simp, by rw [tlK S6.1 ga0 (Keep.grow (E := []) S6.1 g1 g2) (by decide) (by decide)]; exact tz⟩)

set_option maxRecDepth 100000 in
set_option maxHeartbeats 4000000 in
theorem c_X11_smokes (l : Launch) (D : DD) (G : Nat → Nat) (a0 : Nat) (x1 : Int32) (x2 : Int32) (ga0 : G a0 = 1) (ix2 : 0 ≤ x2.toInt ∧ x2.toInt ≤ 1) : CX l D G yX11_smokes cX11_smokes 3 (some .int) 2 2 12 [.ref a0, .int x1, .int x2] (fun _ => True) [(18, 3), (18, 4), (2, 1)] (xI (fun H r H1 => (fI D H1 9 (fR D H1 10 a0 0) 1).toInt = 0)) (fun H En H1 => (En = "java/lang/IndexOutOfBoundsException" ∨ En = "java/lang/IllegalArgumentException") ∧ (fI D H1 9 (fR D H1 10 a0 0) 1).toInt = 0) := by
  refine enterX (by decide) (Nat.le_of_ble_eq_true rfl) ?_
  intro hl0 p e s m args below meth c ls Q hA hQ ht C hr hO hpre hl
  have hx := C.1
  have hb := C.2.1
  have S : Sd D G [(18, 3), (18, 4), (2, 1)] s.heap s.heap [] := Sd.start hO
  have hl : lv_has ls 3 [(0, .ref a0), (1, .int x1), (2, .int x2)] := hl
  refine lv_aload_n hx hb dX11_smokes_0 rfl (lv_at hl 0 rfl) ?_
  refine lv_iload_n hx hb dX11_smokes_1 rfl (lv_at hl 1 rfl) ?_
  refine callV_Xv hl0 C S (c_X11_needTold l D G a0 x1 ga0) kV_X11_274 ga0 (trivial) (by decide +kernel) dX11_smokes_2 hl.1 rfl rfl (by decide) cd_X11_needTold ⟨Nat.le_of_ble_eq_true rfl, Nat.le_of_ble_eq_true rfl, Nat.le_of_ble_eq_true rfl, Nat.le_of_ble_eq_true rfl, Nat.le_of_ble_eq_true rfl⟩ (fun H1 L1 S1 K1 q1 => ?_) (fun En H1 L1 q9 ce S1 K1 X1 h7 h8 h9 => outX hQ C ht S1 h7 h8 h9 (by decide) (by decide) (X1))
  have tz := q1.2
  have bx := q1.1
  refine lv_iload_n hx hb dX11_smokes_5 rfl (lv_at hl 2 rfl) ?_
  have k_0 : (0 : Int32).toInt = 0 := by decide
  refine lv_if_eq (tgt := 20) hx hb dX11_smokes_6 (by decide) (fun c2 => ?_) (fun c2 => ?_)
  · have b2 : x2.toInt = (0 : Int32).toInt := i_eq.mp c2
    refine lv_aload_n hx hb dX11_smokes_20 rfl (lv_at hl 0 rfl) ?_
    refine q_gr (T := TX11) C S1.1 ga0 5 kF_X11_41 dX11_smokes_21 rfl rfl (by decide) rfl (by decide) rfl (fun g3 => ?_)
    refine lv_iload_n hx hb dX11_smokes_24 rfl (lv_at hl 1 rfl) ?_
    refine lv_iconst (v := 0) hx hb dX11_smokes_25 (by decide) ?_
    refine callV_Pi C S1.1 S1.2.1.2.1 (c_X8_fittingWith l D G (fR D H1 10 a0 5) x1 (0 : Int32) g3) kV_X11_280 g3 (trivial) dX11_smokes_26 hl.1 rfl rfl (by decide) cd_X8_fittingWith ⟨Nat.le_of_ble_eq_true rfl, Nat.le_of_ble_eq_true rfl, Nat.le_of_ble_eq_true rfl, Nat.le_of_ble_eq_true rfl, Nat.le_of_ble_eq_true rfl⟩ (fun v4 q4 => ?_)
    exact retX_i hQ C S1 hr dX11_smokes_29 (by decide) (by decide) (tz)
  · have b2 : ¬ x2.toInt = (0 : Int32).toInt := fun z9 => c2 (i_eq.mpr z9)
    refine lv_aload_n hx hb dX11_smokes_9 rfl (lv_at hl 0 rfl) ?_
    refine q_gr (T := TX11) C S1.1 ga0 5 kF_X11_41 dX11_smokes_10 rfl rfl (by decide) rfl (by decide) rfl (fun g5 => ?_)
    refine lv_iload_n hx hb dX11_smokes_13 rfl (lv_at hl 1 rfl) ?_
    refine callV_Pi C S1.1 S1.2.1.2.1 (c_X8_fewestBurnt l D G (fR D H1 10 a0 5) x1 g5) kV_X11_277 g5 (trivial) dX11_smokes_14 hl.1 rfl rfl (by decide) cd_X8_fewestBurnt ⟨Nat.le_of_ble_eq_true rfl, Nat.le_of_ble_eq_true rfl, Nat.le_of_ble_eq_true rfl, Nat.le_of_ble_eq_true rfl, Nat.le_of_ble_eq_true rfl⟩ (fun v6 q6 => ?_)
    refine lv_goto (tgt := 29) hx hb dX11_smokes_17 (by decide) ?_
    exact retX_i hQ C S1 hr dX11_smokes_29 (by decide) (by decide) (tz)

set_option maxRecDepth 100000 in
set_option maxHeartbeats 4000000 in
theorem c_X11_look (l : Launch) (D : DD) (G : Nat → Nat) (a0 : Nat) (x1 : Int32) (ga0 : G a0 = 1) : CX l D G yX11_look cX11_look 8 (some .int) 2 2 12 [.ref a0, .int x1] (fun _ => True) [(18, 3), (18, 4), (2, 1)] (xI (fun H r H1 => (fI D H1 9 (fR D H1 10 a0 0) 1).toInt = 0)) (fun H En H1 => (En = "java/lang/IndexOutOfBoundsException" ∨ En = "java/lang/IllegalArgumentException") ∧ (fI D H1 9 (fR D H1 10 a0 0) 1).toInt = 0) := by
  refine enterX (by decide) (Nat.le_of_ble_eq_true rfl) ?_
  intro hl0 p e s m args below meth c ls Q hA hQ ht C hr hO hpre hl
  have hx := C.1
  have hb := C.2.1
  have S : Sd D G [(18, 3), (18, 4), (2, 1)] s.heap s.heap [] := Sd.start hO
  have hl : lv_has ls 8 [(0, .ref a0), (1, .int x1)] := hl
  refine lv_aload_n hx hb dX11_look_0 rfl (lv_at hl 0 rfl) ?_
  refine lv_iload_n hx hb dX11_look_1 rfl (lv_at hl 1 rfl) ?_
  refine callV_Xv hl0 C S (c_X11_needTold l D G a0 x1 ga0) kV_X11_274 ga0 (trivial) (by decide +kernel) dX11_look_2 hl.1 rfl rfl (by decide) cd_X11_needTold ⟨Nat.le_of_ble_eq_true rfl, Nat.le_of_ble_eq_true rfl, Nat.le_of_ble_eq_true rfl, Nat.le_of_ble_eq_true rfl, Nat.le_of_ble_eq_true rfl⟩ (fun H1 L1 S1 K1 q1 => ?_) (fun En H1 L1 q9 ce S1 K1 X1 h7 h8 h9 => outX hQ C ht S1 h7 h8 h9 (by decide) (by decide) (X1))
  have tz := q1.2
  have bx := q1.1
  refine lv_aload_n hx hb dX11_look_5 rfl (lv_at hl 0 rfl) ?_
  refine q_gr (T := TX11) C S1.1 ga0 5 kF_X11_41 dX11_look_6 rfl rfl (by decide) rfl (by decide) rfl (fun g2 => ?_)
  refine lv_iload_n hx hb dX11_look_9 rfl (lv_at hl 1 rfl) ?_
  refine lv_iconst (v := 0) hx hb dX11_look_10 (by decide) ?_
  have k_0 : (0 : Int32).toInt = 0 := by decide
  refine callV_Pi C S1.1 S1.2.1.2.1 (c_X8_fittingWith l D G (fR D H1 10 a0 5) x1 (0 : Int32) g2) kV_X11_280 g2 (trivial) dX11_look_11 hl.1 rfl rfl (by decide) cd_X8_fittingWith ⟨Nat.le_of_ble_eq_true rfl, Nat.le_of_ble_eq_true rfl, Nat.le_of_ble_eq_true rfl, Nat.le_of_ble_eq_true rfl, Nat.le_of_ble_eq_true rfl⟩ (fun v3 q3 => ?_)
  refine lv_istore_n (lv' := [(2, .int v3), (0, .ref a0), (1, .int x1)]) hx hb dX11_look_14 rfl hl (by decide) rfl (fun ls hl => ?_)
  refine lv_iconst (v := -1) hx hb dX11_look_15 (by decide) ?_
  refine lv_istore_n (lv' := [(3, .int (-1 : Int32)), (2, .int v3), (0, .ref a0), (1, .int x1)]) hx hb dX11_look_16 rfl hl (by decide) rfl (fun ls hl => ?_)
  refine lv_iload_n hx hb dX11_look_17 rfl (lv_at hl 1 rfl) ?_
  refine lv_istore (lv' := [(4, .int v3), (3, .int (-1 : Int32)), (2, .int v3), (0, .ref a0), (1, .int x1)]) hx hb dX11_look_18 hl (by decide) rfl (fun ls hl => ?_)
  refine lv_iconst (v := 0) hx hb dX11_look_20 (by decide) ?_
  refine lv_istore (lv' := [(5, .int (0 : Int32)), (4, .int v3), (3, .int (-1 : Int32)), (2, .int v3), (0, .ref a0), (1, .int x1)]) hx hb dX11_look_21 hl (by decide) rfl (fun ls hl => ?_)
  have Lp23 : ∀ (n : Nat) (x5_23 : Int32) (x4_23 : Int32) (x3_23 : Int32) (ls : Array Slot), (0 ≤ x5_23.toInt ∧ x5_23.toInt ≤ 2147483647) → 2147483648 - x5_23.toInt ≤ (n : Int) → lv_has ls 8 [(5, .int x5_23), (4, .int x4_23), (3, .int x3_23), (2, .int v3), (0, .ref a0), (1, .int x1)] → W p l e (rmU 2 2 12) s m args below meth c H1 L1 2 12 Q (F0 m 23 ls []) := by
    intro n
    induction n with
    | zero =>
      intro x5_23 x4_23 x3_23 ls j23_0 hn hl
      exact absurd hn (by omega)
    | succ n ih23 =>
      intro x5_23 x4_23 x3_23 ls j23_0 hn hl
      refine lv_iload hx hb dX11_look_23 (lv_at hl 0 rfl) ?_
      refine lv_aload_n hx hb dX11_look_25 rfl (lv_at hl 4 rfl) ?_
      refine q_gr (T := TX11) C S1.1 ga0 1 kF_X11_19 dX11_look_26 rfl rfl (by decide) rfl (by decide) rfl (fun g4 => ?_)
      refine q_gi (T := TX5) C S1.1 g4 4 kF_X11_283 dX11_look_29 rfl rfl (by decide) rfl (by decide) rfl ?_
      have r5 : 0 ≤ (fI D H1 5 (fR D H1 10 a0 1) 4).toInt ∧ (fI D H1 5 (fR D H1 10 a0 1) 4).toInt ≤ 12 := S1.1.rng g4 rfl (by decide) rfl
      have r7 := i_rng x5_23
      refine lv_icmp_ge (tgt := 101) hx hb dX11_look_32 (by decide) (fun c6 => ?_) (fun c6 => ?_)
      · have b6 : (fI D H1 5 (fR D H1 10 a0 1) 4).toInt ≤ x5_23.toInt := i_le.mp c6
        refine lv_iload_n hx hb dX11_look_101 rfl (lv_at hl 2 rfl) ?_
        exact retX_i hQ C S1 hr dX11_look_102 (by decide) (by decide) (tz)
      · have b6 : ¬ (fI D H1 5 (fR D H1 10 a0 1) 4).toInt ≤ x5_23.toInt := fun z9 => c6 (i_le.mpr z9)
        refine lv_aload_n hx hb dX11_look_35 rfl (lv_at hl 4 rfl) ?_
        refine q_gr (T := TX11) C S1.1 ga0 1 kF_X11_19 dX11_look_36 rfl rfl (by decide) rfl (by decide) rfl (fun g8 => ?_)
        refine q_gr (T := TX5) C S1.1 g8 1 kF_X11_176 dX11_look_39 rfl rfl (by decide) rfl (by decide) rfl (fun g9 => ?_)
        refine lv_iload hx hb dX11_look_42 (lv_at hl 0 rfl) ?_
        refine q_aald C S1.1 g9 (by omega) (by omega) dX11_look_44 rfl (by decide) rfl rfl (fun g10 => ?_)
        refine q_gi (T := TX1) C S1.1 g10 0 kF_X11_180 dX11_look_45 rfl rfl (by decide) rfl (by decide) rfl ?_
        have r11 : 0 ≤ (fI D H1 1 (eR H1 (fR D H1 5 (fR D H1 10 a0 1) 1) x5_23.toInt.toNat) 0).toInt ∧ (fI D H1 1 (eR H1 (fR D H1 5 (fR D H1 10 a0 1) 1) x5_23.toInt.toNat) 0).toInt ≤ 5 := S1.1.rng g10 rfl (by decide) rfl
        refine lv_iload_n hx hb dX11_look_48 rfl (lv_at hl 5 rfl) ?_
        refine lv_icmp_ne (tgt := 67) hx hb dX11_look_49 (by decide) (fun c12 => ?_) (fun c12 => ?_)
        · have b12 : ¬ (fI D H1 1 (eR H1 (fR D H1 5 (fR D H1 10 a0 1) 1) x5_23.toInt.toNat) 0).toInt = x1.toInt := fun z9 => c12 (i_eq.mpr z9)
          refine lv_iconst (v := 0) hx hb dX11_look_67 (by decide) ?_
          refine lv_istore (lv' := [(6, .int (0 : Int32)), (5, .int x5_23), (4, .int x4_23), (3, .int x3_23), (2, .int v3), (0, .ref a0), (1, .int x1)]) hx hb dX11_look_68 hl (by decide) rfl (fun ls hl => ?_)
          refine lv_iload hx hb dX11_look_70 (lv_at hl 0 rfl) ?_
          refine lv_iload_n hx hb dX11_look_72 rfl (lv_at hl 4 rfl) ?_
          refine lv_iload hx hb dX11_look_73 (lv_at hl 0 rfl) ?_
          refine lv_isub hx hb dX11_look_75 ?_
          refine lv_topi (fun v13 ev13 => ?_)
          refine q_max C kN_X11_286 dX11_look_76 hl.1 ⟨Nat.le_of_ble_eq_true rfl, Nat.le_of_ble_eq_true rfl, Nat.le_of_ble_eq_true rfl, Nat.le_of_ble_eq_true rfl⟩ (fun v14 fv14 => ?_)
          refine lv_istore (lv' := [(7, .int v14), (6, .int (0 : Int32)), (5, .int x5_23), (4, .int x4_23), (3, .int x3_23), (2, .int v3), (0, .ref a0), (1, .int x1)]) hx hb dX11_look_79 hl (by decide) rfl (fun ls hl => ?_)
          refine lv_iload hx hb dX11_look_81 (lv_at hl 0 rfl) ?_
          refine lv_iload hx hb dX11_look_83 (lv_at hl 3 rfl) ?_
          have r16 := i_rng x4_23
          refine lv_icmp_ge (tgt := 95) hx hb dX11_look_85 (by decide) (fun c15 => ?_) (fun c15 => ?_)
          · have b15 : x4_23.toInt ≤ v14.toInt := i_le.mp c15
            obtain ⟨v17, ev17⟩ : ∃ y : Int32, y = x5_23 + (1) := ⟨_, rfl⟩
            have k_1 : (1 : Int32).toInt = 1 := by decide
            have f18 : v17.toInt = x5_23.toInt + (1) := by rw [ev17]; exact i_addc k_1 (by omega) (by omega)
            refine lv_iinc (v := v17) (lv' := [(5, .int v17), (7, .int v14), (6, .int (0 : Int32)), (4, .int x4_23), (3, .int x3_23), (2, .int v3), (0, .ref a0), (1, .int x1)]) hx hb dX11_look_95 hl (k := 2) rfl (by rw [ev17]; rfl) (by decide) rfl (fun ls hl => ?_)
            refine lv_goto (tgt := 23) hx hb dX11_look_98 (by decide) ?_
            exact ih23 v17 x4_23 x3_23 ls (by omega) (by omega) (lv_sub hl [0, 3, 4, 5, 6, 7] rfl)
          · have b15 : ¬ x4_23.toInt ≤ v14.toInt := fun z9 => c15 (i_le.mpr z9)
            refine lv_iload hx hb dX11_look_88 (lv_at hl 0 rfl) ?_
            refine lv_istore (lv' := [(4, .int v14), (7, .int v14), (6, .int (0 : Int32)), (5, .int x5_23), (3, .int x3_23), (2, .int v3), (0, .ref a0), (1, .int x1)]) hx hb dX11_look_90 hl (by decide) rfl (fun ls hl => ?_)
            refine lv_iload hx hb dX11_look_92 (lv_at hl 3 rfl) ?_
            refine lv_istore_n (lv' := [(3, .int x5_23), (4, .int v14), (7, .int v14), (6, .int (0 : Int32)), (5, .int x5_23), (2, .int v3), (0, .ref a0), (1, .int x1)]) hx hb dX11_look_94 rfl hl (by decide) rfl (fun ls hl => ?_)
            obtain ⟨v19, ev19⟩ : ∃ y : Int32, y = x5_23 + (1) := ⟨_, rfl⟩
            have k_1 : (1 : Int32).toInt = 1 := by decide
            have f20 : v19.toInt = x5_23.toInt + (1) := by rw [ev19]; exact i_addc k_1 (by omega) (by omega)
            refine lv_iinc (v := v19) (lv' := [(5, .int v19), (3, .int x5_23), (4, .int v14), (7, .int v14), (6, .int (0 : Int32)), (2, .int v3), (0, .ref a0), (1, .int x1)]) hx hb dX11_look_95 hl (k := 4) rfl (by rw [ev19]; rfl) (by decide) rfl (fun ls hl => ?_)
            refine lv_goto (tgt := 23) hx hb dX11_look_98 (by decide) ?_
            exact ih23 v19 v14 x5_23 ls (by omega) (by omega) (lv_sub hl [0, 2, 1, 5, 6, 7] rfl)
        · have b12 : (fI D H1 1 (eR H1 (fR D H1 5 (fR D H1 10 a0 1) 1) x5_23.toInt.toNat) 0).toInt = x1.toInt := i_eq.mp c12
          refine lv_aload_n hx hb dX11_look_52 rfl (lv_at hl 4 rfl) ?_
          refine q_gr (T := TX11) C S1.1 ga0 5 kF_X11_41 dX11_look_53 rfl rfl (by decide) rfl (by decide) rfl (fun g21 => ?_)
          refine lv_iload_n hx hb dX11_look_56 rfl (lv_at hl 5 rfl) ?_
          refine lv_iconst (v := 1) hx hb dX11_look_57 (by decide) ?_
          refine lv_iload hx hb dX11_look_58 (lv_at hl 0 rfl) ?_
          have k_1 : (1 : Int32).toInt = 1 := by decide
          refine lv_ishl hx hb dX11_look_60 ?_
          refine lv_topi (fun v22 ev22 => ?_)
          have f23 : 1 ≤ v22.toInt ∧ v22.toInt ≤ 2048 := by rw [ev22]; exact i_shl1 11 (by omega) (by omega) (by decide)
          refine callV_Pi C S1.1 S1.2.1.2.1 (c_X8_fittingWith l D G (fR D H1 10 a0 5) x1 v22 g21) kV_X11_280 g21 (trivial) dX11_look_61 hl.1 rfl rfl (by decide) cd_X8_fittingWith ⟨Nat.le_of_ble_eq_true rfl, Nat.le_of_ble_eq_true rfl, Nat.le_of_ble_eq_true rfl, Nat.le_of_ble_eq_true rfl, Nat.le_of_ble_eq_true rfl⟩ (fun v24 q24 => ?_)
          refine lv_goto (tgt := 68) hx hb dX11_look_64 (by decide) ?_
          refine lv_istore (lv' := [(6, .int v24), (5, .int x5_23), (4, .int x4_23), (3, .int x3_23), (2, .int v3), (0, .ref a0), (1, .int x1)]) hx hb dX11_look_68 hl (by decide) rfl (fun ls hl => ?_)
          refine lv_iload hx hb dX11_look_70 (lv_at hl 0 rfl) ?_
          refine lv_iload_n hx hb dX11_look_72 rfl (lv_at hl 4 rfl) ?_
          refine lv_iload hx hb dX11_look_73 (lv_at hl 0 rfl) ?_
          refine lv_isub hx hb dX11_look_75 ?_
          refine lv_topi (fun v25 ev25 => ?_)
          refine q_max C kN_X11_286 dX11_look_76 hl.1 ⟨Nat.le_of_ble_eq_true rfl, Nat.le_of_ble_eq_true rfl, Nat.le_of_ble_eq_true rfl, Nat.le_of_ble_eq_true rfl⟩ (fun v26 fv26 => ?_)
          refine lv_istore (lv' := [(7, .int v26), (6, .int v24), (5, .int x5_23), (4, .int x4_23), (3, .int x3_23), (2, .int v3), (0, .ref a0), (1, .int x1)]) hx hb dX11_look_79 hl (by decide) rfl (fun ls hl => ?_)
          refine lv_iload hx hb dX11_look_81 (lv_at hl 0 rfl) ?_
          refine lv_iload hx hb dX11_look_83 (lv_at hl 3 rfl) ?_
          refine lv_icmp_ge (tgt := 95) hx hb dX11_look_85 (by decide) (fun c27 => ?_) (fun c27 => ?_)
          · have b27 : x4_23.toInt ≤ v26.toInt := i_le.mp c27
            obtain ⟨v28, ev28⟩ : ∃ y : Int32, y = x5_23 + (1) := ⟨_, rfl⟩
            have f29 : v28.toInt = x5_23.toInt + (1) := by rw [ev28]; exact i_addc k_1 (by omega) (by omega)
            refine lv_iinc (v := v28) (lv' := [(5, .int v28), (7, .int v26), (6, .int v24), (4, .int x4_23), (3, .int x3_23), (2, .int v3), (0, .ref a0), (1, .int x1)]) hx hb dX11_look_95 hl (k := 2) rfl (by rw [ev28]; rfl) (by decide) rfl (fun ls hl => ?_)
            refine lv_goto (tgt := 23) hx hb dX11_look_98 (by decide) ?_
            exact ih23 v28 x4_23 x3_23 ls (by omega) (by omega) (lv_sub hl [0, 3, 4, 5, 6, 7] rfl)
          · have b27 : ¬ x4_23.toInt ≤ v26.toInt := fun z9 => c27 (i_le.mpr z9)
            refine lv_iload hx hb dX11_look_88 (lv_at hl 0 rfl) ?_
            refine lv_istore (lv' := [(4, .int v26), (7, .int v26), (6, .int v24), (5, .int x5_23), (3, .int x3_23), (2, .int v3), (0, .ref a0), (1, .int x1)]) hx hb dX11_look_90 hl (by decide) rfl (fun ls hl => ?_)
            refine lv_iload hx hb dX11_look_92 (lv_at hl 3 rfl) ?_
            refine lv_istore_n (lv' := [(3, .int x5_23), (4, .int v26), (7, .int v26), (6, .int v24), (5, .int x5_23), (2, .int v3), (0, .ref a0), (1, .int x1)]) hx hb dX11_look_94 rfl hl (by decide) rfl (fun ls hl => ?_)
            obtain ⟨v30, ev30⟩ : ∃ y : Int32, y = x5_23 + (1) := ⟨_, rfl⟩
            have f31 : v30.toInt = x5_23.toInt + (1) := by rw [ev30]; exact i_addc k_1 (by omega) (by omega)
            refine lv_iinc (v := v30) (lv' := [(5, .int v30), (3, .int x5_23), (4, .int v26), (7, .int v26), (6, .int v24), (2, .int v3), (0, .ref a0), (1, .int x1)]) hx hb dX11_look_95 hl (k := 4) rfl (by rw [ev30]; rfl) (by decide) rfl (fun ls hl => ?_)
            refine lv_goto (tgt := 23) hx hb dX11_look_98 (by decide) ?_
            exact ih23 v30 v26 x5_23 ls (by omega) (by omega) (lv_sub hl [0, 2, 1, 5, 6, 7] rfl)
  have k_m1 : (-1 : Int32).toInt = -1 := by decide
  exact Lp23 2147483648 (0 : Int32) v3 (-1 : Int32) ls (by omega)  (by omega) (lv_sub hl [0, 1, 2, 3, 4, 5] rfl)

set_option maxRecDepth 100000 in
set_option maxHeartbeats 4000000 in
theorem c_X11_count (l : Launch) (D : DD) (G : Nat → Nat) (a0 : Nat) (x1 : Int32) (ga0 : G a0 = 1) : CP l D G yX11_count cX11_count 2 (some .int) 1 [.ref a0, .int x1] (fun _ => True) (pI (fun H r => True)) := by
  refine enter (by decide) (Nat.le_of_ble_eq_true rfl) ?_
  intro p e s m args below meth c ls Q hA hQ C hr hO hpre hl
  have hx := C.1
  have hb := C.2.1
  have hl : lv_has ls 2 [(0, .ref a0), (1, .int x1)] := hl
  refine lv_iload_n hx hb dX11_count_0 rfl (lv_at hl 1 rfl) ?_
  by_cases w1 : x1.toInt = (0)
  · refine lv_tableIn (tgt := 76) (off := 75) hx hb dX11_count_1 (by omega) (by omega) (by rw [w1]; rfl) (by decide) ?_
    refine lv_aload_n hx hb dX11_count_76 rfl (lv_at hl 0 rfl) ?_
    refine q_gr (T := TX11) C hO ga0 1 kF_X11_19 dX11_count_77 rfl rfl (by decide) rfl (by decide) rfl (fun g2 => ?_)
    refine q_gi (T := TX5) C hO g2 3 kF_X11_247 dX11_count_80 rfl rfl (by decide) rfl (by decide) rfl ?_
    have r3 : 0 ≤ (fI D s.heap 5 (fR D s.heap 10 a0 1) 3).toInt ∧ (fI D s.heap 5 (fR D s.heap 10 a0 1) 3).toInt ≤ 6 := hO.rng g2 rfl (by decide) rfl
    exact retP_i hQ C hr dX11_count_83 (trivial)
  by_cases w4 : x1.toInt = (1)
  · refine lv_tableIn (tgt := 84) (off := 83) hx hb dX11_count_1 (by omega) (by omega) (by rw [w4]; rfl) (by decide) ?_
    refine lv_aload_n hx hb dX11_count_84 rfl (lv_at hl 0 rfl) ?_
    refine q_gr (T := TX11) C hO ga0 1 kF_X11_19 dX11_count_85 rfl rfl (by decide) rfl (by decide) rfl (fun g5 => ?_)
    refine q_gi (T := TX5) C hO g5 4 kF_X11_283 dX11_count_88 rfl rfl (by decide) rfl (by decide) rfl ?_
    have r6 : 0 ≤ (fI D s.heap 5 (fR D s.heap 10 a0 1) 4).toInt ∧ (fI D s.heap 5 (fR D s.heap 10 a0 1) 4).toInt ≤ 12 := hO.rng g5 rfl (by decide) rfl
    exact retP_i hQ C hr dX11_count_91 (trivial)
  by_cases w7 : x1.toInt = (2)
  · refine lv_tableIn (tgt := 92) (off := 91) hx hb dX11_count_1 (by omega) (by omega) (by rw [w7]; rfl) (by decide) ?_
    refine lv_aload_n hx hb dX11_count_92 rfl (lv_at hl 0 rfl) ?_
    refine q_gr (T := TX11) C hO ga0 1 kF_X11_19 dX11_count_93 rfl rfl (by decide) rfl (by decide) rfl (fun g8 => ?_)
    refine q_gi (T := TX5) C hO g8 5 kF_X11_95 dX11_count_96 rfl rfl (by decide) rfl (by decide) rfl ?_
    exact retP_i hQ C hr dX11_count_99 (trivial)
  by_cases w9 : x1.toInt = (3)
  · refine lv_tableIn (tgt := 100) (off := 99) hx hb dX11_count_1 (by omega) (by omega) (by rw [w9]; rfl) (by decide) ?_
    refine lv_aload_n hx hb dX11_count_100 rfl (lv_at hl 0 rfl) ?_
    refine q_gr (T := TX11) C hO ga0 1 kF_X11_19 dX11_count_101 rfl rfl (by decide) rfl (by decide) rfl (fun g10 => ?_)
    refine q_gn (T := TX5) C hO g10 13 kF_X11_116 dX11_count_104 rfl rfl (by decide) rfl (by decide) rfl (fun zg11 => ?_) (fun zg11 g11 => ?_)
    · skip
      refine lv_ifnonnullN hx hb dX11_count_107 ?_
      refine lv_iconst (v := -1) hx hb dX11_count_110 (by decide) ?_
      refine lv_goto (tgt := 124) hx hb dX11_count_111 (by decide) ?_
      have k_m1 : (-1 : Int32).toInt = -1 := by decide
      exact retP_i hQ C hr dX11_count_124 (trivial)
    · skip
      refine lv_ifnonnull (tgt := 114) hx hb dX11_count_107 (by decide) ?_
      refine lv_aload_n hx hb dX11_count_114 rfl (lv_at hl 0 rfl) ?_
      refine q_gr (T := TX11) C hO ga0 1 kF_X11_19 dX11_count_115 rfl rfl (by decide) rfl (by decide) rfl (fun g12 => ?_)
      refine q_gn (T := TX5) C hO g12 13 kF_X11_116 dX11_count_118 rfl rfl (by decide) rfl (by decide) rfl (fun zg13 => ?_) (fun zg13 g13 => ?_)
      · exact absurd (zg13.symm.trans zg11) (by simp)
      · skip
        refine q_gi (T := TX3) C hO g13 0 kF_X11_120 dX11_count_121 rfl rfl (by decide) rfl (by decide) rfl ?_
        exact retP_i hQ C hr dX11_count_124 (trivial)
  by_cases w14 : x1.toInt = (4)
  · refine lv_tableIn (tgt := 125) (off := 124) hx hb dX11_count_1 (by omega) (by omega) (by rw [w14]; rfl) (by decide) ?_
    refine lv_aload_n hx hb dX11_count_125 rfl (lv_at hl 0 rfl) ?_
    refine q_gr (T := TX11) C hO ga0 1 kF_X11_19 dX11_count_126 rfl rfl (by decide) rfl (by decide) rfl (fun g15 => ?_)
    refine q_gi (T := TX5) C hO g15 10 kF_X11_338 dX11_count_129 rfl rfl (by decide) rfl (by decide) rfl ?_
    exact retP_i hQ C hr dX11_count_132 (trivial)
  by_cases w16 : x1.toInt = (5)
  · refine lv_tableIn (tgt := 133) (off := 132) hx hb dX11_count_1 (by omega) (by omega) (by rw [w16]; rfl) (by decide) ?_
    refine lv_aload_n hx hb dX11_count_133 rfl (lv_at hl 0 rfl) ?_
    refine q_gr (T := TX11) C hO ga0 1 kF_X11_19 dX11_count_134 rfl rfl (by decide) rfl (by decide) rfl (fun g17 => ?_)
    refine q_gi (T := TX5) C hO g17 6 kF_X11_232 dX11_count_137 rfl rfl (by decide) rfl (by decide) rfl ?_
    exact retP_i hQ C hr dX11_count_140 (trivial)
  by_cases w18 : x1.toInt = (6)
  · refine lv_tableIn (tgt := 141) (off := 140) hx hb dX11_count_1 (by omega) (by omega) (by rw [w18]; rfl) (by decide) ?_
    refine lv_aload_n hx hb dX11_count_141 rfl (lv_at hl 0 rfl) ?_
    refine q_gr (T := TX11) C hO ga0 1 kF_X11_19 dX11_count_142 rfl rfl (by decide) rfl (by decide) rfl (fun g19 => ?_)
    refine q_gi (T := TX5) C hO g19 7 kF_X11_292 dX11_count_145 rfl rfl (by decide) rfl (by decide) rfl ?_
    exact retP_i hQ C hr dX11_count_148 (trivial)
  by_cases w20 : x1.toInt = (7)
  · refine lv_tableIn (tgt := 149) (off := 148) hx hb dX11_count_1 (by omega) (by omega) (by rw [w20]; rfl) (by decide) ?_
    refine lv_aload_n hx hb dX11_count_149 rfl (lv_at hl 0 rfl) ?_
    refine q_gr (T := TX11) C hO ga0 1 kF_X11_19 dX11_count_150 rfl rfl (by decide) rfl (by decide) rfl (fun g21 => ?_)
    refine q_gi (T := TX5) C hO g21 8 kF_X11_289 dX11_count_153 rfl rfl (by decide) rfl (by decide) rfl ?_
    exact retP_i hQ C hr dX11_count_156 (trivial)
  by_cases w22 : x1.toInt = (8)
  · refine lv_tableIn (tgt := 157) (off := 156) hx hb dX11_count_1 (by omega) (by omega) (by rw [w22]; rfl) (by decide) ?_
    refine lv_aload_n hx hb dX11_count_157 rfl (lv_at hl 0 rfl) ?_
    refine q_gr (T := TX11) C hO ga0 1 kF_X11_19 dX11_count_158 rfl rfl (by decide) rfl (by decide) rfl (fun g23 => ?_)
    refine q_gi (T := TX5) C hO g23 9 kF_X11_218 dX11_count_161 rfl rfl (by decide) rfl (by decide) rfl ?_
    exact retP_i hQ C hr dX11_count_164 (trivial)
  by_cases w24 : x1.toInt = (9)
  · refine lv_tableIn (tgt := 165) (off := 164) hx hb dX11_count_1 (by omega) (by omega) (by rw [w24]; rfl) (by decide) ?_
    refine lv_aload_n hx hb dX11_count_165 rfl (lv_at hl 0 rfl) ?_
    refine q_gr (T := TX11) C hO ga0 1 kF_X11_19 dX11_count_166 rfl rfl (by decide) rfl (by decide) rfl (fun g25 => ?_)
    refine q_gi (T := TX5) C hO g25 11 kF_X11_301 dX11_count_169 rfl rfl (by decide) rfl (by decide) rfl ?_
    exact retP_i hQ C hr dX11_count_172 (trivial)
  by_cases w26 : x1.toInt = (10)
  · refine lv_tableIn (tgt := 173) (off := 172) hx hb dX11_count_1 (by omega) (by omega) (by rw [w26]; rfl) (by decide) ?_
    refine lv_aload_n hx hb dX11_count_173 rfl (lv_at hl 0 rfl) ?_
    refine q_gr (T := TX11) C hO ga0 1 kF_X11_19 dX11_count_174 rfl rfl (by decide) rfl (by decide) rfl (fun g27 => ?_)
    refine lv_iconst (v := 0) hx hb dX11_count_177 (by decide) ?_
    have k_0 : (0 : Int32).toInt = 0 := by decide
    refine callV_Pi C hO (fun _ _ _ => rfl) (c_X5_bitsIn l D G (fR D s.heap 10 a0 1) (0 : Int32) g27) kV_X11_304 g27 (trivial) dX11_count_178 hl.1 rfl rfl (by decide) cd_X5_bitsIn ⟨Nat.le_of_ble_eq_true rfl, Nat.le_of_ble_eq_true rfl, Nat.le_of_ble_eq_true rfl, Nat.le_of_ble_eq_true rfl, Nat.le_of_ble_eq_true rfl⟩ (fun v28 q28 => ?_)
    exact retP_i hQ C hr dX11_count_181 (trivial)
  by_cases w29 : x1.toInt = (11)
  · refine lv_tableIn (tgt := 182) (off := 181) hx hb dX11_count_1 (by omega) (by omega) (by rw [w29]; rfl) (by decide) ?_
    refine lv_aload_n hx hb dX11_count_182 rfl (lv_at hl 0 rfl) ?_
    refine q_gr (T := TX11) C hO ga0 1 kF_X11_19 dX11_count_183 rfl rfl (by decide) rfl (by decide) rfl (fun g30 => ?_)
    refine lv_iconst (v := 1) hx hb dX11_count_186 (by decide) ?_
    have k_1 : (1 : Int32).toInt = 1 := by decide
    refine callV_Pi C hO (fun _ _ _ => rfl) (c_X5_bitsIn l D G (fR D s.heap 10 a0 1) (1 : Int32) g30) kV_X11_304 g30 (trivial) dX11_count_187 hl.1 rfl rfl (by decide) cd_X5_bitsIn ⟨Nat.le_of_ble_eq_true rfl, Nat.le_of_ble_eq_true rfl, Nat.le_of_ble_eq_true rfl, Nat.le_of_ble_eq_true rfl, Nat.le_of_ble_eq_true rfl⟩ (fun v31 q31 => ?_)
    exact retP_i hQ C hr dX11_count_190 (trivial)
  by_cases w32 : x1.toInt = (12)
  · refine lv_tableIn (tgt := 191) (off := 190) hx hb dX11_count_1 (by omega) (by omega) (by rw [w32]; rfl) (by decide) ?_
    refine lv_aload_n hx hb dX11_count_191 rfl (lv_at hl 0 rfl) ?_
    refine q_gr (T := TX11) C hO ga0 1 kF_X11_19 dX11_count_192 rfl rfl (by decide) rfl (by decide) rfl (fun g33 => ?_)
    refine callV_Pi C hO (fun _ _ _ => rfl) (c_X5_purses l D G (fR D s.heap 10 a0 1) g33) kV_X11_341 g33 (trivial) dX11_count_195 hl.1 rfl rfl (by decide) cd_X5_purses ⟨Nat.le_of_ble_eq_true rfl, Nat.le_of_ble_eq_true rfl, Nat.le_of_ble_eq_true rfl, Nat.le_of_ble_eq_true rfl, Nat.le_of_ble_eq_true rfl⟩ (fun v34 q34 => ?_)
    exact retP_i hQ C hr dX11_count_198 (trivial)
  by_cases w35 : x1.toInt = (13)
  · refine lv_tableIn (tgt := 199) (off := 198) hx hb dX11_count_1 (by omega) (by omega) (by rw [w35]; rfl) (by decide) ?_
    refine lv_aload_n hx hb dX11_count_199 rfl (lv_at hl 0 rfl) ?_
    refine q_gr (T := TX11) C hO ga0 1 kF_X11_19 dX11_count_200 rfl rfl (by decide) rfl (by decide) rfl (fun g36 => ?_)
    refine q_gr (T := TX5) C hO g36 2 kF_X11_317 dX11_count_203 rfl rfl (by decide) rfl (by decide) rfl (fun g37 => ?_)
    refine q_gi (T := TX0) C hO g37 2 kF_X11_345 dX11_count_206 rfl rfl (by decide) rfl (by decide) rfl ?_
    have r38 : 0 ≤ (fI D s.heap 0 (fR D s.heap 5 (fR D s.heap 10 a0 1) 2) 2).toInt ∧ (fI D s.heap 0 (fR D s.heap 5 (fR D s.heap 10 a0 1) 2) 2).toInt ≤ 60 := hO.rng g37 rfl (by decide) rfl
    exact retP_i hQ C hr dX11_count_209 (trivial)
  by_cases w39 : x1.toInt = (14)
  · refine lv_tableIn (tgt := 210) (off := 209) hx hb dX11_count_1 (by omega) (by omega) (by rw [w39]; rfl) (by decide) ?_
    refine lv_aload_n hx hb dX11_count_210 rfl (lv_at hl 0 rfl) ?_
    refine q_gr (T := TX11) C hO ga0 4 kF_X11_32 dX11_count_211 rfl rfl (by decide) rfl (by decide) rfl (fun g40 => ?_)
    refine q_gi (T := TX7) C hO g40 2 kF_X11_348 dX11_count_214 rfl rfl (by decide) rfl (by decide) rfl ?_
    have r41 : 0 ≤ (fI D s.heap 7 (fR D s.heap 10 a0 4) 2).toInt ∧ (fI D s.heap 7 (fR D s.heap 10 a0 4) 2).toInt ≤ 12 := hO.rng g40 rfl (by decide) rfl
    exact retP_i hQ C hr dX11_count_217 (trivial)
  refine lv_tableOut (tgt := 218) hx hb dX11_count_1 (by omega) (by decide) ?_
  refine lv_iconst (v := -1) hx hb dX11_count_218 (by decide) ?_
  have k_m1 : (-1 : Int32).toInt = -1 := by decide
  exact retP_i hQ C hr dX11_count_219 (trivial)

set_option maxRecDepth 100000 in
set_option maxHeartbeats 4000000 in
theorem c_X11_image (l : Launch) (D : DD) (G : Nat → Nat) (a0 : Nat) (ga0 : G a0 = 1) : CE l D G yX11_image cX11_image 1 none 2 [.ref a0] (fun _ => True) [(7, 0), (7, 1), (7, 2), (7, 3), (7, 4), (8, 0), (8, 1), (8, 2), (8, 3), (8, 4), (8, 5), (11, 0), (9, 1), (9, 2), (4, 3), (4, 4), (4, 5), (4, 6), (4, 7), (4, 8), (4, 9), (4, 10), (4, 11), (4, 12), (4, 13), (1, 8)] (xV (fun H H1 => ((fI D H1 10 a0 8).toInt = 1) ∧ (∀ Vv Kv : Sg, CI D H a0 Vv Kv → CJ D H1 a0 Vv Kv))) := by
  refine enter (by decide) (Nat.le_of_ble_eq_true rfl) ?_
  intro p e s m args below meth c ls Q hA hQ C hr hO hpre hl
  have hx := C.1
  have hb := C.2.1
  have S : Sd D G [(7, 0), (7, 1), (7, 2), (7, 3), (7, 4), (8, 0), (8, 1), (8, 2), (8, 3), (8, 4), (8, 5), (11, 0), (9, 1), (9, 2), (4, 3), (4, 4), (4, 5), (4, 6), (4, 7), (4, 8), (4, 9), (4, 10), (4, 11), (4, 12), (4, 13), (1, 8)] s.heap s.heap [] := Sd.start hO
  have hl : lv_has ls 1 [(0, .ref a0)] := hl
  have rk0 : ∀ Vv Kv : Sg, CI D s.heap a0 Vv Kv → CI D s.heap a0 Vv Kv := fun Vv Kv hv => hv
  refine lv_aload_n hx hb dX11_image_0 rfl (lv_at hl 0 rfl) ?_
  refine q_gr (T := TX11) C S.1 ga0 3 kF_X11_26 dX11_image_1 rfl rfl (by decide) rfl (by decide) rfl (fun g1 => ?_)
  refine lv_aload_n hx hb dX11_image_4 rfl (lv_at hl 0 rfl) ?_
  refine q_gr (T := TX11) C S.1 ga0 1 kF_X11_19 dX11_image_5 rfl rfl (by decide) rfl (by decide) rfl (fun g2 => ?_)
  refine callV_Ev C S (c_X5_become l D G (fR D s.heap 10 a0 3) (fR D s.heap 10 a0 1) g1 g2) kV_X11_78 g1 (trivial) (by decide +kernel) dX11_image_8 hl.1 rfl rfl (by decide) cd_X5_become ⟨Nat.le_of_ble_eq_true rfl, Nat.le_of_ble_eq_true rfl, Nat.le_of_ble_eq_true rfl, Nat.le_of_ble_eq_true rfl, Nat.le_of_ble_eq_true rfl⟩ (fun H3 L3 S3 K3 q3 => ?_)
  have rk3 : ∀ Vv Kv : Sg, CI D s.heap a0 Vv Kv → CL D H3 a0 Vv Kv := fun Vv Kv hv => (rk0 Vv Kv hv).img S.1 ga0 K3 q3
  refine lv_aload_n hx hb dX11_image_11 rfl (lv_at hl 0 rfl) ?_
  refine lv_iconst (v := 1) hx hb dX11_image_12 (by decide) ?_
  have k_1 : (1 : Int32).toInt = 1 := by decide
  refine q_put (T := TX11) C S3 ga0 8 kF_X11_63 dX11_image_13 rfl rfl (by decide) (by decide) rfl rfl rfl (nar_z (by omega) (by omega)) (fit_z (by omega) (by omega)) (vok_i rfl (by omega) (by omega)) (by decide +kernel) (fun H4 L4 S4 P4 => ?_)
  have rk4 : ∀ Vv Kv : Sg, CI D s.heap a0 Vv Kv → CJ D H4 a0 Vv Kv := fun Vv Kv hv => (rk3 Vv Kv hv).set S3.1 ga0 (Pt.keep ga0 rfl (by decide) P4)
  exact retE_v hQ C S4 hr dX11_image_16 (⟨by rw [Pt.i P4]; decide, rk4⟩)

set_option maxRecDepth 100000 in
set_option maxHeartbeats 4000000 in
theorem c_X11_back (l : Launch) (D : DD) (G : Nat → Nat) (a0 : Nat) (ga0 : G a0 = 1) : CE l D G yX11_back cX11_back 1 (some .boolean) 2 [.ref a0] (fun _ => True) [(7, 0), (7, 1), (7, 2), (7, 3), (7, 4), (8, 0), (8, 1), (8, 2), (8, 3), (8, 4), (8, 5), (11, 0), (9, 1), (9, 2), (4, 3), (4, 4), (4, 5), (4, 6), (4, 7), (4, 8), (4, 9), (4, 10), (4, 11), (4, 12), (4, 13), (16, 2)] (xI (fun H r H1 => (r.toInt = (fI D H 10 a0 8).toInt) ∧ (∀ Vv Kv : Sg, CI D H a0 Vv Kv → CB D H1 a0 Vv Kv))) := by
  refine enter (by decide) (Nat.le_of_ble_eq_true rfl) ?_
  intro p e s m args below meth c ls Q hA hQ C hr hO hpre hl
  have hx := C.1
  have hb := C.2.1
  have S : Sd D G [(7, 0), (7, 1), (7, 2), (7, 3), (7, 4), (8, 0), (8, 1), (8, 2), (8, 3), (8, 4), (8, 5), (11, 0), (9, 1), (9, 2), (4, 3), (4, 4), (4, 5), (4, 6), (4, 7), (4, 8), (4, 9), (4, 10), (4, 11), (4, 12), (4, 13), (16, 2)] s.heap s.heap [] := Sd.start hO
  have hl : lv_has ls 1 [(0, .ref a0)] := hl
  have rk0 : ∀ Vv Kv : Sg, CI D s.heap a0 Vv Kv → CI D s.heap a0 Vv Kv := fun Vv Kv hv => hv
  refine lv_aload_n hx hb dX11_back_0 rfl (lv_at hl 0 rfl) ?_
  refine q_gi (T := TX11) C S.1 ga0 8 kF_X11_63 dX11_back_1 rfl rfl (by decide) rfl (by decide) rfl ?_
  have r1 : 0 ≤ (fI D s.heap 10 a0 8).toInt ∧ (fI D s.heap 10 a0 8).toInt ≤ 1 := S.1.rng ga0 rfl (by decide) rfl
  have k_0 : (0 : Int32).toInt = 0 := by decide
  refine lv_if_ne (tgt := 9) hx hb dX11_back_4 (by decide) (fun c2 => ?_) (fun c2 => ?_)
  · have b2 : ¬ (fI D s.heap 10 a0 8).toInt = (0 : Int32).toInt := fun z9 => c2 (i_eq.mpr z9)
    refine lv_aload_n hx hb dX11_back_9 rfl (lv_at hl 0 rfl) ?_
    refine q_gr (T := TX11) C S.1 ga0 1 kF_X11_19 dX11_back_10 rfl rfl (by decide) rfl (by decide) rfl (fun g3 => ?_)
    refine lv_aload_n hx hb dX11_back_13 rfl (lv_at hl 0 rfl) ?_
    refine q_gr (T := TX11) C S.1 ga0 3 kF_X11_26 dX11_back_14 rfl rfl (by decide) rfl (by decide) rfl (fun g4 => ?_)
    refine callV_Ev C S (c_X5_become l D G (fR D s.heap 10 a0 1) (fR D s.heap 10 a0 3) g3 g4) kV_X11_78 g3 (trivial) (by decide +kernel) dX11_back_17 hl.1 rfl rfl (by decide) cd_X5_become ⟨Nat.le_of_ble_eq_true rfl, Nat.le_of_ble_eq_true rfl, Nat.le_of_ble_eq_true rfl, Nat.le_of_ble_eq_true rfl, Nat.le_of_ble_eq_true rfl⟩ (fun H5 L5 S5 K5 q5 => ?_)
    have rk5 : ∀ Vv Kv : Sg, CI D s.heap a0 Vv Kv → CM D H5 a0 Vv Kv := fun Vv Kv hv => (rk0 Vv Kv hv).bk S.1 ga0 K5 (by omega) q5
    refine lv_aload_n hx hb dX11_back_20 rfl (lv_at hl 0 rfl) ?_
    refine q_gr (T := TX11) C S5.1 ga0 4 kF_X11_32 dX11_back_21 rfl rfl (by decide) rfl (by decide) rfl (fun g6 => ?_)
    refine callV_Ev C S5 (c_X7_forget l D G (fR D H5 10 a0 4) g6) kV_X11_103 g6 (trivial) (by decide +kernel) dX11_back_24 hl.1 rfl rfl (by decide) cd_X7_forget ⟨Nat.le_of_ble_eq_true rfl, Nat.le_of_ble_eq_true rfl, Nat.le_of_ble_eq_true rfl, Nat.le_of_ble_eq_true rfl, Nat.le_of_ble_eq_true rfl⟩ (fun H7 L7 S7 K7 q7 => ?_)
    have rk7 : ∀ Vv Kv : Sg, CI D s.heap a0 Vv Kv → CB D H7 a0 Vv Kv := fun Vv Kv hv => (rk5 Vv Kv hv).forget S5.1 ga0 K7 q7
    refine lv_iconst (v := 1) hx hb dX11_back_27 (by decide) ?_
    have k_1 : (1 : Int32).toInt = 1 := by decide
    exact retE_z hQ C S7 hr dX11_back_28 (z01 (by omega) (by omega)) (⟨by omega, rk7⟩)
  · have b2 : (fI D s.heap 10 a0 8).toInt = (0 : Int32).toInt := i_eq.mp c2
    refine lv_iconst (v := 0) hx hb dX11_back_7 (by decide) ?_
    exact retE_z hQ C S hr dX11_back_8 (z01 (by omega) (by omega)) (⟨by omega, fun Vv Kv hv => (rk0 Vv Kv hv).img0 (by omega)⟩)
