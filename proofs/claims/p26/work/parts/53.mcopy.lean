set_option maxRecDepth 100000 in
set_option maxHeartbeats 4000000 in
theorem c_X12_image (l : Launch) (D : DD) (G : Nat → Nat) (a0 : Nat) (ga0 : G a0 = 30) : CE l D G yX12_image cX12_image 2 none 0 [.ref a0] (fun _ => True) [(30, 0), (30, 6), (32, 0)] (xV (fun H H1 => ((fI D H1 11 a0 6).toInt = 1) ∧ (∀ Vv Kv : Sg, MI D H a0 Vv Kv → MJ D H1 a0 Vv Kv))) := by
  refine enter (by decide) (Nat.le_of_ble_eq_true rfl) ?_
  intro p e s m args below meth c ls Q hA hQ C hr hO hpre hl
  have hx := C.1
  have hb := C.2.1
  have S : Sd D G [(30, 0), (30, 6), (32, 0)] s.heap s.heap [] := Sd.start hO
  have hl : lv_has ls 2 [(0, .ref a0)] := hl
  have g2h : G (fR D s.heap 11 a0 2) = 32 := hO.rol ga0 rfl (by decide) rfl
  refine lv_aload_n hx hb dX12_image_0 rfl (lv_at hl 0 rfl) ?_
  refine lv_iconst (v := 0) hx hb dX12_image_1 (by decide) ?_
  have k_0 : (0 : Int32).toInt = 0 := by decide
  refine q_put (T := TX12) C S ga0 0 kF_X12_3 dX12_image_2 rfl rfl (by decide) (by decide) rfl rfl rfl rfl rfl (vok_a rfl) (by decide +kernel) (fun H1 L1 S1 P1 => ?_)
  refine lv_iconst (v := 0) hx hb dX12_image_5 (by decide) ?_
  refine lv_istore_n (lv' := [(1, .int (0 : Int32)), (0, .ref a0)]) hx hb dX12_image_6 rfl hl (by decide) rfl (fun ls hl => ?_)
  have gd_7 : G (fR D H1 11 a0 2) = 32 := S1.1.rol ga0 rfl (by decide) rfl
  obtain ⟨fd_7, d1_7, d2_7, d3_7, d4_7⟩ := S1.1.ia gd_7 rfl
  rw [len_32 S1.1 gd_7] at d1_7 d2_7 d3_7 d4_7
  have gs_7 : G (fR D H1 11 a0 1) = 31 := S1.1.rol ga0 rfl (by decide) rfl
  obtain ⟨fs_7, s1_7, s2_7, s3_7, s4_7⟩ := S1.1.ia gs_7 rfl
  rw [len_31 S1.1 gs_7] at s1_7 s2_7 s3_7 s4_7
  have Lp7 : ∀ (n : Nat) (x1_7 : Int32) (H_7 : Heap) (L_7 : List Loc) (ls : Array Slot), (Cp D G H1 H_7 L_7 (fR D H1 11 a0 2) 1203 fd_7 fs_7 0 0 x1_7.toInt.toNat) → (0 ≤ x1_7.toInt ∧ x1_7.toInt ≤ 1203) → 1204 - x1_7.toInt ≤ (n : Int) → lv_has ls 2 [(1, .int x1_7), (0, .ref a0)] → W p l e (rmU 0 0 0) s m args below meth c H_7 L_7 0 0 Q (F0 m 7 ls []) := by
    intro n
    induction n with
    | zero =>
      intro x1_7 H_7 L_7 ls cp_7 j7 hn hl
      exact absurd hn (by omega)
    | succ n ih7 =>
      intro x1_7 H_7 L_7 ls cp_7 j7 hn hl
      refine lv_iload_n hx hb dX12_image_7 rfl (lv_at hl 0 rfl) ?_
      refine lv_sipush (v := 1203) hx hb dX12_image_8 (by decide) ?_
      have k_1203 : (1203 : Int32).toInt = 1203 := by decide
      refine lv_icmp_ge (tgt := 32) hx hb dX12_image_11 (by decide) (fun c2 => ?_) (fun c2 => ?_)
      · have b2 : (1203 : Int32).toInt ≤ x1_7.toInt := i_le.mp c2
        have ck3 : x1_7.toInt.toNat = 1203 := by omega
        rw [ck3] at cp_7
        have S3 : Sd D G [(30, 0), (30, 6), (32, 0)] s.heap H_7 L_7 := Cp.done S1 cp_7 gd_7 rfl (by decide) (by decide +kernel) (by decide) (⟨rfl, mix_low s3_7.2⟩)
        have hcp : ∀ j : Nat, j < 354 → eI H_7 (fR D s.heap 11 a0 2) j = eI s.heap (fR D s.heap 11 a0 1) j := fun j hj => by rw [← S1.2.1.fR (k := 2) ga0 rfl (by decide) (by decide +kernel), Cp.e cp_7 (by omega), mx0 (by omega), ← s4_7 _ (by omega)]; exact eK hO ga0 S1.2.1 (by decide +kernel) (by decide +kernel) _
        refine lv_aload_n hx hb dX12_image_32 rfl (lv_at hl 1 rfl) ?_
        refine lv_iconst (v := 1) hx hb dX12_image_33 (by decide) ?_
        have k_1 : (1 : Int32).toInt = 1 := by decide
        refine q_put (T := TX12) C S3 ga0 6 kF_X12_42 dX12_image_34 rfl rfl (by decide) (by decide) rfl rfl rfl (nar_z (by omega) (by omega)) (fit_z (by omega) (by omega)) (vok_i rfl (by omega) (by omega)) (by decide +kernel) (fun H4 L4 S4 P4 => ?_)
        exact retE_v hQ C S4 hr dX12_image_37 (⟨by rw [Pt.i P4]; decide, fun Vv Kv hv => MI.img hv hO ga0 S4.2.1 (fun j hj => (congrArg vI (eV_of (P4.2.2.1 _ (ne_role g2h ga0 (by decide))) _)).trans (hcp j hj))⟩)
      · have b2 : ¬ (1203 : Int32).toInt ≤ x1_7.toInt := fun z9 => c2 (i_le.mpr z9)
        refine lv_aload_n hx hb dX12_image_14 rfl (lv_at hl 1 rfl) ?_
        refine q_grB (T := TX12) C S1.1 (cp_7.2.1 a0 (ne_role ga0 gd_7 (by decide))) ga0 2 kF_X12_17 dX12_image_15 rfl rfl (by decide) rfl (by decide) rfl ?_
        refine lv_iload_n hx hb dX12_image_18 rfl (lv_at hl 0 rfl) ?_
        refine lv_aload_n hx hb dX12_image_19 rfl (lv_at hl 1 rfl) ?_
        refine q_grB (T := TX12) C S1.1 (cp_7.2.1 a0 (ne_role ga0 gd_7 (by decide))) ga0 1 kF_X12_13 dX12_image_20 rfl rfl (by decide) rfl (by decide) rfl ?_
        refine lv_iload_n hx hb dX12_image_23 rfl (lv_at hl 0 rfl) ?_
        refine q_iaB C ((cp_7.2.1 (fR D H1 11 a0 1) (ne_role gs_7 gd_7 (by decide))).trans s1_7) (v := fs_7 x1_7.toInt.toNat) (by omega) (by omega) (rfl) dX12_image_24 ?_
        refine q_isB C cp_7.1 (by omega) (by omega) dX12_image_25 (fun H6 e16 e26 e36 => ?_)
        have cq6 := Cp.step cp_7 e16 e26 e36 (by omega) (by exact congrArg fs_7 (by omega)) (by rw [gd_7]; decide)
        obtain ⟨v7, ev7⟩ : ∃ y : Int32, y = x1_7 + (1) := ⟨_, rfl⟩
        have k_1 : (1 : Int32).toInt = 1 := by decide
        have f8 : v7.toInt = x1_7.toInt + (1) := by rw [ev7]; exact i_addc k_1 (by omega) (by omega)
        refine lv_iinc (v := v7) (lv' := [(1, .int v7), (0, .ref a0)]) hx hb dX12_image_26 hl (k := 0) rfl (by rw [ev7]; rfl) (by decide) rfl (fun ls hl => ?_)
        refine lv_goto (tgt := 7) hx hb dX12_image_29 (by decide) ?_
        exact ih7 v7 H6 _ ls (by rw [show v7.toInt.toNat = x1_7.toInt.toNat + 1 by omega]; exact cq6) ⟨by omega, by omega⟩ (by omega) (lv_sub hl [0, 1] rfl)
  exact Lp7 1204 (0 : Int32) H1 L1 ls (Cp.start S1 d1_7) ⟨by omega, by omega⟩ (by omega) (lv_sub hl [0, 1] rfl)

set_option maxRecDepth 100000 in
set_option maxHeartbeats 4000000 in
theorem c_X12_back (l : Launch) (D : DD) (G : Nat → Nat) (a0 : Nat) (ga0 : G a0 = 30) : CE l D G yX12_back cX12_back 2 (some .boolean) 0 [.ref a0] (fun _ => True) [(30, 0), (30, 7), (31, 0), (31, 1)] (xI (fun H r H1 => (r.toInt = (fI D H 11 a0 6).toInt) ∧ (∀ Vv Kv : Sg, MI D H a0 Vv Kv → MB D H1 a0 Vv Kv))) := by
  refine enter (by decide) (Nat.le_of_ble_eq_true rfl) ?_
  intro p e s m args below meth c ls Q hA hQ C hr hO hpre hl
  have hx := C.1
  have hb := C.2.1
  have S : Sd D G [(30, 0), (30, 7), (31, 0), (31, 1)] s.heap s.heap [] := Sd.start hO
  have hl : lv_has ls 2 [(0, .ref a0)] := hl
  have g1h : G (fR D s.heap 11 a0 1) = 31 := hO.rol ga0 rfl (by decide) rfl
  have rk0 : ∀ Vv Kv : Sg, MI D s.heap a0 Vv Kv → MI D s.heap a0 Vv Kv := fun Vv Kv hv => hv
  refine lv_aload_n hx hb dX12_back_0 rfl (lv_at hl 0 rfl) ?_
  refine lv_iconst (v := 0) hx hb dX12_back_1 (by decide) ?_
  have k_0 : (0 : Int32).toInt = 0 := by decide
  refine q_put (T := TX12) C S ga0 0 kF_X12_3 dX12_back_2 rfl rfl (by decide) (by decide) rfl rfl rfl rfl rfl (vok_a rfl) (by decide +kernel) (fun H1 L1 S1 P1 => ?_)
  have y1_6 : (fI D H1 11 a0 6).toInt = (fI D s.heap 11 a0 6).toInt := congrArg Int32.toInt (Pt.o P1 (by decide) (by decide))
  have rk1 : ∀ Vv Kv : Sg, MI D s.heap a0 Vv Kv → MI D H1 a0 Vv Kv := fun Vv Kv hv => (rk0 Vv Kv hv).keep S.1 ga0 (Pt.keep ga0 rfl (by decide) P1) (by decide)
  refine lv_aload_n hx hb dX12_back_5 rfl (lv_at hl 0 rfl) ?_
  refine q_gi (T := TX12) C S1.1 ga0 6 kF_X12_42 dX12_back_6 rfl rfl (by decide) rfl (by decide) rfl ?_
  have r2 : 0 ≤ (fI D H1 11 a0 6).toInt ∧ (fI D H1 11 a0 6).toInt ≤ 1 := S1.1.rng ga0 rfl (by decide) rfl
  refine lv_if_ne (tgt := 14) hx hb dX12_back_9 (by decide) (fun c3 => ?_) (fun c3 => ?_)
  · have b3 : ¬ (fI D H1 11 a0 6).toInt = (0 : Int32).toInt := fun z9 => c3 (i_eq.mpr z9)
    refine lv_iconst (v := 0) hx hb dX12_back_14 (by decide) ?_
    refine lv_istore_n (lv' := [(1, .int (0 : Int32)), (0, .ref a0)]) hx hb dX12_back_15 rfl hl (by decide) rfl (fun ls hl => ?_)
    have gd_16 : G (fR D H1 11 a0 1) = 31 := S1.1.rol ga0 rfl (by decide) rfl
    obtain ⟨fd_16, d1_16, d2_16, d3_16, d4_16⟩ := S1.1.ia gd_16 rfl
    rw [len_31 S1.1 gd_16] at d1_16 d2_16 d3_16 d4_16
    have gs_16 : G (fR D H1 11 a0 2) = 32 := S1.1.rol ga0 rfl (by decide) rfl
    obtain ⟨fs_16, s1_16, s2_16, s3_16, s4_16⟩ := S1.1.ia gs_16 rfl
    rw [len_32 S1.1 gs_16] at s1_16 s2_16 s3_16 s4_16
    have Lp16 : ∀ (n : Nat) (x1_16 : Int32) (H_16 : Heap) (L_16 : List Loc) (ls : Array Slot), (Cp D G H1 H_16 L_16 (fR D H1 11 a0 1) 2052 fd_16 fs_16 0 0 x1_16.toInt.toNat) → (0 ≤ x1_16.toInt ∧ x1_16.toInt ≤ 1203) → 1204 - x1_16.toInt ≤ (n : Int) → lv_has ls 2 [(1, .int x1_16), (0, .ref a0)] → W p l e (rmU 0 0 0) s m args below meth c H_16 L_16 0 0 Q (F0 m 16 ls []) := by
      intro n
      induction n with
      | zero =>
        intro x1_16 H_16 L_16 ls cp_16 j16 hn hl
        exact absurd hn (by omega)
      | succ n ih16 =>
        intro x1_16 H_16 L_16 ls cp_16 j16 hn hl
        refine lv_iload_n hx hb dX12_back_16 rfl (lv_at hl 0 rfl) ?_
        refine lv_sipush (v := 1203) hx hb dX12_back_17 (by decide) ?_
        have k_1203 : (1203 : Int32).toInt = 1203 := by decide
        refine lv_icmp_ge (tgt := 41) hx hb dX12_back_20 (by decide) (fun c4 => ?_) (fun c4 => ?_)
        · have b4 : (1203 : Int32).toInt ≤ x1_16.toInt := i_le.mp c4
          have ck5 : x1_16.toInt.toNat = 1203 := by omega
          rw [ck5] at cp_16
          have S5 : Sd D G [(30, 0), (30, 7), (31, 0), (31, 1)] s.heap H_16 L_16 := Cp.done S1 cp_16 gd_16 rfl (by decide) (by decide +kernel) (by decide) (⟨rfl, mix_low s3_16.2⟩)
          have y5_6 : (fI D H_16 11 a0 6).toInt = (fI D H1 11 a0 6).toInt := congrArg Int32.toInt (congrArg vI (fV_of (cp_16.2.1 a0 (ne_role ga0 gd_16 (by decide))) 11 6))
          have hcp : ∀ j : Nat, j < 354 → eI H_16 (fR D s.heap 11 a0 1) j = eI s.heap (fR D s.heap 11 a0 2) j := fun j hj => by rw [← S1.2.1.fR (k := 1) ga0 rfl (by decide) (by decide +kernel), Cp.e cp_16 (by omega), mx0 (by omega), ← s4_16 _ (by omega)]; exact eKk 2 rfl hO ga0 S1.2.1 (by decide +kernel) (by decide +kernel) _
          refine lv_aload_n hx hb dX12_back_41 rfl (lv_at hl 1 rfl) ?_
          refine lv_iconst (v := 0) hx hb dX12_back_42 (by decide) ?_
          refine q_put (T := TX12) C S5 ga0 7 kF_X12_46 dX12_back_43 rfl rfl (by decide) (by decide) rfl rfl rfl rfl rfl (vok_i rfl (by omega) (by omega)) (by decide +kernel) (fun H6 L6 S6 P6 => ?_)
          have y6_6 : (fI D H6 11 a0 6).toInt = (fI D H_16 11 a0 6).toInt := congrArg Int32.toInt (Pt.o P6 (by decide) (by decide))
          refine lv_iconst (v := 1) hx hb dX12_back_46 (by decide) ?_
          have k_1 : (1 : Int32).toInt = 1 := by decide
          exact retE_z hQ C S6 hr dX12_back_47 (z01 (by omega) (by omega)) (⟨by omega, fun Vv Kv hv => MI.toimg hv hO ga0 S6.2.1 (by omega) (by rw [Pt.i P6]; decide) (fun j hj => (congrArg vI (eV_of (P6.2.2.1 _ (ne_role g1h ga0 (by decide))) _)).trans (hcp j hj))⟩)
        · have b4 : ¬ (1203 : Int32).toInt ≤ x1_16.toInt := fun z9 => c4 (i_le.mpr z9)
          refine lv_aload_n hx hb dX12_back_23 rfl (lv_at hl 1 rfl) ?_
          refine q_grB (T := TX12) C S1.1 (cp_16.2.1 a0 (ne_role ga0 gd_16 (by decide))) ga0 1 kF_X12_13 dX12_back_24 rfl rfl (by decide) rfl (by decide) rfl ?_
          refine lv_iload_n hx hb dX12_back_27 rfl (lv_at hl 0 rfl) ?_
          refine lv_aload_n hx hb dX12_back_28 rfl (lv_at hl 1 rfl) ?_
          refine q_grB (T := TX12) C S1.1 (cp_16.2.1 a0 (ne_role ga0 gd_16 (by decide))) ga0 2 kF_X12_17 dX12_back_29 rfl rfl (by decide) rfl (by decide) rfl ?_
          refine lv_iload_n hx hb dX12_back_32 rfl (lv_at hl 0 rfl) ?_
          refine q_iaB C ((cp_16.2.1 (fR D H1 11 a0 2) (ne_role gs_16 gd_16 (by decide))).trans s1_16) (v := fs_16 x1_16.toInt.toNat) (by omega) (by omega) (rfl) dX12_back_33 ?_
          refine q_isB C cp_16.1 (by omega) (by omega) dX12_back_34 (fun H8 e18 e28 e38 => ?_)
          have cq8 := Cp.step cp_16 e18 e28 e38 (by omega) (by exact congrArg fs_16 (by omega)) (by rw [gd_16]; decide)
          obtain ⟨v9, ev9⟩ : ∃ y : Int32, y = x1_16 + (1) := ⟨_, rfl⟩
          have k_1 : (1 : Int32).toInt = 1 := by decide
          have f10 : v9.toInt = x1_16.toInt + (1) := by rw [ev9]; exact i_addc k_1 (by omega) (by omega)
          refine lv_iinc (v := v9) (lv' := [(1, .int v9), (0, .ref a0)]) hx hb dX12_back_35 hl (k := 0) rfl (by rw [ev9]; rfl) (by decide) rfl (fun ls hl => ?_)
          refine lv_goto (tgt := 16) hx hb dX12_back_38 (by decide) ?_
          exact ih16 v9 H8 _ ls (by rw [show v9.toInt.toNat = x1_16.toInt.toNat + 1 by omega]; exact cq8) ⟨by omega, by omega⟩ (by omega) (lv_sub hl [0, 1] rfl)
    exact Lp16 1204 (0 : Int32) H1 L1 ls (Cp.start S1 d1_16) ⟨by omega, by omega⟩ (by omega) (lv_sub hl [0, 1] rfl)
  · have b3 : (fI D H1 11 a0 6).toInt = (0 : Int32).toInt := i_eq.mp c3
    refine lv_iconst (v := 0) hx hb dX12_back_12 (by decide) ?_
    exact retE_z hQ C S1 hr dX12_back_13 (z01 (by omega) (by omega)) (⟨by omega, fun Vv Kv hv => (rk1 Vv Kv hv).img0 (by omega)⟩)

set_option maxRecDepth 100000 in
set_option maxHeartbeats 4000000 in
theorem c_X12_parish (l : Launch) (D : DD) (G : Nat → Nat) (a0 : Nat) (ga0 : G a0 = 30) : CE l D G yX12_parish cX12_parish 3 (some .int) 31 [.ref a0] (fun _ => True) [(33, 0), (30, 14), (30, 0), (30, 7), (30, 9), (30, 10), (30, 11), (30, 12), (30, 16), (31, 0), (30, 13), (31, 1)] (xI (fun H r H1 => (fI D H1 11 a0 9).toInt = 0)) := by
  refine enter (by decide) (Nat.le_of_ble_eq_true rfl) ?_
  intro p e s m args below meth c ls Q hA hQ C hr hO hpre hl
  have hx := C.1
  have hb := C.2.1
  have S : Sd D G [(33, 0), (30, 14), (30, 0), (30, 7), (30, 9), (30, 10), (30, 11), (30, 12), (30, 16), (31, 0), (30, 13), (31, 1)] s.heap s.heap [] := Sd.start hO
  have hl : lv_has ls 3 [(0, .ref a0)] := hl
  refine lv_iconst (v := 0) hx hb dX12_parish_0 (by decide) ?_
  refine lv_istore_n (lv' := [(1, .int (0 : Int32)), (0, .ref a0)]) hx hb dX12_parish_1 rfl hl (by decide) rfl (fun ls hl => ?_)
  have gd_2 : G (fR D s.heap 11 a0 3) = 33 := S.1.rol ga0 rfl (by decide) rfl
  obtain ⟨fd_2, d1_2, d2_2, d3_2, d4_2⟩ := S.1.ia gd_2 rfl
  rw [len_33 S.1 gd_2] at d1_2 d2_2 d3_2 d4_2
  have gs_2 : G (fR D s.heap 11 a0 1) = 31 := S.1.rol ga0 rfl (by decide) rfl
  obtain ⟨fs_2, s1_2, s2_2, s3_2, s4_2⟩ := S.1.ia gs_2 rfl
  rw [len_31 S.1 gs_2] at s1_2 s2_2 s3_2 s4_2
  have Lp2 : ∀ (n : Nat) (x1_2 : Int32) (H_2 : Heap) (L_2 : List Loc) (ls : Array Slot), (Cp D G s.heap H_2 L_2 (fR D s.heap 11 a0 3) 1203 fd_2 fs_2 0 0 x1_2.toInt.toNat) → (0 ≤ x1_2.toInt ∧ x1_2.toInt ≤ 1203) → 1204 - x1_2.toInt ≤ (n : Int) → lv_has ls 3 [(1, .int x1_2), (0, .ref a0)] → W p l e (rmU 31 0 0) s m args below meth c H_2 L_2 0 0 Q (F0 m 2 ls []) := by
    intro n
    induction n with
    | zero =>
      intro x1_2 H_2 L_2 ls cp_2 j2 hn hl
      exact absurd hn (by omega)
    | succ n ih2 =>
      intro x1_2 H_2 L_2 ls cp_2 j2 hn hl
      refine lv_iload_n hx hb dX12_parish_2 rfl (lv_at hl 0 rfl) ?_
      refine lv_sipush (v := 1203) hx hb dX12_parish_3 (by decide) ?_
      have k_1203 : (1203 : Int32).toInt = 1203 := by decide
      refine lv_icmp_ge (tgt := 27) hx hb dX12_parish_6 (by decide) (fun c1 => ?_) (fun c1 => ?_)
      · have b1 : (1203 : Int32).toInt ≤ x1_2.toInt := i_le.mp c1
        have ck2 : x1_2.toInt.toNat = 1203 := by omega
        rw [ck2] at cp_2
        have S2 : Sd D G [(33, 0), (30, 14), (30, 0), (30, 7), (30, 9), (30, 10), (30, 11), (30, 12), (30, 16), (31, 0), (30, 13), (31, 1)] s.heap H_2 L_2 := Cp.done S cp_2 gd_2 rfl (by decide) (by decide +kernel) (by decide) (⟨rfl, mix_low s3_2.2⟩)
        have y2_9 : (fI D H_2 11 a0 9).toInt = (fI D s.heap 11 a0 9).toInt := congrArg Int32.toInt (congrArg vI (fV_of (cp_2.2.1 a0 (ne_role ga0 gd_2 (by decide))) 11 9))
        refine lv_aload_n hx hb dX12_parish_27 rfl (lv_at hl 1 rfl) ?_
        refine lv_iconst (v := 1) hx hb dX12_parish_28 (by decide) ?_
        have k_1 : (1 : Int32).toInt = 1 := by decide
        refine callV_Ei C S2 (c_X12_readAll_t l D G a0 (1 : Int32) ga0 (by omega)) kV_X12_242 ga0 (trivial) (by decide +kernel) dX12_parish_29 hl.1 rfl rfl (by decide) cd_X12_readAll ⟨Nat.le_of_ble_eq_true rfl, Nat.le_of_ble_eq_true rfl, Nat.le_of_ble_eq_true rfl, Nat.le_of_ble_eq_true rfl, Nat.le_of_ble_eq_true rfl⟩ (fun v3 H3 L3 S3 K3 q3 => ?_)
        obtain ⟨q3, tz3⟩ := q3
        refine lv_istore_n (lv' := [(1, .int v3), (0, .ref a0)]) hx hb dX12_parish_32 rfl hl (by decide) rfl (fun ls hl => ?_)
        refine lv_aload_n hx hb dX12_parish_33 rfl (lv_at hl 1 rfl) ?_
        refine lv_iload_n hx hb dX12_parish_34 rfl (lv_at hl 0 rfl) ?_
        have k_0 : (0 : Int32).toInt = 0 := by decide
        refine lv_if_ge (tgt := 45) hx hb dX12_parish_35 (by decide) (fun c4 => ?_) (fun c4 => ?_)
        · have b4 : (0 : Int32).toInt ≤ v3.toInt := i_le.mp c4
          refine lv_iconst (v := -1) hx hb dX12_parish_45 (by decide) ?_
          have k_m1 : (-1 : Int32).toInt = -1 := by decide
          refine q_put (T := TX12) C S3 ga0 14 kF_X12_33 dX12_parish_46 rfl rfl (by decide) (by decide) rfl rfl rfl rfl rfl (vok_a rfl) (by decide +kernel) (fun H5 L5 S5 P5 => ?_)
          have y5_9 : (fI D H5 11 a0 9).toInt = (fI D H3 11 a0 9).toInt := congrArg Int32.toInt (Pt.o P5 (by decide) (by decide))
          refine lv_aload_n hx hb dX12_parish_49 rfl (lv_at hl 1 rfl) ?_
          refine lv_iload_n hx hb dX12_parish_50 rfl (lv_at hl 0 rfl) ?_
          refine lv_if_ge (tgt := 58) hx hb dX12_parish_51 (by decide) (fun c6 => ?_) (fun c6 => ?_)
          · have b6 : (0 : Int32).toInt ≤ v3.toInt := i_le.mp c6
            refine lv_iconst (v := 0) hx hb dX12_parish_58 (by decide) ?_
            refine lv_iconst (v := 1) hx hb dX12_parish_59 (by decide) ?_
            refine callV_Ei C S5 (c_X12_throwsIf l D G a0 (0 : Int32) (1 : Int32) ga0 (by omega)) kV_X12_246 ga0 (trivial) (by decide +kernel) dX12_parish_60 hl.1 rfl rfl (by decide) cd_X12_throwsIf ⟨Nat.le_of_ble_eq_true rfl, Nat.le_of_ble_eq_true rfl, Nat.le_of_ble_eq_true rfl, Nat.le_of_ble_eq_true rfl, Nat.le_of_ble_eq_true rfl⟩ (fun v7 H7 L7 S7 K7 q7 => ?_)
            have y7_9 : (fI D H7 11 a0 9).toInt = (fI D H5 11 a0 9).toInt := congrArg Int32.toInt (K7.fI ga0 rfl (by decide) (by decide +kernel))
            refine lv_if_ne (tgt := 90) hx hb dX12_parish_63 (by decide) (fun c8 => ?_) (fun c8 => ?_)
            · have b8 : ¬ v7.toInt = (0 : Int32).toInt := fun z9 => c8 (i_eq.mpr z9)
              exact absurd b8 (by omega)
            · have b8 : v7.toInt = (0 : Int32).toInt := i_eq.mp c8
              refine lv_aload_n hx hb dX12_parish_66 rfl (lv_at hl 1 rfl) ?_
              refine lv_aload_n hx hb dX12_parish_67 rfl (lv_at hl 1 rfl) ?_
              refine q_gr (T := TX12) C S7.1 ga0 1 kF_X12_13 dX12_parish_68 rfl rfl (by decide) rfl (by decide) rfl (fun g9 => ?_)
              refine lv_iconst (v := 2) hx hb dX12_parish_71 (by decide) ?_
              have n10 : aN H7 (fR D H7 11 a0 1) = 2052 := len_31 S7.1 g9
              have k_2 : (2 : Int32).toInt = 2 := by decide
              refine q_iald C S7.1 g9 (by omega) (by omega) dX12_parish_72 rfl (by decide) ?_
              refine lv_topi (fun v11 ev11 => ?_)
              refine lv_bipush (v := 12) hx hb dX12_parish_73 (by decide) ?_
              have k_12 : (12 : Int32).toInt = 12 := by decide
              refine lv_icmp_ne (tgt := 82) hx hb dX12_parish_75 (by decide) (fun c12 => ?_) (fun c12 => ?_)
              · have b12 : ¬ v11.toInt = (12 : Int32).toInt := fun z9 => c12 (i_eq.mpr z9)
                refine lv_iconst (v := 0) hx hb dX12_parish_82 (by decide) ?_
                refine lv_iconst (v := 2) hx hb dX12_parish_83 (by decide) ?_
                refine callV_Ei C S7 (c_X12_throwsIf l D G a0 (0 : Int32) (2 : Int32) ga0 (by omega)) kV_X12_246 ga0 (trivial) (by decide +kernel) dX12_parish_84 hl.1 rfl rfl (by decide) cd_X12_throwsIf ⟨Nat.le_of_ble_eq_true rfl, Nat.le_of_ble_eq_true rfl, Nat.le_of_ble_eq_true rfl, Nat.le_of_ble_eq_true rfl, Nat.le_of_ble_eq_true rfl⟩ (fun v13 H13 L13 S13 K13 q13 => ?_)
                have y13_9 : (fI D H13 11 a0 9).toInt = (fI D H7 11 a0 9).toInt := congrArg Int32.toInt (K13.fI ga0 rfl (by decide) (by decide +kernel))
                refine lv_if_eq (tgt := 119) hx hb dX12_parish_87 (by decide) (fun c14 => ?_) (fun c14 => ?_)
                · have b14 : v13.toInt = (0 : Int32).toInt := i_eq.mp c14
                  refine lv_aload_n hx hb dX12_parish_119 rfl (lv_at hl 1 rfl) ?_
                  refine q_gr (T := TX12) C S13.1 ga0 1 kF_X12_13 dX12_parish_120 rfl rfl (by decide) rfl (by decide) rfl (fun g15 => ?_)
                  refine lv_iconst (v := 2) hx hb dX12_parish_123 (by decide) ?_
                  refine lv_dup2_11 hx hb dX12_parish_124 rfl rfl ?_
                  have n16 : aN H13 (fR D H13 11 a0 1) = 2052 := len_31 S13.1 g15
                  refine q_iald C S13.1 g15 (by omega) (by omega) dX12_parish_125 rfl (by decide) ?_
                  refine lv_topi (fun v17 ev17 => ?_)
                  refine lv_iconst (v := 1) hx hb dX12_parish_126 (by decide) ?_
                  refine lv_iadd hx hb dX12_parish_127 ?_
                  refine lv_topi (fun v18 ev18 => ?_)
                  refine q_iast C S13 g15 (by omega) (by omega) dX12_parish_128 rfl (by decide) (by decide +kernel) (fun _ _ h => wk_low _ _ (by omega) (fun h9 => by omega) (fun h9 => by omega) (fun h9 => by omega) (fun j hj h9 => by omega) h) (fun H19 L19 S19 P19 => ?_) (hs := fun _ => Or.inl (by decide +kernel))
                  have y19_9 : (fI D H19 11 a0 9).toInt = (fI D H13 11 a0 9).toInt := congrArg Int32.toInt (Pa.f P19 (ne_role ga0 g15 (by decide)))
                  refine lv_aload_n hx hb dX12_parish_129 rfl (lv_at hl 1 rfl) ?_
                  refine lv_iconst (v := 0) hx hb dX12_parish_130 (by decide) ?_
                  refine q_put (T := TX12) C S19 ga0 7 kF_X12_46 dX12_parish_131 rfl rfl (by decide) (by decide) rfl rfl rfl rfl rfl (vok_i rfl (by omega) (by omega)) (by decide +kernel) (fun H20 L20 S20 P20 => ?_)
                  have y20_9 : (fI D H20 11 a0 9).toInt = (fI D H19 11 a0 9).toInt := congrArg Int32.toInt (Pt.o P20 (by decide) (by decide))
                  refine lv_aload_n hx hb dX12_parish_134 rfl (lv_at hl 1 rfl) ?_
                  refine q_gr (T := TX12) C S20.1 ga0 1 kF_X12_13 dX12_parish_135 rfl rfl (by decide) rfl (by decide) rfl (fun g21 => ?_)
                  refine lv_iconst (v := 2) hx hb dX12_parish_138 (by decide) ?_
                  have n22 : aN H20 (fR D H20 11 a0 1) = 2052 := len_31 S20.1 g21
                  refine q_iald C S20.1 g21 (by omega) (by omega) dX12_parish_139 rfl (by decide) ?_
                  refine lv_topi (fun v23 ev23 => ?_)
                  exact retE_i hQ C S20 hr dX12_parish_140 (by omega)
                · have b14 : ¬ v13.toInt = (0 : Int32).toInt := fun z9 => c14 (i_eq.mpr z9)
                  exact absurd b14 (by omega)
              · have b12 : v11.toInt = (12 : Int32).toInt := i_eq.mp c12
                refine lv_iconst (v := 1) hx hb dX12_parish_78 (by decide) ?_
                refine lv_goto (tgt := 83) hx hb dX12_parish_79 (by decide) ?_
                refine lv_iconst (v := 2) hx hb dX12_parish_83 (by decide) ?_
                refine callV_Ei C S7 (c_X12_throwsIf l D G a0 (1 : Int32) (2 : Int32) ga0 (by omega)) kV_X12_246 ga0 (trivial) (by decide +kernel) dX12_parish_84 hl.1 rfl rfl (by decide) cd_X12_throwsIf ⟨Nat.le_of_ble_eq_true rfl, Nat.le_of_ble_eq_true rfl, Nat.le_of_ble_eq_true rfl, Nat.le_of_ble_eq_true rfl, Nat.le_of_ble_eq_true rfl⟩ (fun v24 H24 L24 S24 K24 q24 => ?_)
                have y24_9 : (fI D H24 11 a0 9).toInt = (fI D H7 11 a0 9).toInt := congrArg Int32.toInt (K24.fI ga0 rfl (by decide) (by decide +kernel))
                refine lv_if_eq (tgt := 119) hx hb dX12_parish_87 (by decide) (fun c25 => ?_) (fun c25 => ?_)
                · have b25 : v24.toInt = (0 : Int32).toInt := i_eq.mp c25
                  exact absurd b25 (by omega)
                · have b25 : ¬ v24.toInt = (0 : Int32).toInt := fun z9 => c25 (i_eq.mpr z9)
                  refine lv_iconst (v := 0) hx hb dX12_parish_90 (by decide) ?_
                  refine lv_istore_n (lv' := [(2, .int (0 : Int32)), (1, .int v3), (0, .ref a0)]) hx hb dX12_parish_91 rfl hl (by decide) rfl (fun ls hl => ?_)
                  have gd_92 : G (fR D H24 11 a0 1) = 31 := S24.1.rol ga0 rfl (by decide) rfl
                  obtain ⟨fd_92, d1_92, d2_92, d3_92, d4_92⟩ := S24.1.ia gd_92 rfl
                  rw [len_31 S24.1 gd_92] at d1_92 d2_92 d3_92 d4_92
                  have gs_92 : G (fR D H24 11 a0 3) = 33 := S24.1.rol ga0 rfl (by decide) rfl
                  obtain ⟨fs_92, s1_92, s2_92, s3_92, s4_92⟩ := S24.1.ia gs_92 rfl
                  rw [len_33 S24.1 gs_92] at s1_92 s2_92 s3_92 s4_92
                  have Lp92 : ∀ (n : Nat) (x2_92 : Int32) (H_92 : Heap) (L_92 : List Loc) (ls : Array Slot), (Cp D G H24 H_92 L_92 (fR D H24 11 a0 1) 2052 fd_92 fs_92 0 0 x2_92.toInt.toNat) → (0 ≤ x2_92.toInt ∧ x2_92.toInt ≤ 1203) → 1204 - x2_92.toInt ≤ (n : Int) → lv_has ls 3 [(2, .int x2_92), (0, .ref a0)] → W p l e (rmU 31 0 0) s m args below meth c H_92 L_92 0 0 Q (F0 m 92 ls []) := by
                    intro n
                    induction n with
                    | zero =>
                      intro x2_92 H_92 L_92 ls cp_92 j92 hn hl
                      exact absurd hn (by omega)
                    | succ n ih92 =>
                      intro x2_92 H_92 L_92 ls cp_92 j92 hn hl
                      refine lv_iload_n hx hb dX12_parish_92 rfl (lv_at hl 0 rfl) ?_
                      refine lv_sipush (v := 1203) hx hb dX12_parish_93 (by decide) ?_
                      refine lv_icmp_ge (tgt := 117) hx hb dX12_parish_96 (by decide) (fun c26 => ?_) (fun c26 => ?_)
                      · have b26 : (1203 : Int32).toInt ≤ x2_92.toInt := i_le.mp c26
                        have ck27 : x2_92.toInt.toNat = 1203 := by omega
                        rw [ck27] at cp_92
                        have S27 : Sd D G [(33, 0), (30, 14), (30, 0), (30, 7), (30, 9), (30, 10), (30, 11), (30, 12), (30, 16), (31, 0), (30, 13), (31, 1)] s.heap H_92 L_92 := Cp.done S24 cp_92 gd_92 rfl (by decide) (by decide +kernel) (by decide) (⟨rfl, mix_low s3_92.2⟩)
                        have y27_9 : (fI D H_92 11 a0 9).toInt = (fI D H24 11 a0 9).toInt := congrArg Int32.toInt (congrArg vI (fV_of (cp_92.2.1 a0 (ne_role ga0 gd_92 (by decide))) 11 9))
                        refine lv_iconst (v := 0) hx hb dX12_parish_117 (by decide) ?_
                        exact retE_i hQ C S27 hr dX12_parish_118 (by omega)
                      · have b26 : ¬ (1203 : Int32).toInt ≤ x2_92.toInt := fun z9 => c26 (i_le.mpr z9)
                        refine lv_aload_n hx hb dX12_parish_99 rfl (lv_at hl 1 rfl) ?_
                        refine q_grB (T := TX12) C S24.1 (cp_92.2.1 a0 (ne_role ga0 gd_92 (by decide))) ga0 1 kF_X12_13 dX12_parish_100 rfl rfl (by decide) rfl (by decide) rfl ?_
                        refine lv_iload_n hx hb dX12_parish_103 rfl (lv_at hl 0 rfl) ?_
                        refine lv_aload_n hx hb dX12_parish_104 rfl (lv_at hl 1 rfl) ?_
                        refine q_grB (T := TX12) C S24.1 (cp_92.2.1 a0 (ne_role ga0 gd_92 (by decide))) ga0 3 kF_X12_20 dX12_parish_105 rfl rfl (by decide) rfl (by decide) rfl ?_
                        refine lv_iload_n hx hb dX12_parish_108 rfl (lv_at hl 0 rfl) ?_
                        refine q_iaB C ((cp_92.2.1 (fR D H24 11 a0 3) (ne_role gs_92 gd_92 (by decide))).trans s1_92) (v := fs_92 x2_92.toInt.toNat) (by omega) (by omega) (rfl) dX12_parish_109 ?_
                        refine q_isB C cp_92.1 (by omega) (by omega) dX12_parish_110 (fun H29 e129 e229 e329 => ?_)
                        have cq29 := Cp.step cp_92 e129 e229 e329 (by omega) (by exact congrArg fs_92 (by omega)) (by rw [gd_92]; decide)
                        obtain ⟨v30, ev30⟩ : ∃ y : Int32, y = x2_92 + (1) := ⟨_, rfl⟩
                        have f31 : v30.toInt = x2_92.toInt + (1) := by rw [ev30]; exact i_addc k_1 (by omega) (by omega)
                        refine lv_iinc (v := v30) (lv' := [(2, .int v30), (0, .ref a0)]) hx hb dX12_parish_111 hl (k := 0) rfl (by rw [ev30]; rfl) (by decide) rfl (fun ls hl => ?_)
                        refine lv_goto (tgt := 92) hx hb dX12_parish_114 (by decide) ?_
                        exact ih92 v30 H29 _ ls (by rw [show v30.toInt.toNat = x2_92.toInt.toNat + 1 by omega]; exact cq29) ⟨by omega, by omega⟩ (by omega) (lv_sub hl [0, 1] rfl)
                  exact Lp92 1204 (0 : Int32) H24 L24 ls (Cp.start S24 d1_92) ⟨by omega, by omega⟩ (by omega) (lv_sub hl [0, 2] rfl)
          · have b6 : ¬ (0 : Int32).toInt ≤ v3.toInt := fun z9 => c6 (i_le.mpr z9)
            exact absurd b6 (by omega)
        · have b4 : ¬ (0 : Int32).toInt ≤ v3.toInt := fun z9 => c4 (i_le.mpr z9)
          refine lv_aload_n hx hb dX12_parish_38 rfl (lv_at hl 1 rfl) ?_
          refine q_gi (T := TX12) C S3.1 ga0 12 kF_X12_87 dX12_parish_39 rfl rfl (by decide) rfl (by decide) rfl ?_
          have r32 : 0 ≤ (fI D H3 11 a0 12).toInt ∧ (fI D H3 11 a0 12).toInt ≤ 400 := S3.1.rng ga0 rfl (by decide) rfl
          refine lv_goto (tgt := 46) hx hb dX12_parish_42 (by decide) ?_
          refine q_put (T := TX12) C S3 ga0 14 kF_X12_33 dX12_parish_46 rfl rfl (by decide) (by decide) rfl rfl rfl rfl rfl (vok_a rfl) (by decide +kernel) (fun H33 L33 S33 P33 => ?_)
          have y33_9 : (fI D H33 11 a0 9).toInt = (fI D H3 11 a0 9).toInt := congrArg Int32.toInt (Pt.o P33 (by decide) (by decide))
          refine lv_aload_n hx hb dX12_parish_49 rfl (lv_at hl 1 rfl) ?_
          refine lv_iload_n hx hb dX12_parish_50 rfl (lv_at hl 0 rfl) ?_
          refine lv_if_ge (tgt := 58) hx hb dX12_parish_51 (by decide) (fun c34 => ?_) (fun c34 => ?_)
          · have b34 : (0 : Int32).toInt ≤ v3.toInt := i_le.mp c34
            exact absurd b34 (by omega)
          · have b34 : ¬ (0 : Int32).toInt ≤ v3.toInt := fun z9 => c34 (i_le.mpr z9)
            refine lv_iconst (v := 1) hx hb dX12_parish_54 (by decide) ?_
            refine lv_goto (tgt := 59) hx hb dX12_parish_55 (by decide) ?_
            refine lv_iconst (v := 1) hx hb dX12_parish_59 (by decide) ?_
            refine callV_Ei C S33 (c_X12_throwsIf l D G a0 (1 : Int32) (1 : Int32) ga0 (by omega)) kV_X12_246 ga0 (trivial) (by decide +kernel) dX12_parish_60 hl.1 rfl rfl (by decide) cd_X12_throwsIf ⟨Nat.le_of_ble_eq_true rfl, Nat.le_of_ble_eq_true rfl, Nat.le_of_ble_eq_true rfl, Nat.le_of_ble_eq_true rfl, Nat.le_of_ble_eq_true rfl⟩ (fun v35 H35 L35 S35 K35 q35 => ?_)
            have y35_9 : (fI D H35 11 a0 9).toInt = (fI D H33 11 a0 9).toInt := congrArg Int32.toInt (K35.fI ga0 rfl (by decide) (by decide +kernel))
            refine lv_if_ne (tgt := 90) hx hb dX12_parish_63 (by decide) (fun c36 => ?_) (fun c36 => ?_)
            · have b36 : ¬ v35.toInt = (0 : Int32).toInt := fun z9 => c36 (i_eq.mpr z9)
              refine lv_iconst (v := 0) hx hb dX12_parish_90 (by decide) ?_
              refine lv_istore_n (lv' := [(2, .int (0 : Int32)), (1, .int v3), (0, .ref a0)]) hx hb dX12_parish_91 rfl hl (by decide) rfl (fun ls hl => ?_)
              have gd_92 : G (fR D H35 11 a0 1) = 31 := S35.1.rol ga0 rfl (by decide) rfl
              obtain ⟨fd_92, d1_92, d2_92, d3_92, d4_92⟩ := S35.1.ia gd_92 rfl
              rw [len_31 S35.1 gd_92] at d1_92 d2_92 d3_92 d4_92
              have gs_92 : G (fR D H35 11 a0 3) = 33 := S35.1.rol ga0 rfl (by decide) rfl
              obtain ⟨fs_92, s1_92, s2_92, s3_92, s4_92⟩ := S35.1.ia gs_92 rfl
              rw [len_33 S35.1 gs_92] at s1_92 s2_92 s3_92 s4_92
              have Lp92 : ∀ (n : Nat) (x2_92 : Int32) (H_92 : Heap) (L_92 : List Loc) (ls : Array Slot), (Cp D G H35 H_92 L_92 (fR D H35 11 a0 1) 2052 fd_92 fs_92 0 0 x2_92.toInt.toNat) → (0 ≤ x2_92.toInt ∧ x2_92.toInt ≤ 1203) → 1204 - x2_92.toInt ≤ (n : Int) → lv_has ls 3 [(2, .int x2_92), (0, .ref a0)] → W p l e (rmU 31 0 0) s m args below meth c H_92 L_92 0 0 Q (F0 m 92 ls []) := by
                intro n
                induction n with
                | zero =>
                  intro x2_92 H_92 L_92 ls cp_92 j92 hn hl
                  exact absurd hn (by omega)
                | succ n ih92 =>
                  intro x2_92 H_92 L_92 ls cp_92 j92 hn hl
                  refine lv_iload_n hx hb dX12_parish_92 rfl (lv_at hl 0 rfl) ?_
                  refine lv_sipush (v := 1203) hx hb dX12_parish_93 (by decide) ?_
                  refine lv_icmp_ge (tgt := 117) hx hb dX12_parish_96 (by decide) (fun c37 => ?_) (fun c37 => ?_)
                  · have b37 : (1203 : Int32).toInt ≤ x2_92.toInt := i_le.mp c37
                    have ck38 : x2_92.toInt.toNat = 1203 := by omega
                    rw [ck38] at cp_92
                    have S38 : Sd D G [(33, 0), (30, 14), (30, 0), (30, 7), (30, 9), (30, 10), (30, 11), (30, 12), (30, 16), (31, 0), (30, 13), (31, 1)] s.heap H_92 L_92 := Cp.done S35 cp_92 gd_92 rfl (by decide) (by decide +kernel) (by decide) (⟨rfl, mix_low s3_92.2⟩)
                    have y38_9 : (fI D H_92 11 a0 9).toInt = (fI D H35 11 a0 9).toInt := congrArg Int32.toInt (congrArg vI (fV_of (cp_92.2.1 a0 (ne_role ga0 gd_92 (by decide))) 11 9))
                    refine lv_iconst (v := 0) hx hb dX12_parish_117 (by decide) ?_
                    exact retE_i hQ C S38 hr dX12_parish_118 (by omega)
                  · have b37 : ¬ (1203 : Int32).toInt ≤ x2_92.toInt := fun z9 => c37 (i_le.mpr z9)
                    refine lv_aload_n hx hb dX12_parish_99 rfl (lv_at hl 1 rfl) ?_
                    refine q_grB (T := TX12) C S35.1 (cp_92.2.1 a0 (ne_role ga0 gd_92 (by decide))) ga0 1 kF_X12_13 dX12_parish_100 rfl rfl (by decide) rfl (by decide) rfl ?_
                    refine lv_iload_n hx hb dX12_parish_103 rfl (lv_at hl 0 rfl) ?_
                    refine lv_aload_n hx hb dX12_parish_104 rfl (lv_at hl 1 rfl) ?_
                    refine q_grB (T := TX12) C S35.1 (cp_92.2.1 a0 (ne_role ga0 gd_92 (by decide))) ga0 3 kF_X12_20 dX12_parish_105 rfl rfl (by decide) rfl (by decide) rfl ?_
                    refine lv_iload_n hx hb dX12_parish_108 rfl (lv_at hl 0 rfl) ?_
                    refine q_iaB C ((cp_92.2.1 (fR D H35 11 a0 3) (ne_role gs_92 gd_92 (by decide))).trans s1_92) (v := fs_92 x2_92.toInt.toNat) (by omega) (by omega) (rfl) dX12_parish_109 ?_
                    refine q_isB C cp_92.1 (by omega) (by omega) dX12_parish_110 (fun H40 e140 e240 e340 => ?_)
                    have cq40 := Cp.step cp_92 e140 e240 e340 (by omega) (by exact congrArg fs_92 (by omega)) (by rw [gd_92]; decide)
                    obtain ⟨v41, ev41⟩ : ∃ y : Int32, y = x2_92 + (1) := ⟨_, rfl⟩
                    have f42 : v41.toInt = x2_92.toInt + (1) := by rw [ev41]; exact i_addc k_1 (by omega) (by omega)
                    refine lv_iinc (v := v41) (lv' := [(2, .int v41), (0, .ref a0)]) hx hb dX12_parish_111 hl (k := 0) rfl (by rw [ev41]; rfl) (by decide) rfl (fun ls hl => ?_)
                    refine lv_goto (tgt := 92) hx hb dX12_parish_114 (by decide) ?_
                    exact ih92 v41 H40 _ ls (by rw [show v41.toInt.toNat = x2_92.toInt.toNat + 1 by omega]; exact cq40) ⟨by omega, by omega⟩ (by omega) (lv_sub hl [0, 1] rfl)
              exact Lp92 1204 (0 : Int32) H35 L35 ls (Cp.start S35 d1_92) ⟨by omega, by omega⟩ (by omega) (lv_sub hl [0, 2] rfl)
            · have b36 : v35.toInt = (0 : Int32).toInt := i_eq.mp c36
              exact absurd b36 (by omega)
      · have b1 : ¬ (1203 : Int32).toInt ≤ x1_2.toInt := fun z9 => c1 (i_le.mpr z9)
        refine lv_aload_n hx hb dX12_parish_9 rfl (lv_at hl 1 rfl) ?_
        refine q_grB (T := TX12) C S.1 (cp_2.2.1 a0 (ne_role ga0 gd_2 (by decide))) ga0 3 kF_X12_20 dX12_parish_10 rfl rfl (by decide) rfl (by decide) rfl ?_
        refine lv_iload_n hx hb dX12_parish_13 rfl (lv_at hl 0 rfl) ?_
        refine lv_aload_n hx hb dX12_parish_14 rfl (lv_at hl 1 rfl) ?_
        refine q_grB (T := TX12) C S.1 (cp_2.2.1 a0 (ne_role ga0 gd_2 (by decide))) ga0 1 kF_X12_13 dX12_parish_15 rfl rfl (by decide) rfl (by decide) rfl ?_
        refine lv_iload_n hx hb dX12_parish_18 rfl (lv_at hl 0 rfl) ?_
        refine q_iaB C ((cp_2.2.1 (fR D s.heap 11 a0 1) (ne_role gs_2 gd_2 (by decide))).trans s1_2) (v := fs_2 x1_2.toInt.toNat) (by omega) (by omega) (rfl) dX12_parish_19 ?_
        refine q_isB C cp_2.1 (by omega) (by omega) dX12_parish_20 (fun H44 e144 e244 e344 => ?_)
        have cq44 := Cp.step cp_2 e144 e244 e344 (by omega) (by exact congrArg fs_2 (by omega)) (by rw [gd_2]; decide)
        obtain ⟨v45, ev45⟩ : ∃ y : Int32, y = x1_2 + (1) := ⟨_, rfl⟩
        have k_1 : (1 : Int32).toInt = 1 := by decide
        have f46 : v45.toInt = x1_2.toInt + (1) := by rw [ev45]; exact i_addc k_1 (by omega) (by omega)
        refine lv_iinc (v := v45) (lv' := [(1, .int v45), (0, .ref a0)]) hx hb dX12_parish_21 hl (k := 0) rfl (by rw [ev45]; rfl) (by decide) rfl (fun ls hl => ?_)
        refine lv_goto (tgt := 2) hx hb dX12_parish_24 (by decide) ?_
        exact ih2 v45 H44 _ ls (by rw [show v45.toInt.toNat = x1_2.toInt.toNat + 1 by omega]; exact cq44) ⟨by omega, by omega⟩ (by omega) (lv_sub hl [0, 1] rfl)
  have k_0 : (0 : Int32).toInt = 0 := by decide
  exact Lp2 1204 (0 : Int32) s.heap [] ls (Cp.start S d1_2) ⟨by omega, by omega⟩ (by omega) (lv_sub hl [0, 1] rfl)
