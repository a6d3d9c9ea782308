set_option maxRecDepth 100000 in
set_option maxHeartbeats 4000000 in
theorem c_X12_throwsIf_f (l : Launch) (D : DD) (G : Nat → Nat) (a0 : Nat) (x1 : Int32) (x2 : Int32) (ga0 : G a0 = 30) (ix1 : 0 ≤ x1.toInt ∧ x1.toInt ≤ 1) : CE l D G yX12_throwsIf cX12_throwsIf 3 (some .boolean) 0 [.ref a0, .int x1, .int x2] (fun _ => True) [(30, 0)] (xI (fun H r H1 => r.toInt = x1.toInt ∧ (x1.toInt = 1 → (fI D H1 11 a0 0).toInt = x2.toInt) ∧ (x1.toInt = 0 → (fI D H1 11 a0 0).toInt = (fI D H 11 a0 0).toInt))) := by
  refine enter (by decide) (Nat.le_of_ble_eq_true rfl) ?_
  intro p e s m args below meth c ls Q hA hQ C hr hO hpre hl
  have hx := C.1
  have hb := C.2.1
  have S : Sd D G [(30, 0)] s.heap s.heap [] := Sd.start hO
  have hl : lv_has ls 3 [(0, .ref a0), (1, .int x1), (2, .int x2)] := hl
  refine lv_iload_n hx hb dX12_throwsIf_0 rfl (lv_at hl 1 rfl) ?_
  have k_0 : (0 : Int32).toInt = 0 := by decide
  refine lv_if_eq (tgt := 9) hx hb dX12_throwsIf_1 (by decide) (fun c1 => ?_) (fun c1 => ?_)
  · have b1 : x1.toInt = (0 : Int32).toInt := i_eq.mp c1
    refine lv_iload_n hx hb dX12_throwsIf_9 rfl (lv_at hl 1 rfl) ?_
    exact retE_z hQ C S hr dX12_throwsIf_10 (z01 (by omega) (by omega)) (⟨by omega, fun h9 => absurd h9 (by omega), fun _ => rfl⟩)
  · have b1 : ¬ x1.toInt = (0 : Int32).toInt := fun z9 => c1 (i_eq.mpr z9)
    refine lv_aload_n hx hb dX12_throwsIf_4 rfl (lv_at hl 0 rfl) ?_
    refine lv_iload_n hx hb dX12_throwsIf_5 rfl (lv_at hl 2 rfl) ?_
    refine q_put (T := TX12) C S ga0 0 kF_X12_3 dX12_throwsIf_6 rfl rfl (by decide) (by decide) rfl rfl rfl rfl rfl (vok_a rfl) (by decide +kernel) (fun H2 L2 S2 P2 => ?_)
    refine lv_iload_n hx hb dX12_throwsIf_9 rfl (lv_at hl 1 rfl) ?_
    exact retE_z hQ C S2 hr dX12_throwsIf_10 (z01 (by omega) (by omega)) (⟨by omega, fun h9 => by rw [Pt.i P2], fun h9 => absurd h9 (by omega)⟩)

set_option maxRecDepth 100000 in
set_option maxHeartbeats 4000000 in
theorem c_X12_thrown (l : Launch) (D : DD) (G : Nat → Nat) (a0 : Nat) (ga0 : G a0 = 30) : CP l D G yX12_thrown cX12_thrown 1 (some .int) 0 [.ref a0] (fun _ => True) (pI (fun H r => r.toInt = (fI D H 11 a0 0).toInt)) := by
  refine enter (by decide) (Nat.le_of_ble_eq_true rfl) ?_
  intro p e s m args below meth c ls Q hA hQ C hr hO hpre hl
  have hx := C.1
  have hb := C.2.1
  have hl : lv_has ls 1 [(0, .ref a0)] := hl
  refine lv_aload_n hx hb dX12_thrown_0 rfl (lv_at hl 0 rfl) ?_
  refine q_gi (T := TX12) C hO ga0 0 kF_X12_3 dX12_thrown_1 rfl rfl (by decide) rfl (by decide) rfl ?_
  exact retP_i hQ C hr dX12_thrown_4 (by omega)

set_option maxRecDepth 100000 in
set_option maxHeartbeats 4000000 in
theorem c_X12_law (l : Launch) (D : DD) (G : Nat → Nat) (a0 : Nat) (T : Tx) (ga0 : G a0 = 30) : CE l D G yX12_law cX12_law 3 (some .int) 31 [.ref a0] (fun H => tM D H a0 = T) [(30, 14), (30, 0), (30, 7), (30, 9), (30, 10), (30, 11), (30, 12), (30, 16), (31, 0), (30, 13)] (xI (fun H r H1 => ((fI D H1 11 a0 9).toInt = 0 ∧ ((fI D H1 11 a0 7).toInt = 0 ∨ (fI D H1 11 a0 7).toInt = (fI D H 11 a0 7).toInt)) ∧ (((fI D H1 11 a0 0).toInt = 0 ∧ (lawF T).1 = true ∧ r.toInt = (((lawF T).2.2 : Nat) : Int) ∧ (fI D H1 11 a0 14).toInt = -1) ∨ ((fI D H1 11 a0 0).toInt = 1 ∧ (lawF T).1 = false ∧ (fI D H1 11 a0 14).toInt = (((lawF T).2.1 : Nat) : Int))))) := by
  refine enter (by decide) (Nat.le_of_ble_eq_true rfl) ?_
  intro p e s m args below meth c ls Q hA hQ C hr hO hpre hl
  have hx := C.1
  have hb := C.2.1
  have S : Sd D G [(30, 14), (30, 0), (30, 7), (30, 9), (30, 10), (30, 11), (30, 12), (30, 16), (31, 0), (30, 13)] s.heap s.heap [] := Sd.start hO
  have hl : lv_has ls 3 [(0, .ref a0)] := hl
  have tk0 : Lq D s.heap s.heap a0 := Lq.refl
  refine lv_aload_n hx hb dX12_law_0 rfl (lv_at hl 0 rfl) ?_
  refine lv_iconst (v := 0) hx hb dX12_law_1 (by decide) ?_
  have k_0 : (0 : Int32).toInt = 0 := by decide
  refine callV_Ei C S (c_X12_readAll_f l D G a0 (0 : Int32) T ga0 (by omega)) kV_X12_242 ga0 (⟨trivial, hpre⟩) (by decide +kernel) dX12_law_2 hl.1 rfl rfl (by decide) cd_X12_readAll ⟨Nat.le_of_ble_eq_true rfl, Nat.le_of_ble_eq_true rfl, Nat.le_of_ble_eq_true rfl, Nat.le_of_ble_eq_true rfl, Nat.le_of_ble_eq_true rfl⟩ (fun v1 H1 L1 S1 K1 q1 => ?_)
  obtain ⟨q1, fq1⟩ := q1
  obtain ⟨q1, tz1, dl1⟩ := q1
  have y1_14 : (fI D H1 11 a0 14).toInt = (fI D s.heap 11 a0 14).toInt := congrArg Int32.toInt (K1.fI ga0 rfl (by decide) (by decide +kernel))
  have y1_7 : (fI D H1 11 a0 7).toInt = (fI D s.heap 11 a0 7).toInt := congrArg Int32.toInt (K1.fI ga0 rfl (by decide) (by decide +kernel))
  have dl0 := dl1
  have fqa := fq1
  refine lv_istore_n (lv' := [(1, .int v1), (0, .ref a0)]) hx hb dX12_law_5 rfl hl (by decide) rfl (fun ls hl => ?_)
  refine lv_aload_n hx hb dX12_law_6 rfl (lv_at hl 1 rfl) ?_
  refine lv_iload_n hx hb dX12_law_7 rfl (lv_at hl 0 rfl) ?_
  refine lv_if_ge (tgt := 18) hx hb dX12_law_8 (by decide) (fun c2 => ?_) (fun c2 => ?_)
  · have b2 : (0 : Int32).toInt ≤ v1.toInt := i_le.mp c2
    refine lv_iconst (v := -1) hx hb dX12_law_18 (by decide) ?_
    have k_m1 : (-1 : Int32).toInt = -1 := by decide
    refine q_put (T := TX12) C S1 ga0 14 kF_X12_33 dX12_law_19 rfl rfl (by decide) (by decide) rfl rfl rfl rfl rfl (vok_a rfl) (by decide +kernel) (fun H3 L3 S3 P3 => ?_)
    have y3_9 : (fI D H3 11 a0 9).toInt = (fI D H1 11 a0 9).toInt := congrArg Int32.toInt (Pt.o P3 (by decide) (by decide))
    have y3_0 : (fI D H3 11 a0 0).toInt = (fI D H1 11 a0 0).toInt := congrArg Int32.toInt (Pt.o P3 (by decide) (by decide))
    have y3_14 : (fI D H3 11 a0 14).toInt = (-1 : Int32).toInt := congrArg Int32.toInt (Pt.i P3)
    have y3_7 : (fI D H3 11 a0 7).toInt = (fI D H1 11 a0 7).toInt := congrArg Int32.toInt (Pt.o P3 (by decide) (by decide))
    have lq3 : Lq D H1 H3 a0 := Lq.put S1.1 ga0 P3 (by decide) (by decide)
    refine lv_aload_n hx hb dX12_law_22 rfl (lv_at hl 1 rfl) ?_
    refine lv_iload_n hx hb dX12_law_23 rfl (lv_at hl 0 rfl) ?_
    refine lv_if_ge (tgt := 31) hx hb dX12_law_24 (by decide) (fun c4 => ?_) (fun c4 => ?_)
    · have b4 : (0 : Int32).toInt ≤ v1.toInt := i_le.mp c4
      refine lv_iconst (v := 0) hx hb dX12_law_31 (by decide) ?_
      refine lv_iconst (v := 1) hx hb dX12_law_32 (by decide) ?_
      have k_1 : (1 : Int32).toInt = 1 := by decide
      refine callV_Ei C S3 (c_X12_throwsIf_f l D G a0 (0 : Int32) (1 : Int32) ga0 (by omega)) kV_X12_246 ga0 (trivial) (by decide +kernel) dX12_law_33 hl.1 rfl rfl (by decide) cd_X12_throwsIf ⟨Nat.le_of_ble_eq_true rfl, Nat.le_of_ble_eq_true rfl, Nat.le_of_ble_eq_true rfl, Nat.le_of_ble_eq_true rfl, Nat.le_of_ble_eq_true rfl⟩ (fun v5 H5 L5 S5 K5 q5 => ?_)
      have y5_9 : (fI D H5 11 a0 9).toInt = (fI D H3 11 a0 9).toInt := congrArg Int32.toInt (K5.fI ga0 rfl (by decide) (by decide +kernel))
      have y5_14 : (fI D H5 11 a0 14).toInt = (fI D H3 11 a0 14).toInt := congrArg Int32.toInt (K5.fI ga0 rfl (by decide) (by decide +kernel))
      have y5_7 : (fI D H5 11 a0 7).toInt = (fI D H3 11 a0 7).toInt := congrArg Int32.toInt (K5.fI ga0 rfl (by decide) (by decide +kernel))
      have lq5 : Lq D H3 H5 a0 := Lq.keep S3.1 ga0 K5 (by decide +kernel) (by decide +kernel) (by decide +kernel)
      refine lv_if_eq (tgt := 41) hx hb dX12_law_36 (by decide) (fun c6 => ?_) (fun c6 => ?_)
      · have b6 : v5.toInt = (0 : Int32).toInt := i_eq.mp c6
        have dlx : Dl D H5 a0 v1.toInt.toNat := (dl0 (by omega)).lq (lq3.trans lq5) (by omega) (by have := S1.1.rng (k := 16) ga0 rfl (by decide) rfl; exact this.1)
        refine lv_aload_n hx hb dX12_law_41 rfl (lv_at hl 1 rfl) ?_
        refine q_gr (T := TX12) C S5.1 ga0 1 kF_X12_13 dX12_law_42 rfl rfl (by decide) rfl (by decide) rfl (fun g7 => ?_)
        refine lv_sipush (v := 1203) hx hb dX12_law_45 (by decide) ?_
        refine lv_iload_n hx hb dX12_law_48 rfl (lv_at hl 0 rfl) ?_
        have n8 : aN H5 (fR D H5 11 a0 1) = 2052 := len_31 S5.1 g7
        have k_1203 : (1203 : Int32).toInt = 1203 := by decide
        refine q_iast C S5 g7 (by omega) (by omega) dX12_law_49 rfl (by decide) (by decide +kernel) (fun _ _ h => wk_high _ _ (by omega) h) (fun H9 L9 S9 P9 => ?_) (hs := fun _ => Or.inr (vy_no (by omega) (by omega) (by omega) (by omega) (fun h9 hh9 => by omega) (fun j9 hj9 => by omega)))
        have y9_9 : (fI D H9 11 a0 9).toInt = (fI D H5 11 a0 9).toInt := congrArg Int32.toInt (Pa.f P9 (ne_role ga0 g7 (by decide)))
        have y9_0 : (fI D H9 11 a0 0).toInt = (fI D H5 11 a0 0).toInt := congrArg Int32.toInt (Pa.f P9 (ne_role ga0 g7 (by decide)))
        have y9_14 : (fI D H9 11 a0 14).toInt = (fI D H5 11 a0 14).toInt := congrArg Int32.toInt (Pa.f P9 (ne_role ga0 g7 (by decide)))
        have y9_7 : (fI D H9 11 a0 7).toInt = (fI D H5 11 a0 7).toInt := congrArg Int32.toInt (Pa.f P9 (ne_role ga0 g7 (by decide)))
        have rs9 : 0 ≤ (fI D H9 11 a0 16).toInt ∧ (fI D H9 11 a0 16).toInt ≤ 400 := S9.1.rng ga0 rfl (by decide) rfl
        have dly : Dl D H9 a0 v1.toInt.toNat := Dl.pre S5.1 ga0 P9 (by omega) dlx (by omega) (by have := S5.1.rng (k := 16) ga0 rfl (by decide) rfl; exact this.2)
        have cn := eS (j := 1203) S5.1 ga0 P9 rfl (by omega) (by decide)
        refine lv_iconst (v := 0) hx hb dX12_law_50 (by decide) ?_
        refine lv_istore_n (lv' := [(2, .int (0 : Int32)), (1, .int v1), (0, .ref a0)]) hx hb dX12_law_51 rfl hl (by decide) rfl (fun ls hl => ?_)
        have gd_52 : G (fR D H9 11 a0 1) = 31 := S9.1.rol ga0 rfl (by decide) rfl
        obtain ⟨fd_52, d1_52, d2_52, d3_52, d4_52⟩ := S9.1.ia gd_52 rfl
        rw [len_31 S9.1 gd_52] at d1_52 d2_52 d3_52 d4_52
        have Lp52 : ∀ (n : Nat) (x2_52 : Int32) (H_52 : Heap) (L_52 : List Loc) (ls : Array Slot), (Cp D G H9 H_52 L_52 (fR D H9 11 a0 1) 2052 fd_52 fd_52 354 1203 x2_52.toInt.toNat) → (0 ≤ x2_52.toInt ∧ x2_52.toInt ≤ 849) → 850 - x2_52.toInt ≤ (n : Int) → lv_has ls 3 [(2, .int x2_52), (1, .int v1), (0, .ref a0)] → W p l e (rmU 31 0 0) s m args below meth c H_52 L_52 0 0 Q (F0 m 52 ls []) := by
          intro n
          induction n with
          | zero =>
            intro x2_52 H_52 L_52 ls cp_52 j52 hn hl
            exact absurd hn (by omega)
          | succ n ih52 =>
            intro x2_52 H_52 L_52 ls cp_52 j52 hn hl
            refine lv_iload_n hx hb dX12_law_52 rfl (lv_at hl 0 rfl) ?_
            refine lv_sipush (v := 849) hx hb dX12_law_53 (by decide) ?_
            have k_849 : (849 : Int32).toInt = 849 := by decide
            refine lv_icmp_ge (tgt := 85) hx hb dX12_law_56 (by decide) (fun c10 => ?_) (fun c10 => ?_)
            · have b10 : (849 : Int32).toInt ≤ x2_52.toInt := i_le.mp c10
              have ck11 : x2_52.toInt.toNat = 849 := by omega
              rw [ck11] at cp_52
              have S11 : Sd D G [(30, 14), (30, 0), (30, 7), (30, 9), (30, 10), (30, 11), (30, 12), (30, 16), (31, 0), (30, 13)] s.heap H_52 L_52 := Cp.donel S9 cp_52 gd_52 rfl (by decide) (by decide +kernel) (by decide) (⟨rfl, mix_law d3_52.2.1 dly (by omega) rs9.2 d4_52 (by rw [← d4_52 1203 (by omega), cn]; omega)⟩) (by decide) d1_52
              have y11_9 : (fI D H_52 11 a0 9).toInt = (fI D H9 11 a0 9).toInt := congrArg Int32.toInt (congrArg vI (fV_of (cp_52.2.1 a0 (ne_role ga0 gd_52 (by decide))) 11 9))
              have y11_0 : (fI D H_52 11 a0 0).toInt = (fI D H9 11 a0 0).toInt := congrArg Int32.toInt (congrArg vI (fV_of (cp_52.2.1 a0 (ne_role ga0 gd_52 (by decide))) 11 0))
              have y11_14 : (fI D H_52 11 a0 14).toInt = (fI D H9 11 a0 14).toInt := congrArg Int32.toInt (congrArg vI (fV_of (cp_52.2.1 a0 (ne_role ga0 gd_52 (by decide))) 11 14))
              have y11_7 : (fI D H_52 11 a0 7).toInt = (fI D H9 11 a0 7).toInt := congrArg Int32.toInt (congrArg vI (fV_of (cp_52.2.1 a0 (ne_role ga0 gd_52 (by decide))) 11 7))
              refine lv_aload_n hx hb dX12_law_85 rfl (lv_at hl 2 rfl) ?_
              refine q_gr (T := TX12) C S11.1 ga0 1 kF_X12_13 dX12_law_86 rfl rfl (by decide) rfl (by decide) rfl (fun g12 => ?_)
              refine lv_iconst (v := 3) hx hb dX12_law_89 (by decide) ?_
              refine lv_iconst (v := 1) hx hb dX12_law_90 (by decide) ?_
              have n13 : aN H_52 (fR D H_52 11 a0 1) = 2052 := len_31 S11.1 g12
              have k_3 : (3 : Int32).toInt = 3 := by decide
              refine q_iast C S11 g12 (by omega) (by omega) dX12_law_91 rfl (by decide) (by decide +kernel) (fun _ _ h => wk_low _ _ (by omega) (fun h9 => by omega) (fun h9 => by omega) (fun h9 => by omega) (fun j hj h9 => by omega) h) (fun H14 L14 S14 P14 => ?_) (hs := fun _ => Or.inr (vy_no (by omega) (by omega) (by omega) (by omega) (fun h9 hh9 => by omega) (fun j9 hj9 => by omega)))
              have y14_9 : (fI D H14 11 a0 9).toInt = (fI D H_52 11 a0 9).toInt := congrArg Int32.toInt (Pa.f P14 (ne_role ga0 g12 (by decide)))
              have y14_0 : (fI D H14 11 a0 0).toInt = (fI D H_52 11 a0 0).toInt := congrArg Int32.toInt (Pa.f P14 (ne_role ga0 g12 (by decide)))
              have y14_14 : (fI D H14 11 a0 14).toInt = (fI D H_52 11 a0 14).toInt := congrArg Int32.toInt (Pa.f P14 (ne_role ga0 g12 (by decide)))
              have y14_7 : (fI D H14 11 a0 7).toInt = (fI D H_52 11 a0 7).toInt := congrArg Int32.toInt (Pa.f P14 (ne_role ga0 g12 (by decide)))
              refine lv_aload_n hx hb dX12_law_92 rfl (lv_at hl 2 rfl) ?_
              refine lv_iconst (v := 0) hx hb dX12_law_93 (by decide) ?_
              refine q_put (T := TX12) C S14 ga0 7 kF_X12_46 dX12_law_94 rfl rfl (by decide) (by decide) rfl rfl rfl rfl rfl (vok_i rfl (by omega) (by omega)) (by decide +kernel) (fun H15 L15 S15 P15 => ?_)
              have y15_9 : (fI D H15 11 a0 9).toInt = (fI D H14 11 a0 9).toInt := congrArg Int32.toInt (Pt.o P15 (by decide) (by decide))
              have y15_0 : (fI D H15 11 a0 0).toInt = (fI D H14 11 a0 0).toInt := congrArg Int32.toInt (Pt.o P15 (by decide) (by decide))
              have y15_14 : (fI D H15 11 a0 14).toInt = (fI D H14 11 a0 14).toInt := congrArg Int32.toInt (Pt.o P15 (by decide) (by decide))
              have y15_7 : (fI D H15 11 a0 7).toInt = (0 : Int32).toInt := congrArg Int32.toInt (Pt.i P15)
              have lq15 : Lq D H14 H15 a0 := Lq.put S14.1 ga0 P15 (by decide) (by decide)
              refine lv_iload_n hx hb dX12_law_97 rfl (lv_at hl 1 rfl) ?_
              exact retE_i hQ C S15 hr dX12_law_98 (⟨⟨by omega, by omega⟩, Or.inl ⟨by omega, fqa.1.elim (fun h9 => h9.2.1) (fun h9 => absurd h9.1 (by omega)), fqa.1.elim (fun h9 => by have z9 := h9.2.2; omega) (fun h9 => absurd h9.1 (by omega)), by omega⟩⟩)
            · have b10 : ¬ (849 : Int32).toInt ≤ x2_52.toInt := fun z9 => c10 (i_le.mpr z9)
              refine lv_aload_n hx hb dX12_law_59 rfl (lv_at hl 2 rfl) ?_
              refine q_grB (T := TX12) C S9.1 (cp_52.2.1 a0 (ne_role ga0 gd_52 (by decide))) ga0 1 kF_X12_13 dX12_law_60 rfl rfl (by decide) rfl (by decide) rfl ?_
              refine lv_sipush (v := 354) hx hb dX12_law_63 (by decide) ?_
              refine lv_iload_n hx hb dX12_law_66 rfl (lv_at hl 0 rfl) ?_
              have k_354 : (354 : Int32).toInt = 354 := by decide
              refine lv_iadd hx hb dX12_law_67 ?_
              refine lv_topi (fun v16 ev16 => ?_)
              have f17 : v16.toInt = (354 : Int32).toInt + x2_52.toInt := by rw [ev16]; exact i_add (by omega) (by omega)
              refine lv_aload_n hx hb dX12_law_68 rfl (lv_at hl 2 rfl) ?_
              refine q_grB (T := TX12) C S9.1 (cp_52.2.1 a0 (ne_role ga0 gd_52 (by decide))) ga0 1 kF_X12_13 dX12_law_69 rfl rfl (by decide) rfl (by decide) rfl ?_
              refine lv_sipush (v := 1203) hx hb dX12_law_72 (by decide) ?_
              refine lv_iload_n hx hb dX12_law_75 rfl (lv_at hl 0 rfl) ?_
              refine lv_iadd hx hb dX12_law_76 ?_
              refine lv_topi (fun v18 ev18 => ?_)
              have f19 : v18.toInt = (1203 : Int32).toInt + x2_52.toInt := by rw [ev18]; exact i_add (by omega) (by omega)
              refine q_iaB C cp_52.1 (v := fd_52 v18.toInt.toNat) (by omega) (by omega) (by unfold mix; rw [if_neg (by omega)]) dX12_law_77 ?_
              refine q_isB C cp_52.1 (by omega) (by omega) dX12_law_78 (fun H21 e121 e221 e321 => ?_)
              have cq21 := Cp.step cp_52 e121 e221 e321 (by omega) (by exact congrArg fd_52 (by omega)) (by rw [gd_52]; decide)
              obtain ⟨v22, ev22⟩ : ∃ y : Int32, y = x2_52 + (1) := ⟨_, rfl⟩
              have f23 : v22.toInt = x2_52.toInt + (1) := by rw [ev22]; exact i_addc k_1 (by omega) (by omega)
              refine lv_iinc (v := v22) (lv' := [(2, .int v22), (1, .int v1), (0, .ref a0)]) hx hb dX12_law_79 hl (k := 0) rfl (by rw [ev22]; rfl) (by decide) rfl (fun ls hl => ?_)
              refine lv_goto (tgt := 52) hx hb dX12_law_82 (by decide) ?_
              exact ih52 v22 H21 _ ls (by rw [show v22.toInt.toNat = x2_52.toInt.toNat + 1 by omega]; exact cq21) ⟨by omega, by omega⟩ (by omega) (lv_sub hl [0, 1, 2] rfl)
        exact Lp52 850 (0 : Int32) H9 L9 ls (Cp.start S9 d1_52) ⟨by omega, by omega⟩ (by omega) (lv_sub hl [0, 1, 2] rfl)
      · have b6 : ¬ v5.toInt = (0 : Int32).toInt := fun z9 => c6 (i_eq.mpr z9)
        exact absurd b6 (by omega)
    · have b4 : ¬ (0 : Int32).toInt ≤ v1.toInt := fun z9 => c4 (i_le.mpr z9)
      exact absurd b4 (by omega)
  · have b2 : ¬ (0 : Int32).toInt ≤ v1.toInt := fun z9 => c2 (i_le.mpr z9)
    refine lv_aload_n hx hb dX12_law_11 rfl (lv_at hl 1 rfl) ?_
    refine q_gi (T := TX12) C S1.1 ga0 12 kF_X12_87 dX12_law_12 rfl rfl (by decide) rfl (by decide) rfl ?_
    have r24 : 0 ≤ (fI D H1 11 a0 12).toInt ∧ (fI D H1 11 a0 12).toInt ≤ 400 := S1.1.rng ga0 rfl (by decide) rfl
    refine lv_goto (tgt := 19) hx hb dX12_law_15 (by decide) ?_
    refine q_put (T := TX12) C S1 ga0 14 kF_X12_33 dX12_law_19 rfl rfl (by decide) (by decide) rfl rfl rfl rfl rfl (vok_a rfl) (by decide +kernel) (fun H25 L25 S25 P25 => ?_)
    have y25_9 : (fI D H25 11 a0 9).toInt = (fI D H1 11 a0 9).toInt := congrArg Int32.toInt (Pt.o P25 (by decide) (by decide))
    have y25_0 : (fI D H25 11 a0 0).toInt = (fI D H1 11 a0 0).toInt := congrArg Int32.toInt (Pt.o P25 (by decide) (by decide))
    have y25_14 : (fI D H25 11 a0 14).toInt = (fI D H1 11 a0 12).toInt := congrArg Int32.toInt (Pt.i P25)
    have y25_7 : (fI D H25 11 a0 7).toInt = (fI D H1 11 a0 7).toInt := congrArg Int32.toInt (Pt.o P25 (by decide) (by decide))
    have lq25 : Lq D H1 H25 a0 := Lq.put S1.1 ga0 P25 (by decide) (by decide)
    refine lv_aload_n hx hb dX12_law_22 rfl (lv_at hl 1 rfl) ?_
    refine lv_iload_n hx hb dX12_law_23 rfl (lv_at hl 0 rfl) ?_
    refine lv_if_ge (tgt := 31) hx hb dX12_law_24 (by decide) (fun c26 => ?_) (fun c26 => ?_)
    · have b26 : (0 : Int32).toInt ≤ v1.toInt := i_le.mp c26
      exact absurd b26 (by omega)
    · have b26 : ¬ (0 : Int32).toInt ≤ v1.toInt := fun z9 => c26 (i_le.mpr z9)
      refine lv_iconst (v := 1) hx hb dX12_law_27 (by decide) ?_
      refine lv_goto (tgt := 32) hx hb dX12_law_28 (by decide) ?_
      refine lv_iconst (v := 1) hx hb dX12_law_32 (by decide) ?_
      have k_1 : (1 : Int32).toInt = 1 := by decide
      refine callV_Ei C S25 (c_X12_throwsIf_f l D G a0 (1 : Int32) (1 : Int32) ga0 (by omega)) kV_X12_246 ga0 (trivial) (by decide +kernel) dX12_law_33 hl.1 rfl rfl (by decide) cd_X12_throwsIf ⟨Nat.le_of_ble_eq_true rfl, Nat.le_of_ble_eq_true rfl, Nat.le_of_ble_eq_true rfl, Nat.le_of_ble_eq_true rfl, Nat.le_of_ble_eq_true rfl⟩ (fun v27 H27 L27 S27 K27 q27 => ?_)
      have y27_9 : (fI D H27 11 a0 9).toInt = (fI D H25 11 a0 9).toInt := congrArg Int32.toInt (K27.fI ga0 rfl (by decide) (by decide +kernel))
      have y27_14 : (fI D H27 11 a0 14).toInt = (fI D H25 11 a0 14).toInt := congrArg Int32.toInt (K27.fI ga0 rfl (by decide) (by decide +kernel))
      have y27_7 : (fI D H27 11 a0 7).toInt = (fI D H25 11 a0 7).toInt := congrArg Int32.toInt (K27.fI ga0 rfl (by decide) (by decide +kernel))
      have lq27 : Lq D H25 H27 a0 := Lq.keep S25.1 ga0 K27 (by decide +kernel) (by decide +kernel) (by decide +kernel)
      refine lv_if_eq (tgt := 41) hx hb dX12_law_36 (by decide) (fun c28 => ?_) (fun c28 => ?_)
      · have b28 : v27.toInt = (0 : Int32).toInt := i_eq.mp c28
        exact absurd b28 (by omega)
      · have b28 : ¬ v27.toInt = (0 : Int32).toInt := fun z9 => c28 (i_eq.mpr z9)
        refine lv_iconst (v := 0) hx hb dX12_law_39 (by decide) ?_
        exact retE_i hQ C S27 hr dX12_law_40 (⟨⟨by omega, by omega⟩, Or.inr ⟨by omega, fqa.1.elim (fun h9 => absurd h9.1 (by omega)) (fun h9 => h9.2.1), fqa.1.elim (fun h9 => absurd h9.1 (by omega)) (fun h9 => by have z9 := h9.2.2; omega)⟩⟩)
