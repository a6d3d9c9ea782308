
theorem tM_kp {D : DD} {G : Nat → Nat} {E : List (Nat × Nat)} {H H1 : Heap} {a : Nat} (hO : Ok D G H) (ga : G a = 30) (K : Keep D G E H H1) (h8 : (30, 8) ∉ E) (h9 : (30, 9) ∉ E) (h36 : (36, 0) ∉ E) : tM D H1 a = tM D H a := by
  have e0 : fR D H1 11 a 8 = fR D H 11 a 8 := K.fR ga rfl (by decide) h8
  have gb : G (fR D H 11 a 8) = 36 := hO.rol ga rfl (by decide) rfl
  unfold tM
  rw [e0, K.fI ga rfl (by decide) h9]
  refine Prod.ext (funext fun i => ?_) rfl
  show nrm (eI H1 (fR D H 11 a 8) i).toInt = _
  rw [show eI H1 (fR D H 11 a 8) i = eI H (fR D H 11 a 8) i from congrArg vI (eV_of (K.c gb rfl h36) i)]
set_option maxRecDepth 100000 in
set_option maxHeartbeats 4000000 in
theorem c_X12_parish_v (l : Launch) (D : DD) (G : Nat → Nat) (a0 : Nat) (V : Sg) (K : Sg) (T : Tx) (ga0 : G a0 = 30) : CE l D G yX12_parish cX12_parish 3 (some .int) 31 [.ref a0] (fun H => (True) ∧ (tM D H a0 = T ∧ MI D H a0 V K ∧ PV V)) [(33, 0), (30, 14), (30, 0), (30, 7), (30, 9), (30, 10), (30, 11), (30, 12), (30, 16), (31, 0), (30, 13), (31, 1)] (xI (fun H r H1 => ((fI D H1 11 a0 9).toInt = 0) ∧ (((fI D H1 11 a0 9).toInt = 0) ∧ (((fI D H1 11 a0 0).toInt = 0 ∧ (parF T V).1 = true ∧ V 2 ≠ 12 ∧ r.toInt = V 2 + 1 ∧ (fI D H1 11 a0 14).toInt = -1 ∧ MI D H1 a0 (sup (parF T V).2.2 2 (V 2 + 1)) K) ∨ ((fI D H1 11 a0 0).toInt = 1 ∧ (parF T V).1 = false ∧ (fI D H1 11 a0 14).toInt = (((parF T V).2.1 : Nat) : Int) ∧ MI D H1 a0 V K) ∨ ((fI D H1 11 a0 0).toInt = 2 ∧ (parF T V).1 = true ∧ V 2 = 12 ∧ (fI D H1 11 a0 14).toInt = -1 ∧ MI D H1 a0 V K))))) := by
  refine enter (by decide) (Nat.le_of_ble_eq_true rfl) ?_
  intro p e s m args below meth c ls Q hA hQ C hr hO hpre hl
  have hx := C.1
  have hb := C.2.1
  have S : Sd D G [(33, 0), (30, 14), (30, 0), (30, 7), (30, 9), (30, 10), (30, 11), (30, 12), (30, 16), (31, 0), (30, 13), (31, 1)] s.heap s.heap [] := Sd.start hO
  have hl : lv_has ls 3 [(0, .ref a0)] := hl
  obtain ⟨hpre, hf⟩ := hpre
  obtain ⟨hTM, hmi, hpv⟩ := hf
  have hT : T.2 ≤ 400 := by rw [← hTM]; exact tM_le hO ga0
  refine lv_iconst (v := 0) hx hb dX12_parish_0 (by decide) ?_
  refine lv_istore_n (lv' := [(1, .int (0 : Int32)), (0, .ref a0)]) hx hb dX12_parish_1 rfl hl (by decide) rfl (fun ls hl => ?_)
  have gd_2 : G (fR D s.heap 11 a0 3) = 33 := S.1.rol ga0 rfl (by decide) rfl
  obtain ⟨fd_2, d1_2, d2_2, d3_2, d4_2⟩ := S.1.ia gd_2 rfl
  rw [len_33 S.1 gd_2] at d1_2 d2_2 d3_2 d4_2
  have gs_2 : G (fR D s.heap 11 a0 1) = 31 := S.1.rol ga0 rfl (by decide) rfl
  obtain ⟨fs_2, s1_2, s2_2, s3_2, s4_2⟩ := S.1.ia gs_2 rfl
  rw [len_31 S.1 gs_2] at s1_2 s2_2 s3_2 s4_2
  have Lp2 : ∀ (n : Nat) (x1_2 : Int32) (H_2 : Heap) (L_2 : List Loc) (ls : Array Slot), (Cp D G s.heap H_2 L_2 (fR D s.heap 11 a0 3) 1203 fd_2 fs_2 0 0 x1_2.toInt.toNat) → (0 ≤ x1_2.toInt ∧ x1_2.toInt ≤ 1203) → 1204 - x1_2.toInt ≤ (n : Int) → lv_has ls 3 [(1, .int x1_2), (0, .ref a0)] → W p l e (rmU 31 0 0) s m args below meth c H_2 L_2 0 0 Q (F0 m 2 ls []) := by
    intro n
    induction n with
    | zero =>
      intro x1_2 H_2 L_2 ls cp_2 j2 hn hl
      exact absurd hn (by omega)
    | succ n ih2 =>
      intro x1_2 H_2 L_2 ls cp_2 j2 hn hl
      refine lv_iload_n hx hb dX12_parish_2 rfl (lv_at hl 0 rfl) ?_
      refine lv_sipush (v := 1203) hx hb dX12_parish_3 (by decide) ?_
      have k_1203 : (1203 : Int32).toInt = 1203 := by decide
      refine lv_icmp_ge (tgt := 27) hx hb dX12_parish_6 (by decide) (fun c1 => ?_) (fun c1 => ?_)
      · have b1 : (1203 : Int32).toInt ≤ x1_2.toInt := i_le.mp c1
        have ck2 : x1_2.toInt.toNat = 1203 := by omega
        rw [ck2] at cp_2
        have S2 : Sd D G [(33, 0), (30, 14), (30, 0), (30, 7), (30, 9), (30, 10), (30, 11), (30, 12), (30, 16), (31, 0), (30, 13), (31, 1)] s.heap H_2 L_2 := Cp.done S cp_2 gd_2 rfl (by decide) (by decide +kernel) (by decide) (⟨rfl, mix_low s3_2.2⟩)
        have y2_9 : (fI D H_2 11 a0 9).toInt = (fI D s.heap 11 a0 9).toInt := congrArg Int32.toInt (congrArg vI (fV_of (cp_2.2.1 a0 (ne_role ga0 gd_2 (by decide))) 11 9))
        have y2_0 : (fI D H_2 11 a0 0).toInt = (fI D s.heap 11 a0 0).toInt := congrArg Int32.toInt (congrArg vI (fV_of (cp_2.2.1 a0 (ne_role ga0 gd_2 (by decide))) 11 0))
        have y2_14 : (fI D H_2 11 a0 14).toInt = (fI D s.heap 11 a0 14).toInt := congrArg Int32.toInt (congrArg vI (fV_of (cp_2.2.1 a0 (ne_role ga0 gd_2 (by decide))) 11 14))
        have hcp1 : ∀ j : Nat, j < 354 → eI H_2 (fR D s.heap 11 a0 3) j = eI s.heap (fR D s.heap 11 a0 1) j := fun j hj => by rw [Cp.e cp_2 (by omega), mx0 (by omega), ← s4_2 _ (by omega)]
        have SQ := S2
        have ne1 : a0 ≠ fR D s.heap 11 a0 3 := ne_role ga0 gd_2 (by decide)
        have kn1 := Cp.keepn cp_2 gd_2 rfl (by decide) (by decide)
        have mi1 := hmi.keep hO ga0 kn1 (by decide)
        have mf1 := MF.of hmi hcp1 (Cp.f cp_2 ne1 3).1
        have mr1 : MR D H_2 a0 V K := mi1.2
        have tM1 := (tM_kp hO ga0 kn1 (by decide) (by decide) (by decide)).trans hTM
        refine lv_aload_n hx hb dX12_parish_27 rfl (lv_at hl 1 rfl) ?_
        refine lv_iconst (v := 1) hx hb dX12_parish_28 (by decide) ?_
        have k_1 : (1 : Int32).toInt = 1 := by decide
        refine callV_Ei C S2 (c_X12_readAll_tf l D G a0 (1 : Int32) V T ga0 (by omega)) kV_X12_242 ga0 (⟨trivial, tM1, mi1.1, hpv⟩) (by decide +kernel) dX12_parish_29 hl.1 rfl rfl (by decide) cd_X12_readAll ⟨Nat.le_of_ble_eq_true rfl, Nat.le_of_ble_eq_true rfl, Nat.le_of_ble_eq_true rfl, Nat.le_of_ble_eq_true rfl, Nat.le_of_ble_eq_true rfl⟩ (fun v3 H3 L3 S3 K3 q3 => ?_)
        obtain ⟨q3, fq3⟩ := q3
        obtain ⟨q3, tz3⟩ := q3
        have y3_14 : (fI D H3 11 a0 14).toInt = (fI D H_2 11 a0 14).toInt := congrArg Int32.toInt (K3.fI ga0 rfl (by decide) (by decide +kernel))
        have mf3 := mf1.keep S2.1 ga0 K3
        have mr3 := mr1.keep S2.1 ga0 K3
        obtain ⟨fq3, th3⟩ := fq3
        rcases fq3 with ⟨z3, c3, s3, y3, mv3, pv3⟩ | ⟨z3, e3, s3, y3, bg3⟩
        · skip
          refine lv_istore_n (lv' := [(1, .int v3), (0, .ref a0)]) hx hb dX12_parish_32 rfl hl (by decide) rfl (fun ls hl => ?_)
          refine lv_aload_n hx hb dX12_parish_33 rfl (lv_at hl 1 rfl) ?_
          refine lv_iload_n hx hb dX12_parish_34 rfl (lv_at hl 0 rfl) ?_
          have k_0 : (0 : Int32).toInt = 0 := by decide
          refine lv_if_ge (tgt := 45) hx hb dX12_parish_35 (by decide) (fun c4 => ?_) (fun c4 => ?_)
          · have b4 : (0 : Int32).toInt ≤ v3.toInt := i_le.mp c4
            refine lv_iconst (v := -1) hx hb dX12_parish_45 (by decide) ?_
            have k_m1 : (-1 : Int32).toInt = -1 := by decide
            refine q_put (T := TX12) C S3 ga0 14 kF_X12_33 dX12_parish_46 rfl rfl (by decide) (by decide) rfl rfl rfl rfl rfl (vok_a rfl) (by decide +kernel) (fun H5 L5 S5 P5 => ?_)
            have y5_9 : (fI D H5 11 a0 9).toInt = (fI D H3 11 a0 9).toInt := congrArg Int32.toInt (Pt.o P5 (by decide) (by decide))
            have y5_0 : (fI D H5 11 a0 0).toInt = (fI D H3 11 a0 0).toInt := congrArg Int32.toInt (Pt.o P5 (by decide) (by decide))
            have y5_14 : (fI D H5 11 a0 14).toInt = (-1 : Int32).toInt := congrArg Int32.toInt (Pt.i P5)
            have mv5 := mv3.keep S3.1 ga0 (Pt.keep ga0 rfl (by decide) P5) (by decide) (by decide)
            have mf5 := mf3.keep S3.1 ga0 (Pt.keep ga0 rfl (by decide) P5)
            have mr5 := mr3.keep S3.1 ga0 (Pt.keep ga0 rfl (by decide) P5)
            refine lv_aload_n hx hb dX12_parish_49 rfl (lv_at hl 1 rfl) ?_
            refine lv_iload_n hx hb dX12_parish_50 rfl (lv_at hl 0 rfl) ?_
            refine lv_if_ge (tgt := 58) hx hb dX12_parish_51 (by decide) (fun c6 => ?_) (fun c6 => ?_)
            · have b6 : (0 : Int32).toInt ≤ v3.toInt := i_le.mp c6
              refine lv_iconst (v := 0) hx hb dX12_parish_58 (by decide) ?_
              refine lv_iconst (v := 1) hx hb dX12_parish_59 (by decide) ?_
              refine callV_Ei C S5 (c_X12_throwsIf_f l D G a0 (0 : Int32) (1 : Int32) ga0 (by omega)) kV_X12_246 ga0 (trivial) (by decide +kernel) dX12_parish_60 hl.1 rfl rfl (by decide) cd_X12_throwsIf ⟨Nat.le_of_ble_eq_true rfl, Nat.le_of_ble_eq_true rfl, Nat.le_of_ble_eq_true rfl, Nat.le_of_ble_eq_true rfl, Nat.le_of_ble_eq_true rfl⟩ (fun v7 H7 L7 S7 K7 q7 => ?_)
              have y7_9 : (fI D H7 11 a0 9).toInt = (fI D H5 11 a0 9).toInt := congrArg Int32.toInt (K7.fI ga0 rfl (by decide) (by decide +kernel))
              have y7_14 : (fI D H7 11 a0 14).toInt = (fI D H5 11 a0 14).toInt := congrArg Int32.toInt (K7.fI ga0 rfl (by decide) (by decide +kernel))
              have mv7 := mv5.keep S5.1 ga0 K7 (by decide +kernel) (by decide +kernel)
              have mf7 := mf5.keep S5.1 ga0 K7
              have mr7 := mr5.keep S5.1 ga0 K7
              refine lv_if_ne (tgt := 90) hx hb dX12_parish_63 (by decide) (fun c8 => ?_) (fun c8 => ?_)
              · have b8 : ¬ v7.toInt = (0 : Int32).toInt := fun z9 => c8 (i_eq.mpr z9)
                exact absurd b8 (by omega)
              · have b8 : v7.toInt = (0 : Int32).toInt := i_eq.mp c8
                refine lv_aload_n hx hb dX12_parish_66 rfl (lv_at hl 1 rfl) ?_
                refine lv_aload_n hx hb dX12_parish_67 rfl (lv_at hl 1 rfl) ?_
                refine q_gr (T := TX12) C S7.1 ga0 1 kF_X12_13 dX12_parish_68 rfl rfl (by decide) rfl (by decide) rfl (fun g9 => ?_)
                refine lv_iconst (v := 2) hx hb dX12_parish_71 (by decide) ?_
                have n10 : aN H7 (fR D H7 11 a0 1) = 2052 := len_31 S7.1 g9
                have k_2 : (2 : Int32).toInt = 2 := by decide
                refine q_iald C S7.1 g9 (by omega) (by omega) dX12_parish_72 rfl (by decide) ?_
                refine lv_topi (fun v11 ev11 => ?_)
                have tx12 : v11.toInt = (eI H7 (fR D H7 11 a0 1) 2).toInt := by rw [ev11]; rfl
                have tx12 := tx12.trans (mv_2 mv7)
                refine lv_bipush (v := 12) hx hb dX12_parish_73 (by decide) ?_
                have k_12 : (12 : Int32).toInt = 12 := by decide
                refine lv_icmp_ne (tgt := 82) hx hb dX12_parish_75 (by decide) (fun c12 => ?_) (fun c12 => ?_)
                · have b12 : ¬ v11.toInt = (12 : Int32).toInt := fun z9 => c12 (i_eq.mpr z9)
                  refine lv_iconst (v := 0) hx hb dX12_parish_82 (by decide) ?_
                  refine lv_iconst (v := 2) hx hb dX12_parish_83 (by decide) ?_
                  refine callV_Ei C S7 (c_X12_throwsIf_f l D G a0 (0 : Int32) (2 : Int32) ga0 (by omega)) kV_X12_246 ga0 (trivial) (by decide +kernel) dX12_parish_84 hl.1 rfl rfl (by decide) cd_X12_throwsIf ⟨Nat.le_of_ble_eq_true rfl, Nat.le_of_ble_eq_true rfl, Nat.le_of_ble_eq_true rfl, Nat.le_of_ble_eq_true rfl, Nat.le_of_ble_eq_true rfl⟩ (fun v13 H13 L13 S13 K13 q13 => ?_)
                  have y13_9 : (fI D H13 11 a0 9).toInt = (fI D H7 11 a0 9).toInt := congrArg Int32.toInt (K13.fI ga0 rfl (by decide) (by decide +kernel))
                  have y13_14 : (fI D H13 11 a0 14).toInt = (fI D H7 11 a0 14).toInt := congrArg Int32.toInt (K13.fI ga0 rfl (by decide) (by decide +kernel))
                  have mv13 := mv7.keep S7.1 ga0 K13 (by decide +kernel) (by decide +kernel)
                  have mf13 := mf7.keep S7.1 ga0 K13
                  have mr13 := mr7.keep S7.1 ga0 K13
                  refine lv_if_eq (tgt := 119) hx hb dX12_parish_87 (by decide) (fun c14 => ?_) (fun c14 => ?_)
                  · have b14 : v13.toInt = (0 : Int32).toInt := i_eq.mp c14
                    refine lv_aload_n hx hb dX12_parish_119 rfl (lv_at hl 1 rfl) ?_
                    refine q_gr (T := TX12) C S13.1 ga0 1 kF_X12_13 dX12_parish_120 rfl rfl (by decide) rfl (by decide) rfl (fun g15 => ?_)
                    refine lv_iconst (v := 2) hx hb dX12_parish_123 (by decide) ?_
                    refine lv_dup2_11 hx hb dX12_parish_124 rfl rfl ?_
                    have n16 : aN H13 (fR D H13 11 a0 1) = 2052 := len_31 S13.1 g15
                    refine q_iald C S13.1 g15 (by omega) (by omega) dX12_parish_125 rfl (by decide) ?_
                    refine lv_topi (fun v17 ev17 => ?_)
                    have tq9 : v17.toInt = (eI H13 (fR D H13 11 a0 1) 2).toInt := by rw [ev17]; rfl
                    refine lv_iconst (v := 1) hx hb dX12_parish_126 (by decide) ?_
                    refine lv_iadd hx hb dX12_parish_127 ?_
                    refine lv_topi (fun v18 ev18 => ?_)
                    have tv : v18.toInt = s3 2 + 1 := up12 ev18 (tq9.trans (mv_2 mv13)) (by have z8 := (par_2 hpv y3).1; have z7 := hpv.2.2.2; have z6 := tx12; omega)
                    refine q_iast C S13 g15 (by omega) (by omega) dX12_parish_128 rfl (by decide) (by decide +kernel) (fun _ _ h => wk_low _ _ (by omega) (fun h9 => by omega) (fun h9 => by omega) (fun h9 => by omega) (fun j hj h9 => by omega) h) (fun H19 L19 S19 P19 => ?_) (hs := fun _ => Or.inl (by decide +kernel))
                    have y19_9 : (fI D H19 11 a0 9).toInt = (fI D H13 11 a0 9).toInt := congrArg Int32.toInt (Pa.f P19 (ne_role ga0 g15 (by decide)))
                    have y19_0 : (fI D H19 11 a0 0).toInt = (fI D H13 11 a0 0).toInt := congrArg Int32.toInt (Pa.f P19 (ne_role ga0 g15 (by decide)))
                    have y19_14 : (fI D H19 11 a0 14).toInt = (fI D H13 11 a0 14).toInt := congrArg Int32.toInt (Pa.f P19 (ne_role ga0 g15 (by decide)))
                    have mv19 := MV.ast mv13 S13.1 ga0 rfl P19 (k := 2) (by decide) (by first | rfl | (show _ = 2; omega))
                    have mr19 := mr13.ast S13.1 ga0 rfl P19
                    refine lv_aload_n hx hb dX12_parish_129 rfl (lv_at hl 1 rfl) ?_
                    refine lv_iconst (v := 0) hx hb dX12_parish_130 (by decide) ?_
                    refine q_put (T := TX12) C S19 ga0 7 kF_X12_46 dX12_parish_131 rfl rfl (by decide) (by decide) rfl rfl rfl rfl rfl (vok_i rfl (by omega) (by omega)) (by decide +kernel) (fun H20 L20 S20 P20 => ?_)
                    have y20_9 : (fI D H20 11 a0 9).toInt = (fI D H19 11 a0 9).toInt := congrArg Int32.toInt (Pt.o P20 (by decide) (by decide))
                    have y20_0 : (fI D H20 11 a0 0).toInt = (fI D H19 11 a0 0).toInt := congrArg Int32.toInt (Pt.o P20 (by decide) (by decide))
                    have y20_14 : (fI D H20 11 a0 14).toInt = (fI D H19 11 a0 14).toInt := congrArg Int32.toInt (Pt.o P20 (by decide) (by decide))
                    have mv20 := mv19.keep S19.1 ga0 (Pt.keep ga0 rfl (by decide) P20) (by decide) (by decide)
                    have mr20 := MR.none (V1 := (sup s3 2 v18.toInt)) mr19 S19.1 ga0 P20 (by decide)
                    refine lv_aload_n hx hb dX12_parish_134 rfl (lv_at hl 1 rfl) ?_
                    refine q_gr (T := TX12) C S20.1 ga0 1 kF_X12_13 dX12_parish_135 rfl rfl (by decide) rfl (by decide) rfl (fun g21 => ?_)
                    refine lv_iconst (v := 2) hx hb dX12_parish_138 (by decide) ?_
                    have n22 : aN H20 (fR D H20 11 a0 1) = 2052 := len_31 S20.1 g21
                    refine q_iald C S20.1 g21 (by omega) (by omega) dX12_parish_139 rfl (by decide) ?_
                    refine lv_topi (fun v23 ev23 => ?_)
                    have tr9 : v23.toInt = (eI H20 (fR D H20 11 a0 1) 2).toInt := by rw [ev23]; rfl
                    exact retE_i hQ C S20 hr dX12_parish_140 (⟨by omega, ⟨by omega, Or.inl ⟨by omega, by rw [y3], by have z8 := (par_2 hpv y3).1; have z9 := tx12; omega, by have z8 := (par_2 hpv y3).1; have z9 := (mv_2 mv20).trans (sup_s _ _ _); omega, by omega, by rw [y3, ← (par_2 hpv y3).1, ← tv]; exact ⟨mv20, mr20⟩⟩⟩⟩)
                  · have b14 : ¬ v13.toInt = (0 : Int32).toInt := fun z9 => c14 (i_eq.mpr z9)
                    exact absurd b14 (by omega)
                · have b12 : v11.toInt = (12 : Int32).toInt := i_eq.mp c12
                  refine lv_iconst (v := 1) hx hb dX12_parish_78 (by decide) ?_
                  refine lv_goto (tgt := 83) hx hb dX12_parish_79 (by decide) ?_
                  refine lv_iconst (v := 2) hx hb dX12_parish_83 (by decide) ?_
                  refine callV_Ei C S7 (c_X12_throwsIf_f l D G a0 (1 : Int32) (2 : Int32) ga0 (by omega)) kV_X12_246 ga0 (trivial) (by decide +kernel) dX12_parish_84 hl.1 rfl rfl (by decide) cd_X12_throwsIf ⟨Nat.le_of_ble_eq_true rfl, Nat.le_of_ble_eq_true rfl, Nat.le_of_ble_eq_true rfl, Nat.le_of_ble_eq_true rfl, Nat.le_of_ble_eq_true rfl⟩ (fun v24 H24 L24 S24 K24 q24 => ?_)
                  have y24_9 : (fI D H24 11 a0 9).toInt = (fI D H7 11 a0 9).toInt := congrArg Int32.toInt (K24.fI ga0 rfl (by decide) (by decide +kernel))
                  have y24_14 : (fI D H24 11 a0 14).toInt = (fI D H7 11 a0 14).toInt := congrArg Int32.toInt (K24.fI ga0 rfl (by decide) (by decide +kernel))
                  have mv24 := mv7.keep S7.1 ga0 K24 (by decide +kernel) (by decide +kernel)
                  have mf24 := mf7.keep S7.1 ga0 K24
                  have mr24 := mr7.keep S7.1 ga0 K24
                  refine lv_if_eq (tgt := 119) hx hb dX12_parish_87 (by decide) (fun c25 => ?_) (fun c25 => ?_)
                  · have b25 : v24.toInt = (0 : Int32).toInt := i_eq.mp c25
                    exact absurd b25 (by omega)
                  · have b25 : ¬ v24.toInt = (0 : Int32).toInt := fun z9 => c25 (i_eq.mpr z9)
                    refine lv_iconst (v := 0) hx hb dX12_parish_90 (by decide) ?_
                    refine lv_istore_n (lv' := [(2, .int (0 : Int32)), (1, .int v3), (0, .ref a0)]) hx hb dX12_parish_91 rfl hl (by decide) rfl (fun ls hl => ?_)
                    have gd_92 : G (fR D H24 11 a0 1) = 31 := S24.1.rol ga0 rfl (by decide) rfl
                    obtain ⟨fd_92, d1_92, d2_92, d3_92, d4_92⟩ := S24.1.ia gd_92 rfl
                    rw [len_31 S24.1 gd_92] at d1_92 d2_92 d3_92 d4_92
                    have gs_92 : G (fR D H24 11 a0 3) = 33 := S24.1.rol ga0 rfl (by decide) rfl
                    obtain ⟨fs_92, s1_92, s2_92, s3_92, s4_92⟩ := S24.1.ia gs_92 rfl
                    rw [len_33 S24.1 gs_92] at s1_92 s2_92 s3_92 s4_92
                    have Lp92 : ∀ (n : Nat) (x2_92 : Int32) (H_92 : Heap) (L_92 : List Loc) (ls : Array Slot), (Cp D G H24 H_92 L_92 (fR D H24 11 a0 1) 2052 fd_92 fs_92 0 0 x2_92.toInt.toNat) → (0 ≤ x2_92.toInt ∧ x2_92.toInt ≤ 1203) → 1204 - x2_92.toInt ≤ (n : Int) → lv_has ls 3 [(2, .int x2_92), (0, .ref a0)] → W p l e (rmU 31 0 0) s m args below meth c H_92 L_92 0 0 Q (F0 m 92 ls []) := by
                      intro n
                      induction n with
                      | zero =>
                        intro x2_92 H_92 L_92 ls cp_92 j92 hn hl
                        exact absurd hn (by omega)
                      | succ n ih92 =>
                        intro x2_92 H_92 L_92 ls cp_92 j92 hn hl
                        refine lv_iload_n hx hb dX12_parish_92 rfl (lv_at hl 0 rfl) ?_
                        refine lv_sipush (v := 1203) hx hb dX12_parish_93 (by decide) ?_
                        refine lv_icmp_ge (tgt := 117) hx hb dX12_parish_96 (by decide) (fun c26 => ?_) (fun c26 => ?_)
                        · have b26 : (1203 : Int32).toInt ≤ x2_92.toInt := i_le.mp c26
                          have ck27 : x2_92.toInt.toNat = 1203 := by omega
                          rw [ck27] at cp_92
                          have S27 : Sd D G [(33, 0), (30, 14), (30, 0), (30, 7), (30, 9), (30, 10), (30, 11), (30, 12), (30, 16), (31, 0), (30, 13), (31, 1)] s.heap H_92 L_92 := Cp.done S24 cp_92 gd_92 rfl (by decide) (by decide +kernel) (by decide) (⟨rfl, mix_low s3_92.2⟩)
                          have y27_9 : (fI D H_92 11 a0 9).toInt = (fI D H24 11 a0 9).toInt := congrArg Int32.toInt (congrArg vI (fV_of (cp_92.2.1 a0 (ne_role ga0 gd_92 (by decide))) 11 9))
                          have y27_0 : (fI D H_92 11 a0 0).toInt = (fI D H24 11 a0 0).toInt := congrArg Int32.toInt (congrArg vI (fV_of (cp_92.2.1 a0 (ne_role ga0 gd_92 (by decide))) 11 0))
                          have y27_14 : (fI D H_92 11 a0 14).toInt = (fI D H24 11 a0 14).toInt := congrArg Int32.toInt (congrArg vI (fV_of (cp_92.2.1 a0 (ne_role ga0 gd_92 (by decide))) 11 14))
                          have ne2 : a0 ≠ fR D H24 11 a0 1 := ne_role ga0 gd_92 (by decide)
                          have mvb := MF.back mf24 (fun j hj => by rw [Cp.e cp_92 (by omega), mx0 (by omega), ← s4_92 _ (by omega)]) (Cp.f cp_92 ne2 1).1
                          have mrb := mr24.keep S24.1 ga0 (Cp.keepw cp_92 gd_92 rfl (by decide))
                          refine lv_iconst (v := 0) hx hb dX12_parish_117 (by decide) ?_
                          exact retE_i hQ C S27 hr dX12_parish_118 (⟨by omega, ⟨by omega, Or.inr (Or.inr ⟨by omega, by rw [y3], by have z8 := (par_2 hpv y3).1; have z9 := tx12; omega, by omega, mvb, mrb⟩)⟩⟩)
                        · have b26 : ¬ (1203 : Int32).toInt ≤ x2_92.toInt := fun z9 => c26 (i_le.mpr z9)
                          refine lv_aload_n hx hb dX12_parish_99 rfl (lv_at hl 1 rfl) ?_
                          refine q_grB (T := TX12) C S24.1 (cp_92.2.1 a0 (ne_role ga0 gd_92 (by decide))) ga0 1 kF_X12_13 dX12_parish_100 rfl rfl (by decide) rfl (by decide) rfl ?_
                          refine lv_iload_n hx hb dX12_parish_103 rfl (lv_at hl 0 rfl) ?_
                          refine lv_aload_n hx hb dX12_parish_104 rfl (lv_at hl 1 rfl) ?_
                          refine q_grB (T := TX12) C S24.1 (cp_92.2.1 a0 (ne_role ga0 gd_92 (by decide))) ga0 3 kF_X12_20 dX12_parish_105 rfl rfl (by decide) rfl (by decide) rfl ?_
                          refine lv_iload_n hx hb dX12_parish_108 rfl (lv_at hl 0 rfl) ?_
                          refine q_iaB C ((cp_92.2.1 (fR D H24 11 a0 3) (ne_role gs_92 gd_92 (by decide))).trans s1_92) (v := fs_92 x2_92.toInt.toNat) (by omega) (by omega) (rfl) dX12_parish_109 ?_
                          refine q_isB C cp_92.1 (by omega) (by omega) dX12_parish_110 (fun H29 e129 e229 e329 => ?_)
                          have cq29 := Cp.step cp_92 e129 e229 e329 (by omega) (by exact congrArg fs_92 (by omega)) (by rw [gd_92]; decide)
                          obtain ⟨v30, ev30⟩ : ∃ y : Int32, y = x2_92 + (1) := ⟨_, rfl⟩
                          have f31 : v30.toInt = x2_92.toInt + (1) := by rw [ev30]; exact i_addc k_1 (by omega) (by omega)
                          refine lv_iinc (v := v30) (lv' := [(2, .int v30), (0, .ref a0)]) hx hb dX12_parish_111 hl (k := 0) rfl (by rw [ev30]; rfl) (by decide) rfl (fun ls hl => ?_)
                          refine lv_goto (tgt := 92) hx hb dX12_parish_114 (by decide) ?_
                          exact ih92 v30 H29 _ ls (by rw [show v30.toInt.toNat = x2_92.toInt.toNat + 1 by omega]; exact cq29) ⟨by omega, by omega⟩ (by omega) (lv_sub hl [0, 1] rfl)
                    exact Lp92 1204 (0 : Int32) H24 L24 ls (Cp.start S24 d1_92) ⟨by omega, by omega⟩ (by omega) (lv_sub hl [0, 2] rfl)
            · have b6 : ¬ (0 : Int32).toInt ≤ v3.toInt := fun z9 => c6 (i_le.mpr z9)
              exact absurd b6 (by omega)
          · have b4 : ¬ (0 : Int32).toInt ≤ v3.toInt := fun z9 => c4 (i_le.mpr z9)
            exact absurd b4 (by omega)
        · skip
          refine lv_istore_n (lv' := [(1, .int v3), (0, .ref a0)]) hx hb dX12_parish_32 rfl hl (by decide) rfl (fun ls hl => ?_)
          refine lv_aload_n hx hb dX12_parish_33 rfl (lv_at hl 1 rfl) ?_
          refine lv_iload_n hx hb dX12_parish_34 rfl (lv_at hl 0 rfl) ?_
          have k_0 : (0 : Int32).toInt = 0 := by decide
          refine lv_if_ge (tgt := 45) hx hb dX12_parish_35 (by decide) (fun c32 => ?_) (fun c32 => ?_)
          · have b32 : (0 : Int32).toInt ≤ v3.toInt := i_le.mp c32
            exact absurd b32 (by omega)
          · have b32 : ¬ (0 : Int32).toInt ≤ v3.toInt := fun z9 => c32 (i_le.mpr z9)
            refine lv_aload_n hx hb dX12_parish_38 rfl (lv_at hl 1 rfl) ?_
            refine q_gi (T := TX12) C S3.1 ga0 12 kF_X12_87 dX12_parish_39 rfl rfl (by decide) rfl (by decide) rfl ?_
            have r33 : 0 ≤ (fI D H3 11 a0 12).toInt ∧ (fI D H3 11 a0 12).toInt ≤ 400 := S3.1.rng ga0 rfl (by decide) rfl
            refine lv_goto (tgt := 46) hx hb dX12_parish_42 (by decide) ?_
            refine q_put (T := TX12) C S3 ga0 14 kF_X12_33 dX12_parish_46 rfl rfl (by decide) (by decide) rfl rfl rfl rfl rfl (vok_a rfl) (by decide +kernel) (fun H34 L34 S34 P34 => ?_)
            have y34_9 : (fI D H34 11 a0 9).toInt = (fI D H3 11 a0 9).toInt := congrArg Int32.toInt (Pt.o P34 (by decide) (by decide))
            have y34_0 : (fI D H34 11 a0 0).toInt = (fI D H3 11 a0 0).toInt := congrArg Int32.toInt (Pt.o P34 (by decide) (by decide))
            have y34_14 : (fI D H34 11 a0 14).toInt = (fI D H3 11 a0 12).toInt := congrArg Int32.toInt (Pt.i P34)
            have bg34 : (fI D H34 11 a0 12).toInt = ((e3 : Nat) : Int) := by rw [Pt.o P34 (by decide) (by decide)]; exact bg3
            have mf34 := mf3.keep S3.1 ga0 (Pt.keep ga0 rfl (by decide) P34)
            have mr34 := mr3.keep S3.1 ga0 (Pt.keep ga0 rfl (by decide) P34)
            refine lv_aload_n hx hb dX12_parish_49 rfl (lv_at hl 1 rfl) ?_
            refine lv_iload_n hx hb dX12_parish_50 rfl (lv_at hl 0 rfl) ?_
            refine lv_if_ge (tgt := 58) hx hb dX12_parish_51 (by decide) (fun c35 => ?_) (fun c35 => ?_)
            · have b35 : (0 : Int32).toInt ≤ v3.toInt := i_le.mp c35
              exact absurd b35 (by omega)
            · have b35 : ¬ (0 : Int32).toInt ≤ v3.toInt := fun z9 => c35 (i_le.mpr z9)
              refine lv_iconst (v := 1) hx hb dX12_parish_54 (by decide) ?_
              refine lv_goto (tgt := 59) hx hb dX12_parish_55 (by decide) ?_
              refine lv_iconst (v := 1) hx hb dX12_parish_59 (by decide) ?_
              refine callV_Ei C S34 (c_X12_throwsIf_f l D G a0 (1 : Int32) (1 : Int32) ga0 (by omega)) kV_X12_246 ga0 (trivial) (by decide +kernel) dX12_parish_60 hl.1 rfl rfl (by decide) cd_X12_throwsIf ⟨Nat.le_of_ble_eq_true rfl, Nat.le_of_ble_eq_true rfl, Nat.le_of_ble_eq_true rfl, Nat.le_of_ble_eq_true rfl, Nat.le_of_ble_eq_true rfl⟩ (fun v36 H36 L36 S36 K36 q36 => ?_)
              have y36_9 : (fI D H36 11 a0 9).toInt = (fI D H34 11 a0 9).toInt := congrArg Int32.toInt (K36.fI ga0 rfl (by decide) (by decide +kernel))
              have y36_14 : (fI D H36 11 a0 14).toInt = (fI D H34 11 a0 14).toInt := congrArg Int32.toInt (K36.fI ga0 rfl (by decide) (by decide +kernel))
              have bg36 : (fI D H36 11 a0 12).toInt = ((e3 : Nat) : Int) := by rw [K36.fI ga0 rfl (by decide) (by decide +kernel)]; exact bg34
              have mf36 := mf34.keep S34.1 ga0 K36
              have mr36 := mr34.keep S34.1 ga0 K36
              refine lv_if_ne (tgt := 90) hx hb dX12_parish_63 (by decide) (fun c37 => ?_) (fun c37 => ?_)
              · have b37 : ¬ v36.toInt = (0 : Int32).toInt := fun z9 => c37 (i_eq.mpr z9)
                refine lv_iconst (v := 0) hx hb dX12_parish_90 (by decide) ?_
                refine lv_istore_n (lv' := [(2, .int (0 : Int32)), (1, .int v3), (0, .ref a0)]) hx hb dX12_parish_91 rfl hl (by decide) rfl (fun ls hl => ?_)
                have gd_92 : G (fR D H36 11 a0 1) = 31 := S36.1.rol ga0 rfl (by decide) rfl
                obtain ⟨fd_92, d1_92, d2_92, d3_92, d4_92⟩ := S36.1.ia gd_92 rfl
                rw [len_31 S36.1 gd_92] at d1_92 d2_92 d3_92 d4_92
                have gs_92 : G (fR D H36 11 a0 3) = 33 := S36.1.rol ga0 rfl (by decide) rfl
                obtain ⟨fs_92, s1_92, s2_92, s3_92, s4_92⟩ := S36.1.ia gs_92 rfl
                rw [len_33 S36.1 gs_92] at s1_92 s2_92 s3_92 s4_92
                have Lp92 : ∀ (n : Nat) (x2_92 : Int32) (H_92 : Heap) (L_92 : List Loc) (ls : Array Slot), (Cp D G H36 H_92 L_92 (fR D H36 11 a0 1) 2052 fd_92 fs_92 0 0 x2_92.toInt.toNat) → (0 ≤ x2_92.toInt ∧ x2_92.toInt ≤ 1203) → 1204 - x2_92.toInt ≤ (n : Int) → lv_has ls 3 [(2, .int x2_92), (0, .ref a0)] → W p l e (rmU 31 0 0) s m args below meth c H_92 L_92 0 0 Q (F0 m 92 ls []) := by
                  intro n
                  induction n with
                  | zero =>
                    intro x2_92 H_92 L_92 ls cp_92 j92 hn hl
                    exact absurd hn (by omega)
                  | succ n ih92 =>
                    intro x2_92 H_92 L_92 ls cp_92 j92 hn hl
                    refine lv_iload_n hx hb dX12_parish_92 rfl (lv_at hl 0 rfl) ?_
                    refine lv_sipush (v := 1203) hx hb dX12_parish_93 (by decide) ?_
                    refine lv_icmp_ge (tgt := 117) hx hb dX12_parish_96 (by decide) (fun c38 => ?_) (fun c38 => ?_)
                    · have b38 : (1203 : Int32).toInt ≤ x2_92.toInt := i_le.mp c38
                      have ck39 : x2_92.toInt.toNat = 1203 := by omega
                      rw [ck39] at cp_92
                      have S39 : Sd D G [(33, 0), (30, 14), (30, 0), (30, 7), (30, 9), (30, 10), (30, 11), (30, 12), (30, 16), (31, 0), (30, 13), (31, 1)] s.heap H_92 L_92 := Cp.done S36 cp_92 gd_92 rfl (by decide) (by decide +kernel) (by decide) (⟨rfl, mix_low s3_92.2⟩)
                      have y39_9 : (fI D H_92 11 a0 9).toInt = (fI D H36 11 a0 9).toInt := congrArg Int32.toInt (congrArg vI (fV_of (cp_92.2.1 a0 (ne_role ga0 gd_92 (by decide))) 11 9))
                      have y39_0 : (fI D H_92 11 a0 0).toInt = (fI D H36 11 a0 0).toInt := congrArg Int32.toInt (congrArg vI (fV_of (cp_92.2.1 a0 (ne_role ga0 gd_92 (by decide))) 11 0))
                      have y39_14 : (fI D H_92 11 a0 14).toInt = (fI D H36 11 a0 14).toInt := congrArg Int32.toInt (congrArg vI (fV_of (cp_92.2.1 a0 (ne_role ga0 gd_92 (by decide))) 11 14))
                      have ne2 : a0 ≠ fR D H36 11 a0 1 := ne_role ga0 gd_92 (by decide)
                      have mvb := MF.back mf36 (fun j hj => by rw [Cp.e cp_92 (by omega), mx0 (by omega), ← s4_92 _ (by omega)]) (Cp.f cp_92 ne2 1).1
                      have mrb := mr36.keep S36.1 ga0 (Cp.keepw cp_92 gd_92 rfl (by decide))
                      refine lv_iconst (v := 0) hx hb dX12_parish_117 (by decide) ?_
                      exact retE_i hQ C S39 hr dX12_parish_118 (⟨by omega, ⟨by omega, Or.inr (Or.inl ⟨by omega, by rw [y3], by rw [y3]; show (fI D H_92 11 a0 14).toInt = ((e3 : Nat) : Int); have z9 := bg3; omega, mvb, mrb⟩)⟩⟩)
                    · have b38 : ¬ (1203 : Int32).toInt ≤ x2_92.toInt := fun z9 => c38 (i_le.mpr z9)
                      refine lv_aload_n hx hb dX12_parish_99 rfl (lv_at hl 1 rfl) ?_
                      refine q_grB (T := TX12) C S36.1 (cp_92.2.1 a0 (ne_role ga0 gd_92 (by decide))) ga0 1 kF_X12_13 dX12_parish_100 rfl rfl (by decide) rfl (by decide) rfl ?_
                      refine lv_iload_n hx hb dX12_parish_103 rfl (lv_at hl 0 rfl) ?_
                      refine lv_aload_n hx hb dX12_parish_104 rfl (lv_at hl 1 rfl) ?_
                      refine q_grB (T := TX12) C S36.1 (cp_92.2.1 a0 (ne_role ga0 gd_92 (by decide))) ga0 3 kF_X12_20 dX12_parish_105 rfl rfl (by decide) rfl (by decide) rfl ?_
                      refine lv_iload_n hx hb dX12_parish_108 rfl (lv_at hl 0 rfl) ?_
                      refine q_iaB C ((cp_92.2.1 (fR D H36 11 a0 3) (ne_role gs_92 gd_92 (by decide))).trans s1_92) (v := fs_92 x2_92.toInt.toNat) (by omega) (by omega) (rfl) dX12_parish_109 ?_
                      refine q_isB C cp_92.1 (by omega) (by omega) dX12_parish_110 (fun H41 e141 e241 e341 => ?_)
                      have cq41 := Cp.step cp_92 e141 e241 e341 (by omega) (by exact congrArg fs_92 (by omega)) (by rw [gd_92]; decide)
                      obtain ⟨v42, ev42⟩ : ∃ y : Int32, y = x2_92 + (1) := ⟨_, rfl⟩
                      have f43 : v42.toInt = x2_92.toInt + (1) := by rw [ev42]; exact i_addc k_1 (by omega) (by omega)
                      refine lv_iinc (v := v42) (lv' := [(2, .int v42), (0, .ref a0)]) hx hb dX12_parish_111 hl (k := 0) rfl (by rw [ev42]; rfl) (by decide) rfl (fun ls hl => ?_)
                      refine lv_goto (tgt := 92) hx hb dX12_parish_114 (by decide) ?_
                      exact ih92 v42 H41 _ ls (by rw [show v42.toInt.toNat = x2_92.toInt.toNat + 1 by omega]; exact cq41) ⟨by omega, by omega⟩ (by omega) (lv_sub hl [0, 1] rfl)
                exact Lp92 1204 (0 : Int32) H36 L36 ls (Cp.start S36 d1_92) ⟨by omega, by omega⟩ (by omega) (lv_sub hl [0, 2] rfl)
              · have b37 : v36.toInt = (0 : Int32).toInt := i_eq.mp c37
                exact absurd b37 (by omega)
      · have b1 : ¬ (1203 : Int32).toInt ≤ x1_2.toInt := fun z9 => c1 (i_le.mpr z9)
        refine lv_aload_n hx hb dX12_parish_9 rfl (lv_at hl 1 rfl) ?_
        refine q_grB (T := TX12) C S.1 (cp_2.2.1 a0 (ne_role ga0 gd_2 (by decide))) ga0 3 kF_X12_20 dX12_parish_10 rfl rfl (by decide) rfl (by decide) rfl ?_
        refine lv_iload_n hx hb dX12_parish_13 rfl (lv_at hl 0 rfl) ?_
        refine lv_aload_n hx hb dX12_parish_14 rfl (lv_at hl 1 rfl) ?_
        refine q_grB (T := TX12) C S.1 (cp_2.2.1 a0 (ne_role ga0 gd_2 (by decide))) ga0 1 kF_X12_13 dX12_parish_15 rfl rfl (by decide) rfl (by decide) rfl ?_
        refine lv_iload_n hx hb dX12_parish_18 rfl (lv_at hl 0 rfl) ?_
        refine q_iaB C ((cp_2.2.1 (fR D s.heap 11 a0 1) (ne_role gs_2 gd_2 (by decide))).trans s1_2) (v := fs_2 x1_2.toInt.toNat) (by omega) (by omega) (rfl) dX12_parish_19 ?_
        refine q_isB C cp_2.1 (by omega) (by omega) dX12_parish_20 (fun H45 e145 e245 e345 => ?_)
        have cq45 := Cp.step cp_2 e145 e245 e345 (by omega) (by exact congrArg fs_2 (by omega)) (by rw [gd_2]; decide)
        obtain ⟨v46, ev46⟩ : ∃ y : Int32, y = x1_2 + (1) := ⟨_, rfl⟩
        have k_1 : (1 : Int32).toInt = 1 := by decide
        have f47 : v46.toInt = x1_2.toInt + (1) := by rw [ev46]; exact i_addc k_1 (by omega) (by omega)
        refine lv_iinc (v := v46) (lv' := [(1, .int v46), (0, .ref a0)]) hx hb dX12_parish_21 hl (k := 0) rfl (by rw [ev46]; rfl) (by decide) rfl (fun ls hl => ?_)
        refine lv_goto (tgt := 2) hx hb dX12_parish_24 (by decide) ?_
        exact ih2 v46 H45 _ ls (by rw [show v46.toInt.toNat = x1_2.toInt.toNat + 1 by omega]; exact cq45) ⟨by omega, by omega⟩ (by omega) (lv_sub hl [0, 1] rfl)
  have k_0 : (0 : Int32).toInt = 0 := by decide
  exact Lp2 1204 (0 : Int32) s.heap [] ls (Cp.start S d1_2) ⟨by omega, by omega⟩ (by omega) (lv_sub hl [0, 1] rfl)
