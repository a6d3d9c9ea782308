theorem up12 {v x : Int32} {n : Int} (h : v = x + 1) (h2 : x.toInt = n) (h3 : n < 12) : v.toInt = n + 1 := by
  have k1 : (1 : Int32).toInt = 1 := by decide
  have r := i_rng x
  rw [h, i_add (by omega) (by omega)]
  omega

set_option maxRecDepth 100000 in
set_option maxHeartbeats 4000000 in
theorem c_X11_parish (l : Launch) (D : DD) (G : Nat → Nat) (a0 : Nat) (T : Tx) (V K : Sg) (ga0 : G a0 = 1) : CX l D G yX11_parish cX11_parish 2 (some .int) 10 1 6 [.ref a0] (fun H => (Dr D G H (fR D H 10 a0 2) ∧ G (fR D H 6 (fR D H 10 a0 6) 2) = 23) ∧ tT D H (fR D H 10 a0 0) = T ∧ fR D H 6 (fR D H 10 a0 6) 0 = fR D H 10 a0 0 ∧ (fI D H 6 (fR D H 10 a0 6) 1).toInt = 14 ∧ fR D H 6 (fR D H 10 a0 6) 2 = fR D H 10 a0 2 ∧ CI D H a0 V K ∧ PV V) [(7, 0), (7, 1), (7, 2), (7, 3), (7, 4), (25, 0), (25, 1), (25, 2), (25, 3), (25, 4), (25, 5), (11, 0), (9, 1), (9, 2), (23, 3), (23, 4), (23, 5), (23, 6), (23, 7), (23, 8), (23, 9), (23, 10), (23, 11), (23, 12), (23, 13), (2, 3), (2, 4), (2, 5), (2, 6), (2, 2), (8, 0), (8, 1), (8, 2), (8, 3), (8, 4), (8, 5), (4, 3), (4, 4), (4, 5), (4, 6), (4, 7), (4, 8), (4, 9), (4, 10), (4, 11), (4, 12), (4, 13), (1, 9), (2, 1), (16, 2)] (xI (fun H r H1 => (fI D H1 9 (fR D H1 10 a0 0) 1).toInt = 0 ∧ (parF T V).1 = true ∧ V 2 < 12 ∧ r.toInt = V 2 + 1 ∧ (fI D H1 10 a0 9).toInt = -1 ∧ CI D H1 a0 (sup (parF T V).2.2 2 (V 2 + 1)) K)) (fun H En H1 => (En = "java/lang/IllegalArgumentException" ∨ En = "java/lang/UnsupportedOperationException") ∧ (fI D H1 9 (fR D H1 10 a0 0) 1).toInt = 0 ∧ CI D H1 a0 V K ∧ ((En = "java/lang/IllegalArgumentException" ∧ (parF T V).1 = false ∧ (fI D H1 10 a0 9).toInt = (((parF T V).2.1 : Nat) : Int)) ∨ (En = "java/lang/UnsupportedOperationException" ∧ (parF T V).1 = true ∧ 12 ≤ V 2 ∧ (fI D H1 10 a0 9).toInt = -1))) := by
  refine enterX (by decide) (Nat.le_of_ble_eq_true rfl) ?_
  intro hl0 p e s m args below meth c ls Q hA hQ ht C hr hO hpre hl
  have hx := C.1
  have hb := C.2.1
  have S : Sd D G [(7, 0), (7, 1), (7, 2), (7, 3), (7, 4), (25, 0), (25, 1), (25, 2), (25, 3), (25, 4), (25, 5), (11, 0), (9, 1), (9, 2), (23, 3), (23, 4), (23, 5), (23, 6), (23, 7), (23, 8), (23, 9), (23, 10), (23, 11), (23, 12), (23, 13), (2, 3), (2, 4), (2, 5), (2, 6), (2, 2), (8, 0), (8, 1), (8, 2), (8, 3), (8, 4), (8, 5), (4, 3), (4, 4), (4, 5), (4, 6), (4, 7), (4, 8), (4, 9), (4, 10), (4, 11), (4, 12), (4, 13), (1, 9), (2, 1), (16, 2)] s.heap s.heap [] := Sd.start hO
  have hl : lv_has ls 2 [(0, .ref a0)] := hl
  obtain ⟨hpre, hT0, htp, hml, hdr, hci, hpv⟩ := hpre
  have grd : G (fR D s.heap 10 a0 6) = 20 := hO.rol ga0 rfl (by decide) rfl
  have gta : G (fR D s.heap 10 a0 0) = 2 := hO.rol ga0 rfl (by decide) rfl
  have gdr : G (fR D s.heap 10 a0 2) = 23 := hpre.1.1
  refine lv_aload_n hx hb dX11_parish_0 rfl (lv_at hl 0 rfl) ?_
  refine q_grD (T := TX11) C S.1 ga0 2 kF_X11_23 dX11_parish_1 rfl rfl (by decide) rfl (by decide) rfl (fun g1 => ?_)
  replace g1 : G (fR D s.heap 10 a0 2) = 23 := by rw [S.2.1.fR ga0 rfl (by decide) (by decide +kernel)]; exact hpre.1.1
  refine lv_aload_n hx hb dX11_parish_4 rfl (lv_at hl 0 rfl) ?_
  refine q_gr (T := TX11) C S.1 ga0 1 kF_X11_19 dX11_parish_5 rfl rfl (by decide) rfl (by decide) rfl (fun g2 => ?_)
  refine callV_Ev C S (c_X5_become_d l D G (fR D s.heap 10 a0 2) (fR D s.heap 10 a0 1) g1 g2) kV_X11_78 g1 (by rw [S.2.1.fR ga0 rfl (by decide) (by decide +kernel)]; exact Dr.keep hO hpre.1 S.2.1 (by decide +kernel) (by decide +kernel)) (by decide +kernel) dX11_parish_8 hl.1 rfl rfl (by decide) cd_X5_become ⟨Nat.le_of_ble_eq_true rfl, Nat.le_of_ble_eq_true rfl, Nat.le_of_ble_eq_true rfl, Nat.le_of_ble_eq_true rfl, Nat.le_of_ble_eq_true rfl⟩ (fun H3 L3 S3 K3 q3 => ?_)
  have gd := q3.1
  have bq := q3.2.2
  have kc := K3
  have S8 := S3
  have dv1 : SV (pv D H3 (fR D s.heap 10 a0 2)) V := bq.to (i := 2) (j := 0) hci.1 (by decide) (by decide) rfl rfl (by decide) hci.2.1
  have ci1 := hci.dr hO ga0 K3 bq
  refine lv_aload_n hx hb dX11_parish_11 rfl (lv_at hl 0 rfl) ?_
  refine q_gr (T := TX11) C S3.1 ga0 6 kF_X11_50 dX11_parish_12 rfl rfl (by decide) rfl (by decide) rfl (fun g4 => ?_)
  have lcq : fR D H3 10 a0 6 = (fR D s.heap 10 a0 6) := S3.2.1.fR ga0 rfl (by decide) (by decide +kernel)
  have drq : fR D H3 10 a0 2 = (fR D s.heap 10 a0 2) := S3.2.1.fR ga0 rfl (by decide) (by decide +kernel)
  refine callU_Ei C S3 (c_X10_readLines_pf l D G (fR D H3 10 a0 6) (fR D s.heap 10 a0 2) V (fR D s.heap 10 a0 0) T g4) kU_X11_81 kD_rls g4 (⟨by rw [S3.2.1.fR ga0 rfl (by decide) (by decide +kernel)]; rw [S3.2.1.fR (hO.rol (k := 6) ga0 rfl (by decide) rfl) rfl (by decide) (by decide +kernel)]; exact hpre.2, by rw [lcq, kc.fR grd rfl (by decide) (by decide +kernel)]; exact htp, by rw [lcq, kc.fI grd rfl (by decide) (by decide +kernel)]; exact hml, (tT_keep hO gta kc (by decide) (by decide) (by decide)).trans hT0, by rw [lcq, kc.fR grd rfl (by decide) (by decide +kernel)]; exact hdr, (hci.1.1 2 (by decide)).keep hO (Or.inr gdr) kc (by decide +kernel), dv1⟩) (by decide +kernel) dX11_parish_15 hl.1 rfl rfl (by decide) (by decide +kernel) ⟨Nat.le_of_ble_eq_true rfl, Nat.le_of_ble_eq_true rfl, Nat.le_of_ble_eq_true rfl, Nat.le_of_ble_eq_true rfl, Nat.le_of_ble_eq_true rfl⟩ (fun v5 H5 L5 S5 K5 q5 => ?_)
  obtain ⟨q5, fq5, fr5⟩ := q5
  obtain ⟨q5, tq5⟩ := q5
  have gd : _ → _ := fun h9 => tq5 h9 gd
  have fqa := fq5
  have ci2 := ci1.read S8.1 ga0 (by rw [drq]; exact gdr) K5 (by rw [drq]; exact fr5)
  refine lv_istore_n (lv' := [(1, .int v5), (0, .ref a0)]) hx hb dX11_parish_18 rfl hl (by decide) rfl (fun ls hl => ?_)
  refine lv_aload_n hx hb dX11_parish_19 rfl (lv_at hl 1 rfl) ?_
  refine lv_aload_n hx hb dX11_parish_20 rfl (lv_at hl 1 rfl) ?_
  refine q_gr (T := TX11) C S5.1 ga0 0 kF_X11_10 dX11_parish_21 rfl rfl (by decide) rfl (by decide) rfl (fun g6 => ?_)
  refine q_gi (T := TX9) C S5.1 g6 2 kF_X11_85 dX11_parish_24 rfl rfl (by decide) rfl (by decide) rfl ?_
  refine q_put (T := TX11) C S5 ga0 9 kF_X11_67 dX11_parish_27 rfl rfl (by decide) (by decide) rfl rfl rfl rfl rfl (vok_a rfl) (by decide +kernel) (fun H7 L7 S7 P7 => ?_)
  have gd := fun h9 => (gd h9).put ga0 P7 (Or.inl (by decide))
  have wb : (fI D H7 10 a0 9).toInt = (fI D H5 9 (fR D s.heap 10 a0 0) 2).toInt := by rw [Pt.i P7, (S5.2.1.fR ga0 rfl (by decide) (by decide +kernel) : fR D _ 10 a0 0 = (fR D s.heap 10 a0 0))]
  have ci3 := ci2.keep S5.1 ga0 (Pt.keep ga0 rfl (by decide) P7) (by decide)
  refine lv_aload_n hx hb dX11_parish_30 rfl (lv_at hl 1 rfl) ?_
  refine q_gr (T := TX11) C S7.1 ga0 0 kF_X11_10 dX11_parish_31 rfl rfl (by decide) rfl (by decide) rfl (fun g8 => ?_)
  refine lv_iconst (v := 0) hx hb dX11_parish_34 (by decide) ?_
  have k_0 : (0 : Int32).toInt = 0 := by decide
  refine q_put (T := TX9) C S7 g8 1 kF_X11_71 dX11_parish_35 rfl rfl (by decide) (by decide) rfl rfl rfl rfl rfl (vok_i rfl (by omega) (by omega)) (by decide +kernel) (fun H9 L9 S9 P9 => ?_)
  have gd := fun h9 => (gd h9).put g8 P9 (Or.inl (by decide))
  have tz : (fI D H9 9 (fR D H9 10 a0 0) 1).toInt = 0 := by rw [Pt.r P9 (ne_role ga0 g8 (by decide)), Pt.i P9]; decide
  have wb := (congrArg Int32.toInt (Pt.f (ci' := 10) (j := 9) P9 (ne_role ga0 g8 (by decide)))).trans wb
  have ci4 := ci3.keep S7.1 ga0 (Pt.keep g8 rfl (by decide) P9) (by decide)
  refine lv_iload_n hx hb dX11_parish_38 rfl (lv_at hl 0 rfl) ?_
  refine lv_if_ne (tgt := 52) hx hb dX11_parish_39 (by decide) (fun c10 => ?_) (fun c10 => ?_)
  · have b10 : ¬ v5.toInt = (0 : Int32).toInt := fun z9 => c10 (i_eq.mpr z9)
    obtain ⟨c9, s9, hz, hr9, ts9, dv2⟩ := fqa.resolve_right (fun ⟨_, _, _, h0, _⟩ => absurd h0 (by omega))
    have wb : (fI D H9 10 a0 9).toInt = -1 := wb.trans ts9.1.2.1
    have tx9 : (fI D H9 5 (fR D H9 10 a0 1) 5).toInt = V 2 := dv_2 ci4.2.1
    have dv4 := dv_keep (dv_keep dv2 S5.1 (Or.inr gdr) (Pt.keep ga0 rfl (by decide) P7)) S7.1 (Or.inr gdr) (Pt.keep g8 rfl (by decide) P9)
    refine lv_aload_n hx hb dX11_parish_52 rfl (lv_at hl 1 rfl) ?_
    refine q_gr (T := TX11) C S9.1 ga0 1 kF_X11_19 dX11_parish_53 rfl rfl (by decide) rfl (by decide) rfl (fun g11 => ?_)
    refine q_gi (T := TX5) C S9.1 g11 5 kF_X11_95 dX11_parish_56 rfl rfl (by decide) rfl (by decide) rfl ?_
    refine lv_bipush (v := 12) hx hb dX11_parish_59 (by decide) ?_
    have k_12 : (12 : Int32).toInt = 12 := by decide
    refine lv_icmp_lt (tgt := 74) hx hb dX11_parish_61 (by decide) (fun c12 => ?_) (fun c12 => ?_)
    · have b12 : (fI D H9 5 (fR D H9 10 a0 1) 5).toInt < (12 : Int32).toInt := i_lt.mp c12
      refine lv_aload_n hx hb dX11_parish_74 rfl (lv_at hl 1 rfl) ?_
      refine q_gr (T := TX11) C S9.1 ga0 1 kF_X11_19 dX11_parish_75 rfl rfl (by decide) rfl (by decide) rfl (fun g13 => ?_)
      refine lv_aload_n hx hb dX11_parish_78 rfl (lv_at hl 1 rfl) ?_
      refine q_grD (T := TX11) C S9.1 ga0 2 kF_X11_23 dX11_parish_79 rfl rfl (by decide) rfl (by decide) rfl (fun g14 => ?_)
      replace g14 : G (fR D H9 10 a0 2) = 23 := by rw [S9.2.1.fR ga0 rfl (by decide) (by decide +kernel)]; exact hpre.1.1
      have SQ := S9
      have gd := gd (by omega)
      have drq4 : fR D H9 10 a0 2 = (fR D s.heap 10 a0 2) := S9.2.1.fR ga0 rfl (by decide) (by decide +kernel)
      refine callV_Ev C S9 (c_X5_become_r l D G (fR D H9 10 a0 1) (fR D H9 10 a0 2) g13 g14) kV_X11_78 g13 (gd) (by decide +kernel) dX11_parish_82 hl.1 rfl rfl (by decide) cd_X5_become ⟨Nat.le_of_ble_eq_true rfl, Nat.le_of_ble_eq_true rfl, Nat.le_of_ble_eq_true rfl, Nat.le_of_ble_eq_true rfl, Nat.le_of_ble_eq_true rfl⟩ (fun H15 L15 S15 K15 q15 => ?_)
      have tz : (fI D H15 9 (fR D H15 10 a0 0) 1).toInt = 0 := by rw [tlK SQ.1 ga0 K15 (by decide +kernel) (by decide +kernel)]; exact tz
      have wb := (congrArg Int32.toInt (K15.fI (k := 9) ga0 rfl (by decide) (by decide +kernel))).trans wb
      have cn1 := ci4.par SQ.1 ga0 K15 q15.2 (by rw [drq4]; exact dv4)
      refine lv_aload_n hx hb dX11_parish_85 rfl (lv_at hl 1 rfl) ?_
      refine q_gr (T := TX11) C S15.1 ga0 1 kF_X11_19 dX11_parish_86 rfl rfl (by decide) rfl (by decide) rfl (fun g16 => ?_)
      refine lv_dup hx hb dX11_parish_89 rfl ?_
      refine q_gi (T := TX5) C S15.1 g16 5 kF_X11_95 dX11_parish_90 rfl rfl (by decide) rfl (by decide) rfl ?_
      refine lv_iconst (v := 1) hx hb dX11_parish_93 (by decide) ?_
      have k_1 : (1 : Int32).toInt = 1 := by decide
      refine lv_iadd hx hb dX11_parish_94 ?_
      refine lv_topi (fun v17 ev17 => ?_)
      have tv : v17.toInt = V 2 + 1 := up12 ev17 ((dv_2 cn1.2.1).trans (par_2 hpv hz).1) (by omega)
      have SR := S15
      refine q_put (T := TX5) C S15 g16 5 kF_X11_95 dX11_parish_95 rfl rfl (by decide) (by decide) rfl rfl rfl rfl rfl (vok_a rfl) (by decide +kernel) (fun H18 L18 S18 P18 => ?_)
      have tz : (fI D H18 9 (fR D H18 10 a0 0) 1).toInt = 0 := by rw [Pt.r P18 (ne_role ga0 g16 (by decide)), Pt.f P18 (ne_role (S15.1.rol ga0 rfl (by decide) rfl) g16 (by decide))]; exact tz
      have cn2 := cn1.texts SR.1 ga0 P18
      have wb := (congrArg Int32.toInt (Pt.f (ci' := 10) (j := 9) P18 (ne_role ga0 g16 (by decide)))).trans wb
      refine lv_aload_n hx hb dX11_parish_98 rfl (lv_at hl 1 rfl) ?_
      refine q_gr (T := TX11) C S18.1 ga0 4 kF_X11_32 dX11_parish_99 rfl rfl (by decide) rfl (by decide) rfl (fun g19 => ?_)
      have SQ := S18
      refine callV_Ev C S18 (c_X7_forget l D G (fR D H18 10 a0 4) g19) kV_X11_103 g19 (trivial) (by decide +kernel) dX11_parish_102 hl.1 rfl rfl (by decide) cd_X7_forget ⟨Nat.le_of_ble_eq_true rfl, Nat.le_of_ble_eq_true rfl, Nat.le_of_ble_eq_true rfl, Nat.le_of_ble_eq_true rfl, Nat.le_of_ble_eq_true rfl⟩ (fun H20 L20 S20 K20 q20 => ?_)
      have tz : (fI D H20 9 (fR D H20 10 a0 0) 1).toInt = 0 := by rw [tlK SQ.1 ga0 K20 (by decide +kernel) (by decide +kernel)]; exact tz
      have wb := (congrArg Int32.toInt (K20.fI (k := 9) ga0 rfl (by decide) (by decide +kernel))).trans wb
      have ci5 := cn2.forget SQ.1 ga0 K20 q20
      refine lv_aload_n hx hb dX11_parish_105 rfl (lv_at hl 1 rfl) ?_
      refine q_gr (T := TX11) C S20.1 ga0 1 kF_X11_19 dX11_parish_106 rfl rfl (by decide) rfl (by decide) rfl (fun g21 => ?_)
      refine q_gi (T := TX5) C S20.1 g21 5 kF_X11_95 dX11_parish_109 rfl rfl (by decide) rfl (by decide) rfl ?_
      exact retX_i hQ C S20 hr dX11_parish_112 (by decide) (by decide) (⟨tz, by rw [hz], by omega, (dv_2 ci5.2.1).trans ((sup_s _ _ _).trans tv), wb, by rw [hz, ← tv]; exact ci5⟩)
    · have b12 : ¬ (fI D H9 5 (fR D H9 10 a0 1) 5).toInt < (12 : Int32).toInt := fun z9 => c12 (i_lt.mpr z9)
      exact q_throw hl0 hQ C ht S9 kL_X11_98 kI_UOE ks_X11_100 ka_X11_102 kf_UOE dX11_parish_64 dX11_parish_67 dX11_parish_68 dX11_parish_70 dX11_parish_73 hl.1 ⟨Nat.le_of_ble_eq_true rfl, Nat.le_of_ble_eq_true rfl, Nat.le_of_ble_eq_true rfl, Nat.le_of_ble_eq_true rfl⟩ (by decide) (by decide) (fun H1 g1 g2 => ⟨by simp, by rw [tlK S9.1 ga0 (Keep.grow (E := []) S9.1 g1 g2) (by decide) (by decide)]; exact tz, ci4.keep S9.1 ga0 (Keep.grow (E := []) S9.1 g1 g2) (by decide), Or.inr ⟨rfl, by rw [hz], by omega, by rw [(Keep.grow (E := []) S9.1 g1 g2).fI ga0 rfl (by decide) (by decide)]; exact wb⟩⟩)
  · have b10 : v5.toInt = (0 : Int32).toInt := i_eq.mp c10
    obtain ⟨e9, s9, hz, hr9, wr9⟩ := fqa.resolve_left (fun ⟨_, _, _, h0, _⟩ => absurd h0 (by omega))
    exact q_throw hl0 hQ C ht S9 kL_X11_88 kI_IAE ks_X11_90 ka_X11_92 kf_IAE dX11_parish_42 dX11_parish_45 dX11_parish_46 dX11_parish_48 dX11_parish_51 hl.1 ⟨Nat.le_of_ble_eq_true rfl, Nat.le_of_ble_eq_true rfl, Nat.le_of_ble_eq_true rfl, Nat.le_of_ble_eq_true rfl⟩ (by decide) (by decide) (fun H1 g1 g2 => ⟨by simp, by rw [tlK S9.1 ga0 (Keep.grow (E := []) S9.1 g1 g2) (by decide) (by decide)]; exact tz, ci4.keep S9.1 ga0 (Keep.grow (E := []) S9.1 g1 g2) (by decide), Or.inl ⟨rfl, by rw [hz], by rw [(Keep.grow (E := []) S9.1 g1 g2).fI ga0 rfl (by decide) (by decide), hz]; exact wb.trans wr9⟩⟩)
