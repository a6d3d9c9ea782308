theorem pS_keep {D : DD} {G : Nat → Nat} {E : List (Nat × Nat)} {H H1 : Heap} {x : Nat} (hO : Ok D G H) (gx : G x = 1) (K9 : Keep D G E H H1) (h4 : (1, 4) ∉ E := by decide +kernel) (h2 : (16, 2) ∉ E := by decide +kernel) : pS D H1 x = pS D H x := by
  unfold pS
  rw [K9.fR gx rfl (by decide) h4, K9.fI (gPast hO gx) rfl (by decide) h2]

set_option maxRecDepth 100000 in
set_option maxHeartbeats 4000000 in
theorem c_X11_law (l : Launch) (D : DD) (G : Nat → Nat) (a0 : Nat) (T : Tx) (ga0 : G a0 = 1) : CXG l D G yX11_law cX11_law 3 (some .int) 23 5 455 [.ref a0] (fun H => tT D H (fR D H 10 a0 0) = T ∧ fR D H 4 (fR D H 10 a0 7) 0 = fR D H 10 a0 0 ∧ (fI D H 4 (fR D H 10 a0 7) 1).toInt = 12) [(2, 3), (2, 4), (2, 5), (2, 6), (2, 2), (22, 0), (21, 3), (21, 4), (1, 9), (2, 1), (4, 13), (16, 2), (12, 0), (12, 1), (12, 2), (12, 3), (13, 0), (14, 0), (15, 0)] (xI (fun H r H1 => ((fI D H1 9 (fR D H1 10 a0 0) 1).toInt = 0) ∧ (lawF T).1 = true ∧ r.toInt = (((lawF T).2.2 : Nat) : Int) ∧ (fI D H1 10 a0 9).toInt = -1 ∧ pS D H1 a0 = 0)) (fun H En H1 => (En = "java/lang/IllegalArgumentException") ∧ ((fI D H1 9 (fR D H1 10 a0 0) 1).toInt = 0) ∧ (lawF T).1 = false ∧ (fI D H1 10 a0 9).toInt = (((lawF T).2.1 : Nat) : Int) ∧ pS D H1 a0 = pS D H a0) := by
  refine enterG (by decide) (Nat.le_of_ble_eq_true rfl) ?_
  intro hl0 p e s m args below meth c ls Q hA hQ ht C hr hO hpre hl
  have hx := C.1
  have hb := C.2.1
  have S : Sd D G [(2, 3), (2, 4), (2, 5), (2, 6), (2, 2), (22, 0), (21, 3), (21, 4), (1, 9), (2, 1), (4, 13), (16, 2), (12, 0), (12, 1), (12, 2), (12, 3), (13, 0), (14, 0), (15, 0)] s.heap s.heap [] := Sd.start hO
  have hl : lv_has ls 3 [(0, .ref a0)] := hl
  have grd : G (fR D s.heap 10 a0 7) = 21 := hO.rol ga0 rfl (by decide) rfl
  have gta : G (fR D s.heap 10 a0 0) = 2 := hO.rol ga0 rfl (by decide) rfl
  refine lv_aload_n hx hb dX11_law_0 rfl (lv_at hl 0 rfl) ?_
  refine q_gr (T := TX11) C S.1 ga0 7 kF_X11_59 dX11_law_1 rfl rfl (by decide) rfl (by decide) rfl (fun g1 => ?_)
  refine callV_Ev C S (c_X4_clear l D G (fR D s.heap 10 a0 7) g1) kV_X11_106 g1 (trivial) (by decide +kernel) dX11_law_4 hl.1 rfl rfl (by decide) cd_X4_clear ⟨Nat.le_of_ble_eq_true rfl, Nat.le_of_ble_eq_true rfl, Nat.le_of_ble_eq_true rfl, Nat.le_of_ble_eq_true rfl, Nat.le_of_ble_eq_true rfl⟩ (fun H2 L2 S2 K2 q2 => ?_)
  have lc0 : Lc D H2 (fR D H2 10 a0 7) := by rw [S2.2.1.fR ga0 rfl (by decide) (by decide +kernel)]; exact q2.1
  have ln0 := q2.2
  have kc := K2
  have ps9 : pS D H2 a0 = pS D s.heap a0 := pS_keep hO ga0 K2
  have SA := S2
  refine lv_aload_n hx hb dX11_law_7 rfl (lv_at hl 0 rfl) ?_
  refine q_gr (T := TX11) C S2.1 ga0 7 kF_X11_59 dX11_law_8 rfl rfl (by decide) rfl (by decide) rfl (fun g3 => ?_)
  have lcq : fR D H2 10 a0 7 = fR D s.heap 10 a0 7 := S2.2.1.fR ga0 rfl (by decide) (by decide +kernel)
  refine callU_Ei C S2 (c_X10_readLines_l l D G (fR D H2 10 a0 7) (fR D s.heap 10 a0 0) T g3) kU_X11_109 kD_rls g3 (⟨trivial, by rw [lcq, kc.fR grd rfl (by decide) (by decide +kernel)]; exact hpre.2.1, by rw [lcq, kc.fI grd rfl (by decide) (by decide +kernel)]; exact hpre.2.2, (tT_keep hO gta kc (by decide) (by decide) (by decide)).trans hpre.1, by rw [lcq]; exact ln0⟩) (by decide +kernel) dX11_law_11 hl.1 rfl rfl (by decide) (by decide +kernel) ⟨Nat.le_of_ble_eq_true rfl, Nat.le_of_ble_eq_true rfl, Nat.le_of_ble_eq_true rfl, Nat.le_of_ble_eq_true rfl, Nat.le_of_ble_eq_true rfl⟩ (fun v4 H4 L4 S4 K4 q4 => ?_)
  obtain ⟨q4, fq4⟩ := q4
  obtain ⟨q4, tq4⟩ := q4
  have lc : v4.toInt = 1 → Lc D H4 (fR D s.heap 10 a0 7) := fun h9 => by rw [← lcq]; exact tq4 h9 lc0
  have fqa := fq4
  rw [lcq] at fqa
  have ps9 := (pS_keep SA.1 ga0 K4).trans ps9
  refine lv_istore_n (lv' := [(1, .int v4), (0, .ref a0)]) hx hb dX11_law_14 rfl hl (by decide) rfl (fun ls hl => ?_)
  refine lv_aload_n hx hb dX11_law_15 rfl (lv_at hl 1 rfl) ?_
  refine lv_aload_n hx hb dX11_law_16 rfl (lv_at hl 1 rfl) ?_
  refine q_gr (T := TX11) C S4.1 ga0 0 kF_X11_10 dX11_law_17 rfl rfl (by decide) rfl (by decide) rfl (fun g5 => ?_)
  refine q_gi (T := TX9) C S4.1 g5 2 kF_X11_85 dX11_law_20 rfl rfl (by decide) rfl (by decide) rfl ?_
  refine q_put (T := TX11) C S4 ga0 9 kF_X11_67 dX11_law_23 rfl rfl (by decide) (by decide) rfl rfl rfl rfl rfl (vok_a rfl) (by decide +kernel) (fun H6 L6 S6 P6 => ?_)
  have lc := fun h9 => (lc h9).pt S4.1 grd P6 ga0 (by decide) (by decide)
  have wb : (fI D H6 10 a0 9).toInt = (fI D H4 9 (fR D s.heap 10 a0 0) 2).toInt := by rw [Pt.i P6, (S4.2.1.fR ga0 rfl (by decide) (by decide +kernel) : fR D _ 10 a0 0 = (fR D s.heap 10 a0 0))]
  have lnh : (fI D H6 4 (fR D s.heap 10 a0 7) 4).toInt = (fI D H4 4 (fR D s.heap 10 a0 7) 4).toInt := by rw [Pt.f P6 (ne_role grd ga0 (by decide))]
  have ps9 := (pS_keep S4.1 ga0 (Pt.keep ga0 rfl (by decide) P6)).trans ps9
  refine lv_aload_n hx hb dX11_law_26 rfl (lv_at hl 1 rfl) ?_
  refine q_gr (T := TX11) C S6.1 ga0 0 kF_X11_10 dX11_law_27 rfl rfl (by decide) rfl (by decide) rfl (fun g7 => ?_)
  refine lv_iconst (v := 0) hx hb dX11_law_30 (by decide) ?_
  have k_0 : (0 : Int32).toInt = 0 := by decide
  refine q_put (T := TX9) C S6 g7 1 kF_X11_71 dX11_law_31 rfl rfl (by decide) (by decide) rfl rfl rfl rfl rfl (vok_i rfl (by omega) (by omega)) (by decide +kernel) (fun H8 L8 S8 P8 => ?_)
  have lc := fun h9 => (lc h9).pt S6.1 grd P8 g7 (by decide) (by decide)
  have tz : (fI D H8 9 (fR D H8 10 a0 0) 1).toInt = 0 := by rw [Pt.r P8 (ne_role ga0 g7 (by decide)), Pt.i P8]; decide
  have wb : (fI D H8 10 a0 9).toInt = _ := (congrArg Int32.toInt (Pt.f P8 (ne_role ga0 g7 (by decide)))).trans wb
  have lnh : (fI D H8 4 (fR D s.heap 10 a0 7) 4).toInt = _ := (congrArg Int32.toInt (Pt.f P8 (ne_role grd g7 (by decide)))).trans lnh
  have ps9 := (pS_keep S6.1 ga0 (Pt.keep g7 rfl (by decide) P8)).trans ps9
  refine lv_iload_n hx hb dX11_law_34 rfl (lv_at hl 0 rfl) ?_
  refine lv_if_ne (tgt := 48) hx hb dX11_law_35 (by decide) (fun c9 => ?_) (fun c9 => ?_)
  · have b9 : ¬ v4.toInt = (0 : Int32).toInt := fun z9 => c9 (i_eq.mpr z9)
    refine lv_aload_n hx hb dX11_law_48 rfl (lv_at hl 1 rfl) ?_
    refine q_gr (T := TX11) C S8.1 ga0 7 kF_X11_59 dX11_law_49 rfl rfl (by decide) rfl (by decide) rfl (fun g10 => ?_)
    have lcr : fR D H8 10 a0 7 = (fR D s.heap 10 a0 7) := S8.2.1.fR ga0 rfl (by decide) (by decide +kernel)
    have ft9 : (lawF T).1 = true ∧ (fI D H8 4 (fR D s.heap 10 a0 7) 4).toInt = (((lawF T).2.2 : Nat) : Int) ∧ (fI D H8 10 a0 9).toInt = -1 := fqa.elim (fun h9 => ⟨h9.2.1, by have z9 := h9.2.2; omega, by have z9 := h9.2.2; omega⟩) (fun h9 => absurd h9.1 (by omega))
    refine callV_T C S8 g10 (by rw [S8.2.1.fR ga0 rfl (by decide) (by decide +kernel)]; exact lc (by omega)) kV_X11_told (by decide +kernel) dX11_law_52 hl.1 ⟨Nat.le_of_ble_eq_true rfl, Nat.le_of_ble_eq_true rfl, Nat.le_of_ble_eq_true rfl, Nat.le_of_ble_eq_true rfl, Nat.le_of_ble_eq_true rfl⟩ (fun v11 G11 H11 L11 gb11 kk11 ko11 kn11 C S11 e11 ht11 => ?_)
    have hOq := S8.1
    have gaq := ga0
    have ga0 := (kk11 a0 (by rw [ga0]; decide)).trans ga0
    have tz : (fI D H11 9 (fR D H11 10 a0 0) 1).toInt = 0 := by rw [tlG hOq gaq e11]; exact tz
    have wb : (fI D H11 10 a0 9).toInt = -1 := (congrArg Int32.toInt (congrArg vI (fV_of (e11 a0 (hOq.lt (by rw [gaq]; decide))) 10 9))).trans ft9.2.2
    have hlv : (fI D H11 3 v11 0).toInt = (((lawF T).2.2 : Nat) : Int) := by rw [ht11, lcr]; exact ft9.2.1
    have gvt := gb11
    obtain ⟨vt, hvt⟩ : ∃ x, x = v11 := ⟨_, rfl⟩
    refine lv_astore_n (lv' := [(2, .ref v11), (1, .int v4), (0, .ref a0)]) hx hb dX11_law_55 rfl hl (by decide) rfl (fun ls hl => ?_)
    refine lv_aload_n hx hb dX11_law_56 rfl (lv_at hl 2 rfl) ?_
    refine q_gr (T := TX11) C S11.1 ga0 1 kF_X11_19 dX11_law_57 rfl rfl (by decide) rfl (by decide) rfl (fun g12 => ?_)
    refine lv_aload_n hx hb dX11_law_60 rfl (lv_at hl 0 rfl) ?_
    refine q_put (T := TX5) C S11 g12 13 kF_X11_116 dX11_law_61 rfl rfl (by decide) (by decide) rfl rfl rfl rfl rfl (vok_r rfl gb11) (by decide +kernel) (fun H13 L13 S13 P13 => ?_)
    have tz : (fI D H13 9 (fR D H13 10 a0 0) 1).toInt = 0 := by rw [Pt.r P13 (ne_role ga0 g12 (by decide)), Pt.f P13 (ne_role (S11.1.rol ga0 rfl (by decide) rfl) g12 (by decide))]; exact tz
    have wb : (fI D H13 10 a0 9).toInt = -1 := (congrArg Int32.toInt (Pt.f P13 (ne_role ga0 g12 (by decide)))).trans wb
    have hlv : (fI D H13 3 v11 0).toInt = _ := (congrArg Int32.toInt (Pt.f P13 (ne_role gvt g12 (by decide)))).trans hlv
    refine lv_aload_n hx hb dX11_law_64 rfl (lv_at hl 2 rfl) ?_
    refine q_gr (T := TX11) C S13.1 ga0 4 kF_X11_32 dX11_law_65 rfl rfl (by decide) rfl (by decide) rfl (fun g14 => ?_)
    have SQ := S13
    refine callV_Ev C S13 (c_X7_forget l D G11 (fR D H13 10 a0 4) g14) kV_X11_103 g14 (trivial) (by decide +kernel) dX11_law_68 hl.1 rfl rfl (by decide) cd_X7_forget ⟨Nat.le_of_ble_eq_true rfl, Nat.le_of_ble_eq_true rfl, Nat.le_of_ble_eq_true rfl, Nat.le_of_ble_eq_true rfl, Nat.le_of_ble_eq_true rfl⟩ (fun H15 L15 S15 K15 q15 => ?_)
    have tz : (fI D H15 9 (fR D H15 10 a0 0) 1).toInt = 0 := by rw [tlK SQ.1 ga0 K15 (by decide +kernel) (by decide +kernel)]; exact tz
    have wb : (fI D H15 10 a0 9).toInt = -1 := (congrArg Int32.toInt (K15.fI ga0 rfl (by decide) (by decide +kernel))).trans wb
    have hlv := (congrArg Int32.toInt (K15.fI (k := 0) gvt rfl (by decide) (by decide +kernel))).trans hlv
    have sz9 : pS D H15 a0 = 0 := by unfold pS; rw [K15.fR ga0 rfl (by decide) (by decide +kernel)]; exact q15
    refine lv_aload_n hx hb dX11_law_71 rfl (lv_at hl 0 rfl) ?_
    refine q_gi (T := TX3) C S15.1 gb11 0 kF_X11_120 dX11_law_72 rfl rfl (by decide) rfl (by decide) rfl ?_
    exact retG_i hQ C S15 hO ko11 kn11 hr dX11_law_75 (by decide) (by decide) (⟨tz, ft9.1, by omega, wb, sz9⟩)
  · have b9 : v4.toInt = (0 : Int32).toInt := i_eq.mp c9
    exact q_throw hl0 hQ C ht S8 kL_X11_88 kI_IAE ks_X11_110 ka_X11_92 kf_IAE dX11_law_38 dX11_law_41 dX11_law_42 dX11_law_44 dX11_law_47 hl.1 ⟨Nat.le_of_ble_eq_true rfl, Nat.le_of_ble_eq_true rfl, Nat.le_of_ble_eq_true rfl, Nat.le_of_ble_eq_true rfl⟩ (by decide) (by decide) (fun H1 g1 g2 => ⟨by simp, by rw [tlK S8.1 ga0 (Keep.grow (E := []) S8.1 g1 g2) (by decide) (by decide)]; exact tz, fqa.elim (fun h9 => absurd h9.1 (by omega)) (fun h9 => h9.2.1), by rw [(Keep.grow (E := []) S8.1 g1 g2).fI ga0 rfl (by decide) (by decide)]; exact fqa.elim (fun h9 => absurd h9.1 (by omega)) (fun h9 => wb.trans h9.2.2), by unfold pS; rw [(Keep.grow (E := []) S8.1 g1 g2).fR ga0 rfl (by decide) (by decide), (Keep.grow (E := []) S8.1 g1 g2).fI (gPast S8.1 ga0) rfl (by decide) (by decide)]; exact ps9⟩)
