set_option maxRecDepth 100000 in
set_option maxHeartbeats 4000000 in
theorem c_X6_readLine_f (l : Launch) (D : DD) (G : Nat → Nat) (a0 : Nat) (dd : Nat) (sg : Sg) (tp : Nat) (T : Tx) (b : Nat) (ga0 : G a0 = 20) : CE l D G yX6_readLine cX6_readLine 1 (some .boolean) 8 [.ref a0] (fun H => (G (fR D H 6 a0 2) = 23) ∧ (fR D H 6 a0 0 = tp ∧ TS D H tp T b ∧ fR D H 6 a0 2 = dd ∧ DS D H dd ∧ SV (pv D H dd) sg)) [(2, 3), (2, 4), (2, 5), (2, 6), (2, 2), (7, 0), (7, 1), (7, 2), (7, 3), (7, 4), (23, 3), (25, 0), (25, 1), (25, 2), (25, 3), (25, 4), (25, 5), (23, 4), (23, 6), (23, 7), (23, 8), (23, 9), (23, 10)] (xI (fun H r H1 => ((0 ≤ r.toInt ∧ r.toInt ≤ 1) ∧ (r.toInt = 1 → Gd D G H → Gd D G H1)) ∧ (RsP D H1 tp dd T (plnF T sg b) r) ∧ (FH D G H H1 dd))) := by
  refine enter (by decide) (Nat.le_of_ble_eq_true rfl) ?_
  intro p e s m args below meth c ls Q hA hQ C hr hO hpre hl
  have hx := C.1
  have hb := C.2.1
  have S : Sd D G [(2, 3), (2, 4), (2, 5), (2, 6), (2, 2), (7, 0), (7, 1), (7, 2), (7, 3), (7, 4), (23, 3), (25, 0), (25, 1), (25, 2), (25, 3), (25, 4), (25, 5), (23, 4), (23, 6), (23, 7), (23, 8), (23, 9), (23, 10)] s.heap s.heap [] := Sd.start hO
  have hl : lv_has ls 1 [(0, .ref a0)] := hl
  obtain ⟨hpre, hf⟩ := hpre
  obtain ⟨htp, ts0, hdd, ds0, dv0⟩ := hf
  have gtp : G tp = 2 := by rw [← htp]; exact hO.rol ga0 rfl (by decide) rfl
  have gdd : G dd = 23 := by rw [← hdd]; exact hpre
  have hT : T.2 ≤ 400 := ts0.le hO gtp
  have tk0 : Gd D G s.heap → Gd D G s.heap := fun h => h
  refine lv_aload_n hx hb dX6_readLine_0 rfl (lv_at hl 0 rfl) ?_
  refine q_grS (T := TX6) C S.1 ga0 0 kF_X6_15 dX6_readLine_1 rfl rfl (by decide) rfl (by decide) kSF_X6_tape (fun g1 => ?_)
  rw [show fR D s.heap 6 a0 0 = tp from htp]
  refine q_lds C ks_X6_19 dX6_readLine_4 (fun a2 ha2 wa2 => ?_)
  refine callV_Pi C S.1 S.2.1.2.1 (c_X9_isWord_f l D G tp a2 5 w_house T b gtp ha2 (Wc.of wa2 kw_house)) kV_X6_21 gtp (⟨trivial, ts0⟩) dX6_readLine_6 hl.1 rfl rfl (by decide) cd_X9_isWord ⟨Nat.le_of_ble_eq_true rfl, Nat.le_of_ble_eq_true rfl, Nat.le_of_ble_eq_true rfl, Nat.le_of_ble_eq_true rfl, Nat.le_of_ble_eq_true rfl⟩ (fun v3 q3 => ?_)
  obtain ⟨q3, fq3⟩ := q3
  rcases fq3 with ⟨z3, y3⟩ | ⟨z3, y3⟩
  · skip
    have k_0 : (0 : Int32).toInt = 0 := by decide
    refine lv_if_eq (tgt := 17) hx hb dX6_readLine_9 (by decide) (fun c4 => ?_) (fun c4 => ?_)
    · have b4 : v3.toInt = (0 : Int32).toInt := i_eq.mp c4
      exact absurd b4 (by omega)
    · have b4 : ¬ v3.toInt = (0 : Int32).toInt := fun z9 => c4 (i_eq.mpr z9)
      refine lv_aload_n hx hb dX6_readLine_12 rfl (lv_at hl 0 rfl) ?_
      refine callV_Ei C S (c_X6_readHouse_f l D G a0 dd sg tp T b ga0 y3) kV_X6_27 ga0 (⟨by rw [S.2.1.fR ga0 rfl (by decide) (by decide +kernel)]; exact hpre, htp, ts0, hdd, ds0, dv0⟩) (by decide +kernel) dX6_readLine_13 hl.1 rfl rfl (by decide) cd_X6_readHouse ⟨Nat.le_of_ble_eq_true rfl, Nat.le_of_ble_eq_true rfl, Nat.le_of_ble_eq_true rfl, Nat.le_of_ble_eq_true rfl, Nat.le_of_ble_eq_true rfl⟩ (fun v5 H5 L5 S5 K5 q5 => ?_)
      obtain ⟨q5, fq5, fr5⟩ := q5
      obtain ⟨q5, tq5⟩ := q5
      have tk5 : Gd D G s.heap → (v5.toInt = 1) → Gd D G H5 := fun h9 k90 => tq5 k90 (tk0 h9)
      rcases fq5 with ⟨c5, s5, y5, z5, ts5, dv5⟩ | ⟨e5, s5, y5, z5, wr5⟩
      · skip
        exact retE_z hQ C S5 hr dX6_readLine_16 (z01 (by omega) (by omega)) (⟨⟨by omega, fun _ h9 => tk5 h9 (by omega)⟩, RsP.ok (s1 := s5) (by simp [plnF, y3, y5]) (by omega) ts5 (dv5), fr5⟩)
      · skip
        exact retE_z hQ C S5 hr dX6_readLine_16 (z01 (by omega) (by omega)) (⟨⟨by omega, fun _ h9 => tk5 h9 (by omega)⟩, RsP.no (s1 := s5) (by simp [plnF, y3, y5]) (by omega) wr5, fr5⟩)
  · skip
    have k_0 : (0 : Int32).toInt = 0 := by decide
    refine lv_if_eq (tgt := 17) hx hb dX6_readLine_9 (by decide) (fun c6 => ?_) (fun c6 => ?_)
    · have b6 : v3.toInt = (0 : Int32).toInt := i_eq.mp c6
      refine lv_aload_n hx hb dX6_readLine_17 rfl (lv_at hl 0 rfl) ?_
      refine q_grS (T := TX6) C S.1 ga0 0 kF_X6_15 dX6_readLine_18 rfl rfl (by decide) rfl (by decide) kSF_X6_tape (fun g7 => ?_)
      rw [show fR D s.heap 6 a0 0 = tp from htp]
      refine q_lds C ks_X6_31 dX6_readLine_21 (fun a8 ha8 wa8 => ?_)
      refine callV_Pi C S.1 S.2.1.2.1 (c_X9_isWord_f l D G tp a8 4 w_sees T b gtp ha8 (Wc.of wa8 kw_sees)) kV_X6_21 gtp (⟨trivial, ts0⟩) dX6_readLine_23 hl.1 rfl rfl (by decide) cd_X9_isWord ⟨Nat.le_of_ble_eq_true rfl, Nat.le_of_ble_eq_true rfl, Nat.le_of_ble_eq_true rfl, Nat.le_of_ble_eq_true rfl, Nat.le_of_ble_eq_true rfl⟩ (fun v9 q9 => ?_)
      obtain ⟨q9, fq9⟩ := q9
      rcases fq9 with ⟨z9, y9⟩ | ⟨z9, y9⟩
      · skip
        refine lv_if_eq (tgt := 34) hx hb dX6_readLine_26 (by decide) (fun c10 => ?_) (fun c10 => ?_)
        · have b10 : v9.toInt = (0 : Int32).toInt := i_eq.mp c10
          exact absurd b10 (by omega)
        · have b10 : ¬ v9.toInt = (0 : Int32).toInt := fun z9 => c10 (i_eq.mpr z9)
          refine lv_aload_n hx hb dX6_readLine_29 rfl (lv_at hl 0 rfl) ?_
          refine callV_Ei C S (c_X6_readSees_f l D G a0 dd sg tp T b ga0 y9) kV_X6_33 ga0 (⟨by rw [S.2.1.fR ga0 rfl (by decide) (by decide +kernel)]; exact hpre, htp, ts0, hdd, ds0, dv0⟩) (by decide +kernel) dX6_readLine_30 hl.1 rfl rfl (by decide) cd_X6_readSees ⟨Nat.le_of_ble_eq_true rfl, Nat.le_of_ble_eq_true rfl, Nat.le_of_ble_eq_true rfl, Nat.le_of_ble_eq_true rfl, Nat.le_of_ble_eq_true rfl⟩ (fun v11 H11 L11 S11 K11 q11 => ?_)
          obtain ⟨q11, fq11, fr11⟩ := q11
          obtain ⟨q11, tq11⟩ := q11
          have tk11 : Gd D G s.heap → (v11.toInt = 1) → Gd D G H11 := fun h9 k90 => tq11 k90 (tk0 h9)
          rcases fq11 with ⟨c11, s11, y11, z11, ts11, dv11⟩ | ⟨e11, s11, y11, z11, wr11⟩
          · skip
            exact retE_z hQ C S11 hr dX6_readLine_33 (z01 (by omega) (by omega)) (⟨⟨by omega, fun _ h9 => tk11 h9 (by omega)⟩, RsP.ok (s1 := s11) (by simp [plnF, y3, y9, y11]) (by omega) ts11 (dv11), fr11⟩)
          · skip
            exact retE_z hQ C S11 hr dX6_readLine_33 (z01 (by omega) (by omega)) (⟨⟨by omega, fun _ h9 => tk11 h9 (by omega)⟩, RsP.no (s1 := s11) (by simp [plnF, y3, y9, y11]) (by omega) wr11, fr11⟩)
      · skip
        refine lv_if_eq (tgt := 34) hx hb dX6_readLine_26 (by decide) (fun c12 => ?_) (fun c12 => ?_)
        · have b12 : v9.toInt = (0 : Int32).toInt := i_eq.mp c12
          refine lv_aload_n hx hb dX6_readLine_34 rfl (lv_at hl 0 rfl) ?_
          refine q_grS (T := TX6) C S.1 ga0 0 kF_X6_15 dX6_readLine_35 rfl rfl (by decide) rfl (by decide) kSF_X6_tape (fun g13 => ?_)
          rw [show fR D s.heap 6 a0 0 = tp from htp]
          refine q_lds C ks_X6_36 dX6_readLine_38 (fun a14 ha14 wa14 => ?_)
          refine callV_Pi C S.1 S.2.1.2.1 (c_X9_isWord_f l D G tp a14 6 w_hearth T b gtp ha14 (Wc.of wa14 kw_hearth)) kV_X6_21 gtp (⟨trivial, ts0⟩) dX6_readLine_40 hl.1 rfl rfl (by decide) cd_X9_isWord ⟨Nat.le_of_ble_eq_true rfl, Nat.le_of_ble_eq_true rfl, Nat.le_of_ble_eq_true rfl, Nat.le_of_ble_eq_true rfl, Nat.le_of_ble_eq_true rfl⟩ (fun v15 q15 => ?_)
          obtain ⟨q15, fq15⟩ := q15
          rcases fq15 with ⟨z15, y15⟩ | ⟨z15, y15⟩
          · skip
            refine lv_if_eq (tgt := 51) hx hb dX6_readLine_43 (by decide) (fun c16 => ?_) (fun c16 => ?_)
            · have b16 : v15.toInt = (0 : Int32).toInt := i_eq.mp c16
              exact absurd b16 (by omega)
            · have b16 : ¬ v15.toInt = (0 : Int32).toInt := fun z9 => c16 (i_eq.mpr z9)
              refine lv_aload_n hx hb dX6_readLine_46 rfl (lv_at hl 0 rfl) ?_
              refine callV_Ei C S (c_X6_readHearth_f l D G a0 dd sg tp T b ga0) kV_X6_38 ga0 (⟨by rw [S.2.1.fR ga0 rfl (by decide) (by decide +kernel)]; exact hpre, htp, ts0, hdd, ds0, dv0⟩) (by decide +kernel) dX6_readLine_47 hl.1 rfl rfl (by decide) cd_X6_readHearth ⟨Nat.le_of_ble_eq_true rfl, Nat.le_of_ble_eq_true rfl, Nat.le_of_ble_eq_true rfl, Nat.le_of_ble_eq_true rfl, Nat.le_of_ble_eq_true rfl⟩ (fun v17 H17 L17 S17 K17 q17 => ?_)
              obtain ⟨q17, fq17, fr17⟩ := q17
              obtain ⟨q17, tq17⟩ := q17
              have tk17 : Gd D G s.heap → (v17.toInt = 1) → Gd D G H17 := fun h9 k90 => tq17 k90 (tk0 h9)
              rcases fq17 with ⟨c17, s17, y17, z17, ts17, dv17⟩ | ⟨e17, s17, y17, z17, wr17⟩
              · skip
                exact retE_z hQ C S17 hr dX6_readLine_50 (z01 (by omega) (by omega)) (⟨⟨by omega, fun _ h9 => tk17 h9 (by omega)⟩, RsP.ok (s1 := s17) (by simp [plnF, y3, y9, y15, y17]) (by omega) ts17 (dv17), fr17⟩)
              · skip
                exact retE_z hQ C S17 hr dX6_readLine_50 (z01 (by omega) (by omega)) (⟨⟨by omega, fun _ h9 => tk17 h9 (by omega)⟩, RsP.no (s1 := s17) (by simp [plnF, y3, y9, y15, y17]) (by omega) wr17, fr17⟩)
          · skip
            refine lv_if_eq (tgt := 51) hx hb dX6_readLine_43 (by decide) (fun c18 => ?_) (fun c18 => ?_)
            · have b18 : v15.toInt = (0 : Int32).toInt := i_eq.mp c18
              refine lv_aload_n hx hb dX6_readLine_51 rfl (lv_at hl 0 rfl) ?_
              refine callV_Ei C S (c_X6_readSetting_f l D G a0 dd sg tp T b ga0 y3 y9 y15) kV_X6_41 ga0 (⟨by rw [S.2.1.fR ga0 rfl (by decide) (by decide +kernel)]; exact hpre, htp, ts0, hdd, ds0, dv0⟩) (by decide +kernel) dX6_readLine_52 hl.1 rfl rfl (by decide) cd_X6_readSetting ⟨Nat.le_of_ble_eq_true rfl, Nat.le_of_ble_eq_true rfl, Nat.le_of_ble_eq_true rfl, Nat.le_of_ble_eq_true rfl, Nat.le_of_ble_eq_true rfl⟩ (fun v19 H19 L19 S19 K19 q19 => ?_)
              obtain ⟨q19, fq19, fr19⟩ := q19
              obtain ⟨q19, tq19⟩ := q19
              have tk19 : Gd D G s.heap → (v19.toInt = 1) → Gd D G H19 := fun h9 k90 => tq19 k90 (tk0 h9)
              rcases fq19 with ⟨c19, s19, y19, z19, ts19, dv19⟩ | ⟨e19, s19, y19, z19, wr19⟩
              · skip
                exact retE_z hQ C S19 hr dX6_readLine_55 (z01 (by omega) (by omega)) (⟨⟨by omega, fun _ h9 => tk19 h9 (by omega)⟩, RsP.ok (s1 := s19) (y19) (by omega) ts19 (dv19), fr19⟩)
              · skip
                exact retE_z hQ C S19 hr dX6_readLine_55 (z01 (by omega) (by omega)) (⟨⟨by omega, fun _ h9 => tk19 h9 (by omega)⟩, RsP.no (s1 := s19) (y19) (by omega) wr19, fr19⟩)
            · have b18 : ¬ v15.toInt = (0 : Int32).toInt := fun z9 => c18 (i_eq.mpr z9)
              exact absurd b18 (by omega)
        · have b12 : ¬ v9.toInt = (0 : Int32).toInt := fun z9 => c12 (i_eq.mpr z9)
          exact absurd b12 (by omega)
    · have b6 : ¬ v3.toInt = (0 : Int32).toInt := fun z9 => c6 (i_eq.mpr z9)
      exact absurd b6 (by omega)
