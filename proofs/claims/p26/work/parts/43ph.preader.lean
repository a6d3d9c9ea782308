set_option maxRecDepth 100000 in
set_option maxHeartbeats 4000000 in
theorem c_X6_readSetting_f (l : Launch) (D : DD) (G : Nat → Nat) (a0 : Nat) (dd : Nat) (sg : Sg) (tp : Nat) (T : Tx) (b : Nat) (ga0 : G a0 = 20) (hn1 : isW T b w_house = false) (hn2 : isW T b w_sees = false) (hn3 : isW T b w_hearth = false) : CE l D G yX6_readSetting cX6_readSetting 1 (some .boolean) 7 [.ref a0] (fun H => (G (fR D H 6 a0 2) = 23) ∧ (fR D H 6 a0 0 = tp ∧ TS D H tp T b ∧ fR D H 6 a0 2 = dd ∧ DS D H dd ∧ SV (pv D H dd) sg)) [(2, 3), (2, 4), (2, 5), (2, 6), (2, 2), (23, 6), (23, 7), (23, 8), (23, 9), (23, 10)] (xI (fun H r H1 => ((0 ≤ r.toInt ∧ r.toInt ≤ 1) ∧ (r.toInt = 1 → Gd D G H → Gd D G H1)) ∧ (RsP D H1 tp dd T (plnF T sg b) r) ∧ (FH D G H H1 dd))) := by
  refine enter (by decide) (Nat.le_of_ble_eq_true rfl) ?_
  intro p e s m args below meth c ls Q hA hQ C hr hO hpre hl
  have hx := C.1
  have hb := C.2.1
  have S : Sd D G [(2, 3), (2, 4), (2, 5), (2, 6), (2, 2), (23, 6), (23, 7), (23, 8), (23, 9), (23, 10)] s.heap s.heap [] := Sd.start hO
  have hl : lv_has ls 1 [(0, .ref a0)] := hl
  obtain ⟨hpre, hf⟩ := hpre
  obtain ⟨htp, ts0, hdd, ds0, dv0⟩ := hf
  have gtp : G tp = 2 := by rw [← htp]; exact hO.rol ga0 rfl (by decide) rfl
  have gdd : G dd = 23 := by rw [← hdd]; exact hpre
  have hT : T.2 ≤ 400 := ts0.le hO gtp
  have tk0 : Gd D G s.heap → Gd D G s.heap := fun h => h
  refine lv_aload_n hx hb dX6_readSetting_0 rfl (lv_at hl 0 rfl) ?_
  refine q_grS (T := TX6) C S.1 ga0 0 kF_X6_15 dX6_readSetting_1 rfl rfl (by decide) rfl (by decide) kSF_X6_tape (fun g1 => ?_)
  rw [show fR D s.heap 6 a0 0 = tp from htp]
  refine q_lds C ks_X6_154 dX6_readSetting_4 (fun a2 ha2 wa2 => ?_)
  refine callV_Pi C S.1 S.2.1.2.1 (c_X9_isWord_f l D G tp a2 4 w_rate T b gtp ha2 (Wc.of wa2 kw_rate)) kV_X6_21 gtp (⟨trivial, ts0⟩) dX6_readSetting_6 hl.1 rfl rfl (by decide) cd_X9_isWord ⟨Nat.le_of_ble_eq_true rfl, Nat.le_of_ble_eq_true rfl, Nat.le_of_ble_eq_true rfl, Nat.le_of_ble_eq_true rfl, Nat.le_of_ble_eq_true rfl⟩ (fun v3 q3 => ?_)
  obtain ⟨q3, fq3⟩ := q3
  rcases fq3 with ⟨z3, y3⟩ | ⟨z3, y3⟩
  · skip
    have k_0 : (0 : Int32).toInt = 0 := by decide
    refine lv_if_eq (tgt := 45) hx hb dX6_readSetting_9 (by decide) (fun c4 => ?_) (fun c4 => ?_)
    · have b4 : v3.toInt = (0 : Int32).toInt := i_eq.mp c4
      exact absurd b4 (by omega)
    · have b4 : ¬ v3.toInt = (0 : Int32).toInt := fun z9 => c4 (i_eq.mpr z9)
      refine lv_aload_n hx hb dX6_readSetting_12 rfl (lv_at hl 0 rfl) ?_
      refine q_grD (T := TX6) C S.1 ga0 2 kF_X6_11 dX6_readSetting_13 rfl rfl (by decide) rfl (by decide) rfl (fun g5 => ?_)
      replace g5 : G (fR D s.heap 6 a0 2) = 23 := by rw [S.2.1.fR ga0 rfl (by decide) (by decide +kernel)]; exact hpre
      rw [show fR D s.heap 6 a0 2 = dd from hdd]
      refine lv_aload_n hx hb dX6_readSetting_16 rfl (lv_at hl 0 rfl) ?_
      refine q_lds C ks_X6_154 dX6_readSetting_17 (fun a6 ha6 wa6 => ?_)
      refine lv_iconst (v := 0) hx hb dX6_readSetting_19 (by decide) ?_
      refine lv_bipush (v := 20) hx hb dX6_readSetting_20 (by decide) ?_
      have k_20 : (20 : Int32).toInt = 20 := by decide
      refine callV_Ei C S (c_X6_numberAfter_f l D G a0 a6 4 (0 : Int32) (20 : Int32) w_rate 0 20 tp T b ga0 ha6 (by omega) (Wc.of wa6 kw_rate) (by omega) (by omega)) kV_X6_57 ga0 (⟨trivial, ⟨htp, ts0⟩⟩) (by decide +kernel) dX6_readSetting_22 hl.1 rfl rfl (by decide) cd_X6_numberAfter ⟨Nat.le_of_ble_eq_true rfl, Nat.le_of_ble_eq_true rfl, Nat.le_of_ble_eq_true rfl, Nat.le_of_ble_eq_true rfl, Nat.le_of_ble_eq_true rfl⟩ (fun v7 H7 L7 S7 K7 q7 => ?_)
      obtain ⟨q7, fq7⟩ := q7
      have tk7 : Gd D G s.heap → Gd D G H7 := fun h9  => (tk0 h9).keep K7 (by decide +kernel)
      have dv7 := dv_keep dv0 S.1 (Or.inr gdd) K7
      rcases fq7 with ⟨w7, y7, z7, ts7⟩ | ⟨w7, y7, z7, wr7⟩ | ⟨w7, z7, wr7⟩
      · clear q7
        have u7 : 0 ≤ v7.toInt ∧ v7.toInt ≤ 20 := by have z9 := num_r (T := T) (b := nx T b) (lo := 0) (hi := 20) (by decide); omega
        refine q_put (T := TX5) C S7 gdd 6 kF_X6_156 dX6_readSetting_25 rfl rfl (by decide) (by decide) rfl rfl rfl rfl rfl (vok_a rfl) (by decide +kernel) (fun H8 L8 S8 P8 => ?_)
        have tk8 : Gd D G s.heap → Gd D G H8 := fun h9  => (tk7 h9).put gdd P8 (Or.inl (by decide))
        have ts8 := ts7.cells S7.1 gtp gdd (by decide) (by decide) P8.2.2.1
        have dv8 := dv_keep dv7 S7.1 (Or.inr gdd) (Pt.keep gdd rfl (by decide) P8)
        refine lv_aload_n hx hb dX6_readSetting_28 rfl (lv_at hl 0 rfl) ?_
        refine q_grD (T := TX6) C S8.1 ga0 2 kF_X6_11 dX6_readSetting_29 rfl rfl (by decide) rfl (by decide) rfl (fun g9 => ?_)
        replace g9 : G (fR D H8 6 a0 2) = 23 := by rw [S8.2.1.fR ga0 rfl (by decide) (by decide +kernel)]; exact hpre
        rw [show fR D H8 6 a0 2 = dd from (S8.2.1.fR ga0 rfl (by decide) (by decide +kernel)).trans hdd]
        refine q_gi (T := TX5) C S8.1 gdd 6 kF_X6_156 dX6_readSetting_32 rfl rfl (by decide) rfl (by decide) rfl ?_
        have c10 : (fI D H8 5 dd 6).toInt = v7.toInt := by rw [Pt.i P8]
        refine lv_iconst (v := -1) hx hb dX6_readSetting_35 (by decide) ?_
        have k_m1 : (-1 : Int32).toInt = -1 := by decide
        refine lv_icmp_eq (tgt := 43) hx hb dX6_readSetting_36 (by decide) (fun c11 => ?_) (fun c11 => ?_)
        · have b11 : (fI D H8 5 dd 6).toInt = (-1 : Int32).toInt := i_eq.mp c11
          exact absurd b11 (by omega)
        · have b11 : ¬ (fI D H8 5 dd 6).toInt = (-1 : Int32).toInt := fun z9 => c11 (i_eq.mpr z9)
          refine lv_iconst (v := 1) hx hb dX6_readSetting_39 (by decide) ?_
          refine lv_goto (tgt := 44) hx hb dX6_readSetting_40 (by decide) ?_
          have k_1 : (1 : Int32).toInt = 1 := by decide
          exact retE_z hQ C S8 hr dX6_readSetting_44 (z01 (by omega) (by omega)) (⟨⟨by omega, fun _ h9 => tk8 h9⟩, RsP.ok (s1 := sg) (by simp [plnF, setF, hn1, hn2, hn3, y3, w7, y7]) (by omega) ts8 (dv8), fun q hq _ => S8.2.1.fI hq rfl (by decide) (by decide +kernel)⟩)
      · clear q7
        refine q_put (T := TX5) C S7 gdd 6 kF_X6_156 dX6_readSetting_25 rfl rfl (by decide) (by decide) rfl rfl rfl rfl rfl (vok_a rfl) (by decide +kernel) (fun H12 L12 S12 P12 => ?_)
        have tk12 : Gd D G s.heap → Gd D G H12 := fun h9  => (tk7 h9).put gdd P12 (Or.inl (by decide))
        have wr12 : (fI D H12 9 tp 2).toInt = (((nx T b) : Nat) : Int) := by rw [Pt.f P12 (ne_role gtp gdd (by decide))]; exact wr7
        have dv12 := dv_keep dv7 S7.1 (Or.inr gdd) (Pt.keep gdd rfl (by decide) P12)
        refine lv_aload_n hx hb dX6_readSetting_28 rfl (lv_at hl 0 rfl) ?_
        refine q_grD (T := TX6) C S12.1 ga0 2 kF_X6_11 dX6_readSetting_29 rfl rfl (by decide) rfl (by decide) rfl (fun g13 => ?_)
        replace g13 : G (fR D H12 6 a0 2) = 23 := by rw [S12.2.1.fR ga0 rfl (by decide) (by decide +kernel)]; exact hpre
        rw [show fR D H12 6 a0 2 = dd from (S12.2.1.fR ga0 rfl (by decide) (by decide +kernel)).trans hdd]
        refine q_gi (T := TX5) C S12.1 gdd 6 kF_X6_156 dX6_readSetting_32 rfl rfl (by decide) rfl (by decide) rfl ?_
        have c14 : (fI D H12 5 dd 6).toInt = v7.toInt := by rw [Pt.i P12]
        refine lv_iconst (v := -1) hx hb dX6_readSetting_35 (by decide) ?_
        have k_m1 : (-1 : Int32).toInt = -1 := by decide
        refine lv_icmp_eq (tgt := 43) hx hb dX6_readSetting_36 (by decide) (fun c15 => ?_) (fun c15 => ?_)
        · have b15 : (fI D H12 5 dd 6).toInt = (-1 : Int32).toInt := i_eq.mp c15
          refine lv_iconst (v := 0) hx hb dX6_readSetting_43 (by decide) ?_
          exact retE_z hQ C S12 hr dX6_readSetting_44 (z01 (by omega) (by omega)) (⟨⟨by omega, fun _ h9 => tk12 h9⟩, RsP.no (s1 := sg) (by simp [plnF, setF, hn1, hn2, hn3, y3, w7, y7]) (by omega) wr12, fun q hq _ => S12.2.1.fI hq rfl (by decide) (by decide +kernel)⟩)
        · have b15 : ¬ (fI D H12 5 dd 6).toInt = (-1 : Int32).toInt := fun z9 => c15 (i_eq.mpr z9)
          exact absurd b15 (by omega)
      · exact absurd y3 (by rw [w7]; decide)
  · skip
    have k_0 : (0 : Int32).toInt = 0 := by decide
    refine lv_if_eq (tgt := 45) hx hb dX6_readSetting_9 (by decide) (fun c16 => ?_) (fun c16 => ?_)
    · have b16 : v3.toInt = (0 : Int32).toInt := i_eq.mp c16
      refine lv_aload_n hx hb dX6_readSetting_45 rfl (lv_at hl 0 rfl) ?_
      refine q_grS (T := TX6) C S.1 ga0 0 kF_X6_15 dX6_readSetting_46 rfl rfl (by decide) rfl (by decide) kSF_X6_tape (fun g17 => ?_)
      rw [show fR D s.heap 6 a0 0 = tp from htp]
      refine q_lds C ks_X6_158 dX6_readSetting_49 (fun a18 ha18 wa18 => ?_)
      refine callV_Pi C S.1 S.2.1.2.1 (c_X9_isWord_f l D G tp a18 4 w_fine T b gtp ha18 (Wc.of wa18 kw_fine)) kV_X6_21 gtp (⟨trivial, ts0⟩) dX6_readSetting_51 hl.1 rfl rfl (by decide) cd_X9_isWord ⟨Nat.le_of_ble_eq_true rfl, Nat.le_of_ble_eq_true rfl, Nat.le_of_ble_eq_true rfl, Nat.le_of_ble_eq_true rfl, Nat.le_of_ble_eq_true rfl⟩ (fun v19 q19 => ?_)
      obtain ⟨q19, fq19⟩ := q19
      rcases fq19 with ⟨z19, y19⟩ | ⟨z19, y19⟩
      · skip
        refine lv_if_eq (tgt := 90) hx hb dX6_readSetting_54 (by decide) (fun c20 => ?_) (fun c20 => ?_)
        · have b20 : v19.toInt = (0 : Int32).toInt := i_eq.mp c20
          exact absurd b20 (by omega)
        · have b20 : ¬ v19.toInt = (0 : Int32).toInt := fun z9 => c20 (i_eq.mpr z9)
          refine lv_aload_n hx hb dX6_readSetting_57 rfl (lv_at hl 0 rfl) ?_
          refine q_grD (T := TX6) C S.1 ga0 2 kF_X6_11 dX6_readSetting_58 rfl rfl (by decide) rfl (by decide) rfl (fun g21 => ?_)
          replace g21 : G (fR D s.heap 6 a0 2) = 23 := by rw [S.2.1.fR ga0 rfl (by decide) (by decide +kernel)]; exact hpre
          rw [show fR D s.heap 6 a0 2 = dd from hdd]
          refine lv_aload_n hx hb dX6_readSetting_61 rfl (lv_at hl 0 rfl) ?_
          refine q_lds C ks_X6_158 dX6_readSetting_62 (fun a22 ha22 wa22 => ?_)
          refine lv_iconst (v := 0) hx hb dX6_readSetting_64 (by decide) ?_
          refine lv_bipush (v := 50) hx hb dX6_readSetting_65 (by decide) ?_
          have k_50 : (50 : Int32).toInt = 50 := by decide
          refine callV_Ei C S (c_X6_numberAfter_f l D G a0 a22 4 (0 : Int32) (50 : Int32) w_fine 0 50 tp T b ga0 ha22 (by omega) (Wc.of wa22 kw_fine) (by omega) (by omega)) kV_X6_57 ga0 (⟨trivial, ⟨htp, ts0⟩⟩) (by decide +kernel) dX6_readSetting_67 hl.1 rfl rfl (by decide) cd_X6_numberAfter ⟨Nat.le_of_ble_eq_true rfl, Nat.le_of_ble_eq_true rfl, Nat.le_of_ble_eq_true rfl, Nat.le_of_ble_eq_true rfl, Nat.le_of_ble_eq_true rfl⟩ (fun v23 H23 L23 S23 K23 q23 => ?_)
          obtain ⟨q23, fq23⟩ := q23
          have tk23 : Gd D G s.heap → Gd D G H23 := fun h9  => (tk0 h9).keep K23 (by decide +kernel)
          have dv23 := dv_keep dv0 S.1 (Or.inr gdd) K23
          rcases fq23 with ⟨w23, y23, z23, ts23⟩ | ⟨w23, y23, z23, wr23⟩ | ⟨w23, z23, wr23⟩
          · clear q23
            have u23 : 0 ≤ v23.toInt ∧ v23.toInt ≤ 50 := by have z9 := num_r (T := T) (b := nx T b) (lo := 0) (hi := 50) (by decide); omega
            refine q_put (T := TX5) C S23 gdd 7 kF_X6_160 dX6_readSetting_70 rfl rfl (by decide) (by decide) rfl rfl rfl rfl rfl (vok_a rfl) (by decide +kernel) (fun H24 L24 S24 P24 => ?_)
            have tk24 : Gd D G s.heap → Gd D G H24 := fun h9  => (tk23 h9).put gdd P24 (Or.inl (by decide))
            have ts24 := ts23.cells S23.1 gtp gdd (by decide) (by decide) P24.2.2.1
            have dv24 := dv_keep dv23 S23.1 (Or.inr gdd) (Pt.keep gdd rfl (by decide) P24)
            refine lv_aload_n hx hb dX6_readSetting_73 rfl (lv_at hl 0 rfl) ?_
            refine q_grD (T := TX6) C S24.1 ga0 2 kF_X6_11 dX6_readSetting_74 rfl rfl (by decide) rfl (by decide) rfl (fun g25 => ?_)
            replace g25 : G (fR D H24 6 a0 2) = 23 := by rw [S24.2.1.fR ga0 rfl (by decide) (by decide +kernel)]; exact hpre
            rw [show fR D H24 6 a0 2 = dd from (S24.2.1.fR ga0 rfl (by decide) (by decide +kernel)).trans hdd]
            refine q_gi (T := TX5) C S24.1 gdd 7 kF_X6_160 dX6_readSetting_77 rfl rfl (by decide) rfl (by decide) rfl ?_
            have c26 : (fI D H24 5 dd 7).toInt = v23.toInt := by rw [Pt.i P24]
            refine lv_iconst (v := -1) hx hb dX6_readSetting_80 (by decide) ?_
            have k_m1 : (-1 : Int32).toInt = -1 := by decide
            refine lv_icmp_eq (tgt := 88) hx hb dX6_readSetting_81 (by decide) (fun c27 => ?_) (fun c27 => ?_)
            · have b27 : (fI D H24 5 dd 7).toInt = (-1 : Int32).toInt := i_eq.mp c27
              exact absurd b27 (by omega)
            · have b27 : ¬ (fI D H24 5 dd 7).toInt = (-1 : Int32).toInt := fun z9 => c27 (i_eq.mpr z9)
              refine lv_iconst (v := 1) hx hb dX6_readSetting_84 (by decide) ?_
              refine lv_goto (tgt := 89) hx hb dX6_readSetting_85 (by decide) ?_
              have k_1 : (1 : Int32).toInt = 1 := by decide
              exact retE_z hQ C S24 hr dX6_readSetting_89 (z01 (by omega) (by omega)) (⟨⟨by omega, fun _ h9 => tk24 h9⟩, RsP.ok (s1 := sg) (by simp [plnF, setF, hn1, hn2, hn3, y3, y19, w23, y23]) (by omega) ts24 (dv24), fun q hq _ => S24.2.1.fI hq rfl (by decide) (by decide +kernel)⟩)
          · clear q23
            refine q_put (T := TX5) C S23 gdd 7 kF_X6_160 dX6_readSetting_70 rfl rfl (by decide) (by decide) rfl rfl rfl rfl rfl (vok_a rfl) (by decide +kernel) (fun H28 L28 S28 P28 => ?_)
            have tk28 : Gd D G s.heap → Gd D G H28 := fun h9  => (tk23 h9).put gdd P28 (Or.inl (by decide))
            have wr28 : (fI D H28 9 tp 2).toInt = (((nx T b) : Nat) : Int) := by rw [Pt.f P28 (ne_role gtp gdd (by decide))]; exact wr23
            have dv28 := dv_keep dv23 S23.1 (Or.inr gdd) (Pt.keep gdd rfl (by decide) P28)
            refine lv_aload_n hx hb dX6_readSetting_73 rfl (lv_at hl 0 rfl) ?_
            refine q_grD (T := TX6) C S28.1 ga0 2 kF_X6_11 dX6_readSetting_74 rfl rfl (by decide) rfl (by decide) rfl (fun g29 => ?_)
            replace g29 : G (fR D H28 6 a0 2) = 23 := by rw [S28.2.1.fR ga0 rfl (by decide) (by decide +kernel)]; exact hpre
            rw [show fR D H28 6 a0 2 = dd from (S28.2.1.fR ga0 rfl (by decide) (by decide +kernel)).trans hdd]
            refine q_gi (T := TX5) C S28.1 gdd 7 kF_X6_160 dX6_readSetting_77 rfl rfl (by decide) rfl (by decide) rfl ?_
            have c30 : (fI D H28 5 dd 7).toInt = v23.toInt := by rw [Pt.i P28]
            refine lv_iconst (v := -1) hx hb dX6_readSetting_80 (by decide) ?_
            have k_m1 : (-1 : Int32).toInt = -1 := by decide
            refine lv_icmp_eq (tgt := 88) hx hb dX6_readSetting_81 (by decide) (fun c31 => ?_) (fun c31 => ?_)
            · have b31 : (fI D H28 5 dd 7).toInt = (-1 : Int32).toInt := i_eq.mp c31
              refine lv_iconst (v := 0) hx hb dX6_readSetting_88 (by decide) ?_
              exact retE_z hQ C S28 hr dX6_readSetting_89 (z01 (by omega) (by omega)) (⟨⟨by omega, fun _ h9 => tk28 h9⟩, RsP.no (s1 := sg) (by simp [plnF, setF, hn1, hn2, hn3, y3, y19, w23, y23]) (by omega) wr28, fun q hq _ => S28.2.1.fI hq rfl (by decide) (by decide +kernel)⟩)
            · have b31 : ¬ (fI D H28 5 dd 7).toInt = (-1 : Int32).toInt := fun z9 => c31 (i_eq.mpr z9)
              exact absurd b31 (by omega)
          · exact absurd y19 (by rw [w23]; decide)
      · skip
        refine lv_if_eq (tgt := 90) hx hb dX6_readSetting_54 (by decide) (fun c32 => ?_) (fun c32 => ?_)
        · have b32 : v19.toInt = (0 : Int32).toInt := i_eq.mp c32
          refine lv_aload_n hx hb dX6_readSetting_90 rfl (lv_at hl 0 rfl) ?_
          refine q_grS (T := TX6) C S.1 ga0 0 kF_X6_15 dX6_readSetting_91 rfl rfl (by decide) rfl (by decide) kSF_X6_tape (fun g33 => ?_)
          rw [show fR D s.heap 6 a0 0 = tp from htp]
          refine q_lds C ks_X6_162 dX6_readSetting_94 (fun a34 ha34 wa34 => ?_)
          refine callV_Pi C S.1 S.2.1.2.1 (c_X9_isWord_f l D G tp a34 5 w_visit T b gtp ha34 (Wc.of wa34 kw_visit)) kV_X6_21 gtp (⟨trivial, ts0⟩) dX6_readSetting_96 hl.1 rfl rfl (by decide) cd_X9_isWord ⟨Nat.le_of_ble_eq_true rfl, Nat.le_of_ble_eq_true rfl, Nat.le_of_ble_eq_true rfl, Nat.le_of_ble_eq_true rfl, Nat.le_of_ble_eq_true rfl⟩ (fun v35 q35 => ?_)
          obtain ⟨q35, fq35⟩ := q35
          rcases fq35 with ⟨z35, y35⟩ | ⟨z35, y35⟩
          · skip
            refine lv_if_eq (tgt := 135) hx hb dX6_readSetting_99 (by decide) (fun c36 => ?_) (fun c36 => ?_)
            · have b36 : v35.toInt = (0 : Int32).toInt := i_eq.mp c36
              exact absurd b36 (by omega)
            · have b36 : ¬ v35.toInt = (0 : Int32).toInt := fun z9 => c36 (i_eq.mpr z9)
              refine lv_aload_n hx hb dX6_readSetting_102 rfl (lv_at hl 0 rfl) ?_
              refine q_grD (T := TX6) C S.1 ga0 2 kF_X6_11 dX6_readSetting_103 rfl rfl (by decide) rfl (by decide) rfl (fun g37 => ?_)
              replace g37 : G (fR D s.heap 6 a0 2) = 23 := by rw [S.2.1.fR ga0 rfl (by decide) (by decide +kernel)]; exact hpre
              rw [show fR D s.heap 6 a0 2 = dd from hdd]
              refine lv_aload_n hx hb dX6_readSetting_106 rfl (lv_at hl 0 rfl) ?_
              refine q_lds C ks_X6_162 dX6_readSetting_107 (fun a38 ha38 wa38 => ?_)
              refine lv_iconst (v := 0) hx hb dX6_readSetting_109 (by decide) ?_
              refine lv_bipush (v := 100) hx hb dX6_readSetting_110 (by decide) ?_
              have k_100 : (100 : Int32).toInt = 100 := by decide
              refine callV_Ei C S (c_X6_numberAfter_f l D G a0 a38 5 (0 : Int32) (100 : Int32) w_visit 0 100 tp T b ga0 ha38 (by omega) (Wc.of wa38 kw_visit) (by omega) (by omega)) kV_X6_57 ga0 (⟨trivial, ⟨htp, ts0⟩⟩) (by decide +kernel) dX6_readSetting_112 hl.1 rfl rfl (by decide) cd_X6_numberAfter ⟨Nat.le_of_ble_eq_true rfl, Nat.le_of_ble_eq_true rfl, Nat.le_of_ble_eq_true rfl, Nat.le_of_ble_eq_true rfl, Nat.le_of_ble_eq_true rfl⟩ (fun v39 H39 L39 S39 K39 q39 => ?_)
              obtain ⟨q39, fq39⟩ := q39
              have tk39 : Gd D G s.heap → Gd D G H39 := fun h9  => (tk0 h9).keep K39 (by decide +kernel)
              have dv39 := dv_keep dv0 S.1 (Or.inr gdd) K39
              rcases fq39 with ⟨w39, y39, z39, ts39⟩ | ⟨w39, y39, z39, wr39⟩ | ⟨w39, z39, wr39⟩
              · clear q39
                have u39 : 0 ≤ v39.toInt ∧ v39.toInt ≤ 100 := by have z9 := num_r (T := T) (b := nx T b) (lo := 0) (hi := 100) (by decide); omega
                refine q_put (T := TX5) C S39 gdd 8 kF_X6_164 dX6_readSetting_115 rfl rfl (by decide) (by decide) rfl rfl rfl rfl rfl (vok_a rfl) (by decide +kernel) (fun H40 L40 S40 P40 => ?_)
                have tk40 : Gd D G s.heap → Gd D G H40 := fun h9  => (tk39 h9).put gdd P40 (Or.inl (by decide))
                have ts40 := ts39.cells S39.1 gtp gdd (by decide) (by decide) P40.2.2.1
                refine lv_aload_n hx hb dX6_readSetting_118 rfl (lv_at hl 0 rfl) ?_
                refine q_grD (T := TX6) C S40.1 ga0 2 kF_X6_11 dX6_readSetting_119 rfl rfl (by decide) rfl (by decide) rfl (fun g41 => ?_)
                replace g41 : G (fR D H40 6 a0 2) = 23 := by rw [S40.2.1.fR ga0 rfl (by decide) (by decide +kernel)]; exact hpre
                rw [show fR D H40 6 a0 2 = dd from (S40.2.1.fR ga0 rfl (by decide) (by decide +kernel)).trans hdd]
                refine q_gi (T := TX5) C S40.1 gdd 8 kF_X6_164 dX6_readSetting_122 rfl rfl (by decide) rfl (by decide) rfl ?_
                have c42 : (fI D H40 5 dd 8).toInt = v39.toInt := by rw [Pt.i P40]
                refine lv_iconst (v := -1) hx hb dX6_readSetting_125 (by decide) ?_
                have k_m1 : (-1 : Int32).toInt = -1 := by decide
                refine lv_icmp_eq (tgt := 133) hx hb dX6_readSetting_126 (by decide) (fun c43 => ?_) (fun c43 => ?_)
                · have b43 : (fI D H40 5 dd 8).toInt = (-1 : Int32).toInt := i_eq.mp c43
                  exact absurd b43 (by omega)
                · have b43 : ¬ (fI D H40 5 dd 8).toInt = (-1 : Int32).toInt := fun z9 => c43 (i_eq.mpr z9)
                  refine lv_iconst (v := 1) hx hb dX6_readSetting_129 (by decide) ?_
                  refine lv_goto (tgt := 134) hx hb dX6_readSetting_130 (by decide) ?_
                  have k_1 : (1 : Int32).toInt = 1 := by decide
                  exact retE_z hQ C S40 hr dX6_readSetting_134 (z01 (by omega) (by omega)) (⟨⟨by omega, fun _ h9 => tk40 h9⟩, RsP.ok (s1 := sup sg 15 (num T (nx T b) 0 100)) (by simp [plnF, setF, hn1, hn2, hn3, y3, y19, y35, w39, y39]) (by omega) ts40 (by rw [← z39]; exact DV.visit dv39 S39.1 gdd P40), fun q hq _ => S40.2.1.fI hq rfl (by decide) (by decide +kernel)⟩)
              · clear q39
                refine q_put (T := TX5) C S39 gdd 8 kF_X6_164 dX6_readSetting_115 rfl rfl (by decide) (by decide) rfl rfl rfl rfl rfl (vok_a rfl) (by decide +kernel) (fun H44 L44 S44 P44 => ?_)
                have tk44 : Gd D G s.heap → Gd D G H44 := fun h9  => (tk39 h9).put gdd P44 (Or.inl (by decide))
                have wr44 : (fI D H44 9 tp 2).toInt = (((nx T b) : Nat) : Int) := by rw [Pt.f P44 (ne_role gtp gdd (by decide))]; exact wr39
                refine lv_aload_n hx hb dX6_readSetting_118 rfl (lv_at hl 0 rfl) ?_
                refine q_grD (T := TX6) C S44.1 ga0 2 kF_X6_11 dX6_readSetting_119 rfl rfl (by decide) rfl (by decide) rfl (fun g45 => ?_)
                replace g45 : G (fR D H44 6 a0 2) = 23 := by rw [S44.2.1.fR ga0 rfl (by decide) (by decide +kernel)]; exact hpre
                rw [show fR D H44 6 a0 2 = dd from (S44.2.1.fR ga0 rfl (by decide) (by decide +kernel)).trans hdd]
                refine q_gi (T := TX5) C S44.1 gdd 8 kF_X6_164 dX6_readSetting_122 rfl rfl (by decide) rfl (by decide) rfl ?_
                have c46 : (fI D H44 5 dd 8).toInt = v39.toInt := by rw [Pt.i P44]
                refine lv_iconst (v := -1) hx hb dX6_readSetting_125 (by decide) ?_
                have k_m1 : (-1 : Int32).toInt = -1 := by decide
                refine lv_icmp_eq (tgt := 133) hx hb dX6_readSetting_126 (by decide) (fun c47 => ?_) (fun c47 => ?_)
                · have b47 : (fI D H44 5 dd 8).toInt = (-1 : Int32).toInt := i_eq.mp c47
                  refine lv_iconst (v := 0) hx hb dX6_readSetting_133 (by decide) ?_
                  exact retE_z hQ C S44 hr dX6_readSetting_134 (z01 (by omega) (by omega)) (⟨⟨by omega, fun _ h9 => tk44 h9⟩, RsP.no (s1 := sg) (by simp [plnF, setF, hn1, hn2, hn3, y3, y19, y35, w39, y39]) (by omega) wr44, fun q hq _ => S44.2.1.fI hq rfl (by decide) (by decide +kernel)⟩)
                · have b47 : ¬ (fI D H44 5 dd 8).toInt = (-1 : Int32).toInt := fun z9 => c47 (i_eq.mpr z9)
                  exact absurd b47 (by omega)
              · exact absurd y35 (by rw [w39]; decide)
          · skip
            refine lv_if_eq (tgt := 135) hx hb dX6_readSetting_99 (by decide) (fun c48 => ?_) (fun c48 => ?_)
            · have b48 : v35.toInt = (0 : Int32).toInt := i_eq.mp c48
              refine lv_aload_n hx hb dX6_readSetting_135 rfl (lv_at hl 0 rfl) ?_
              refine q_grS (T := TX6) C S.1 ga0 0 kF_X6_15 dX6_readSetting_136 rfl rfl (by decide) rfl (by decide) kSF_X6_tape (fun g49 => ?_)
              rw [show fR D s.heap 6 a0 0 = tp from htp]
              refine q_lds C ks_X6_166 dX6_readSetting_139 (fun a50 ha50 wa50 => ?_)
              refine callV_Pi C S.1 S.2.1.2.1 (c_X9_isWord_f l D G tp a50 3 w_bed T b gtp ha50 (Wc.of wa50 kw_bed)) kV_X6_21 gtp (⟨trivial, ts0⟩) dX6_readSetting_141 hl.1 rfl rfl (by decide) cd_X9_isWord ⟨Nat.le_of_ble_eq_true rfl, Nat.le_of_ble_eq_true rfl, Nat.le_of_ble_eq_true rfl, Nat.le_of_ble_eq_true rfl, Nat.le_of_ble_eq_true rfl⟩ (fun v51 q51 => ?_)
              obtain ⟨q51, fq51⟩ := q51
              rcases fq51 with ⟨z51, y51⟩ | ⟨z51, y51⟩
              · skip
                refine lv_if_eq (tgt := 180) hx hb dX6_readSetting_144 (by decide) (fun c52 => ?_) (fun c52 => ?_)
                · have b52 : v51.toInt = (0 : Int32).toInt := i_eq.mp c52
                  exact absurd b52 (by omega)
                · have b52 : ¬ v51.toInt = (0 : Int32).toInt := fun z9 => c52 (i_eq.mpr z9)
                  refine lv_aload_n hx hb dX6_readSetting_147 rfl (lv_at hl 0 rfl) ?_
                  refine q_grD (T := TX6) C S.1 ga0 2 kF_X6_11 dX6_readSetting_148 rfl rfl (by decide) rfl (by decide) rfl (fun g53 => ?_)
                  replace g53 : G (fR D s.heap 6 a0 2) = 23 := by rw [S.2.1.fR ga0 rfl (by decide) (by decide +kernel)]; exact hpre
                  rw [show fR D s.heap 6 a0 2 = dd from hdd]
                  refine lv_aload_n hx hb dX6_readSetting_151 rfl (lv_at hl 0 rfl) ?_
                  refine q_lds C ks_X6_166 dX6_readSetting_152 (fun a54 ha54 wa54 => ?_)
                  refine lv_iconst (v := 0) hx hb dX6_readSetting_154 (by decide) ?_
                  refine lv_bipush (v := 20) hx hb dX6_readSetting_155 (by decide) ?_
                  have k_20 : (20 : Int32).toInt = 20 := by decide
                  refine callV_Ei C S (c_X6_numberAfter_f l D G a0 a54 3 (0 : Int32) (20 : Int32) w_bed 0 20 tp T b ga0 ha54 (by omega) (Wc.of wa54 kw_bed) (by omega) (by omega)) kV_X6_57 ga0 (⟨trivial, ⟨htp, ts0⟩⟩) (by decide +kernel) dX6_readSetting_157 hl.1 rfl rfl (by decide) cd_X6_numberAfter ⟨Nat.le_of_ble_eq_true rfl, Nat.le_of_ble_eq_true rfl, Nat.le_of_ble_eq_true rfl, Nat.le_of_ble_eq_true rfl, Nat.le_of_ble_eq_true rfl⟩ (fun v55 H55 L55 S55 K55 q55 => ?_)
                  obtain ⟨q55, fq55⟩ := q55
                  have tk55 : Gd D G s.heap → Gd D G H55 := fun h9  => (tk0 h9).keep K55 (by decide +kernel)
                  have dv55 := dv_keep dv0 S.1 (Or.inr gdd) K55
                  rcases fq55 with ⟨w55, y55, z55, ts55⟩ | ⟨w55, y55, z55, wr55⟩ | ⟨w55, z55, wr55⟩
                  · clear q55
                    have u55 : 0 ≤ v55.toInt ∧ v55.toInt ≤ 20 := by have z9 := num_r (T := T) (b := nx T b) (lo := 0) (hi := 20) (by decide); omega
                    refine q_put (T := TX5) C S55 gdd 9 kF_X6_168 dX6_readSetting_160 rfl rfl (by decide) (by decide) rfl rfl rfl rfl rfl (vok_a rfl) (by decide +kernel) (fun H56 L56 S56 P56 => ?_)
                    have tk56 : Gd D G s.heap → Gd D G H56 := fun h9  => (tk55 h9).put gdd P56 (Or.inl (by decide))
                    have ts56 := ts55.cells S55.1 gtp gdd (by decide) (by decide) P56.2.2.1
                    have dv56 := dv_keep dv55 S55.1 (Or.inr gdd) (Pt.keep gdd rfl (by decide) P56)
                    refine lv_aload_n hx hb dX6_readSetting_163 rfl (lv_at hl 0 rfl) ?_
                    refine q_grD (T := TX6) C S56.1 ga0 2 kF_X6_11 dX6_readSetting_164 rfl rfl (by decide) rfl (by decide) rfl (fun g57 => ?_)
                    replace g57 : G (fR D H56 6 a0 2) = 23 := by rw [S56.2.1.fR ga0 rfl (by decide) (by decide +kernel)]; exact hpre
                    rw [show fR D H56 6 a0 2 = dd from (S56.2.1.fR ga0 rfl (by decide) (by decide +kernel)).trans hdd]
                    refine q_gi (T := TX5) C S56.1 gdd 9 kF_X6_168 dX6_readSetting_167 rfl rfl (by decide) rfl (by decide) rfl ?_
                    have c58 : (fI D H56 5 dd 9).toInt = v55.toInt := by rw [Pt.i P56]
                    refine lv_iconst (v := -1) hx hb dX6_readSetting_170 (by decide) ?_
                    have k_m1 : (-1 : Int32).toInt = -1 := by decide
                    refine lv_icmp_eq (tgt := 178) hx hb dX6_readSetting_171 (by decide) (fun c59 => ?_) (fun c59 => ?_)
                    · have b59 : (fI D H56 5 dd 9).toInt = (-1 : Int32).toInt := i_eq.mp c59
                      exact absurd b59 (by omega)
                    · have b59 : ¬ (fI D H56 5 dd 9).toInt = (-1 : Int32).toInt := fun z9 => c59 (i_eq.mpr z9)
                      refine lv_iconst (v := 1) hx hb dX6_readSetting_174 (by decide) ?_
                      refine lv_goto (tgt := 179) hx hb dX6_readSetting_175 (by decide) ?_
                      have k_1 : (1 : Int32).toInt = 1 := by decide
                      exact retE_z hQ C S56 hr dX6_readSetting_179 (z01 (by omega) (by omega)) (⟨⟨by omega, fun _ h9 => tk56 h9⟩, RsP.ok (s1 := sg) (by simp [plnF, setF, hn1, hn2, hn3, y3, y19, y35, y51, w55, y55]) (by omega) ts56 (dv56), fun q hq _ => S56.2.1.fI hq rfl (by decide) (by decide +kernel)⟩)
                  · clear q55
                    refine q_put (T := TX5) C S55 gdd 9 kF_X6_168 dX6_readSetting_160 rfl rfl (by decide) (by decide) rfl rfl rfl rfl rfl (vok_a rfl) (by decide +kernel) (fun H60 L60 S60 P60 => ?_)
                    have tk60 : Gd D G s.heap → Gd D G H60 := fun h9  => (tk55 h9).put gdd P60 (Or.inl (by decide))
                    have wr60 : (fI D H60 9 tp 2).toInt = (((nx T b) : Nat) : Int) := by rw [Pt.f P60 (ne_role gtp gdd (by decide))]; exact wr55
                    have dv60 := dv_keep dv55 S55.1 (Or.inr gdd) (Pt.keep gdd rfl (by decide) P60)
                    refine lv_aload_n hx hb dX6_readSetting_163 rfl (lv_at hl 0 rfl) ?_
                    refine q_grD (T := TX6) C S60.1 ga0 2 kF_X6_11 dX6_readSetting_164 rfl rfl (by decide) rfl (by decide) rfl (fun g61 => ?_)
                    replace g61 : G (fR D H60 6 a0 2) = 23 := by rw [S60.2.1.fR ga0 rfl (by decide) (by decide +kernel)]; exact hpre
                    rw [show fR D H60 6 a0 2 = dd from (S60.2.1.fR ga0 rfl (by decide) (by decide +kernel)).trans hdd]
                    refine q_gi (T := TX5) C S60.1 gdd 9 kF_X6_168 dX6_readSetting_167 rfl rfl (by decide) rfl (by decide) rfl ?_
                    have c62 : (fI D H60 5 dd 9).toInt = v55.toInt := by rw [Pt.i P60]
                    refine lv_iconst (v := -1) hx hb dX6_readSetting_170 (by decide) ?_
                    have k_m1 : (-1 : Int32).toInt = -1 := by decide
                    refine lv_icmp_eq (tgt := 178) hx hb dX6_readSetting_171 (by decide) (fun c63 => ?_) (fun c63 => ?_)
                    · have b63 : (fI D H60 5 dd 9).toInt = (-1 : Int32).toInt := i_eq.mp c63
                      refine lv_iconst (v := 0) hx hb dX6_readSetting_178 (by decide) ?_
                      exact retE_z hQ C S60 hr dX6_readSetting_179 (z01 (by omega) (by omega)) (⟨⟨by omega, fun _ h9 => tk60 h9⟩, RsP.no (s1 := sg) (by simp [plnF, setF, hn1, hn2, hn3, y3, y19, y35, y51, w55, y55]) (by omega) wr60, fun q hq _ => S60.2.1.fI hq rfl (by decide) (by decide +kernel)⟩)
                    · have b63 : ¬ (fI D H60 5 dd 9).toInt = (-1 : Int32).toInt := fun z9 => c63 (i_eq.mpr z9)
                      exact absurd b63 (by omega)
                  · exact absurd y51 (by rw [w55]; decide)
              · skip
                refine lv_if_eq (tgt := 180) hx hb dX6_readSetting_144 (by decide) (fun c64 => ?_) (fun c64 => ?_)
                · have b64 : v51.toInt = (0 : Int32).toInt := i_eq.mp c64
                  refine lv_aload_n hx hb dX6_readSetting_180 rfl (lv_at hl 0 rfl) ?_
                  refine q_grS (T := TX6) C S.1 ga0 0 kF_X6_15 dX6_readSetting_181 rfl rfl (by decide) rfl (by decide) kSF_X6_tape (fun g65 => ?_)
                  rw [show fR D s.heap 6 a0 0 = tp from htp]
                  refine q_lds C ks_X6_170 dX6_readSetting_184 (fun a66 ha66 wa66 => ?_)
                  refine callV_Pi C S.1 S.2.1.2.1 (c_X9_isWord_f l D G tp a66 7 w_quarter T b gtp ha66 (Wc.of wa66 kw_quarter)) kV_X6_21 gtp (⟨trivial, ts0⟩) dX6_readSetting_186 hl.1 rfl rfl (by decide) cd_X9_isWord ⟨Nat.le_of_ble_eq_true rfl, Nat.le_of_ble_eq_true rfl, Nat.le_of_ble_eq_true rfl, Nat.le_of_ble_eq_true rfl, Nat.le_of_ble_eq_true rfl⟩ (fun v67 q67 => ?_)
                  obtain ⟨q67, fq67⟩ := q67
                  rcases fq67 with ⟨z67, y67⟩ | ⟨z67, y67⟩
                  · skip
                    refine lv_if_eq (tgt := 226) hx hb dX6_readSetting_189 (by decide) (fun c68 => ?_) (fun c68 => ?_)
                    · have b68 : v67.toInt = (0 : Int32).toInt := i_eq.mp c68
                      exact absurd b68 (by omega)
                    · have b68 : ¬ v67.toInt = (0 : Int32).toInt := fun z9 => c68 (i_eq.mpr z9)
                      refine lv_aload_n hx hb dX6_readSetting_192 rfl (lv_at hl 0 rfl) ?_
                      refine q_grD (T := TX6) C S.1 ga0 2 kF_X6_11 dX6_readSetting_193 rfl rfl (by decide) rfl (by decide) rfl (fun g69 => ?_)
                      replace g69 : G (fR D s.heap 6 a0 2) = 23 := by rw [S.2.1.fR ga0 rfl (by decide) (by decide +kernel)]; exact hpre
                      rw [show fR D s.heap 6 a0 2 = dd from hdd]
                      refine lv_aload_n hx hb dX6_readSetting_196 rfl (lv_at hl 0 rfl) ?_
                      refine q_lds C ks_X6_170 dX6_readSetting_197 (fun a70 ha70 wa70 => ?_)
                      refine lv_iconst (v := 0) hx hb dX6_readSetting_199 (by decide) ?_
                      refine lv_sipush (v := 999) hx hb dX6_readSetting_200 (by decide) ?_
                      have k_999 : (999 : Int32).toInt = 999 := by decide
                      refine callV_Ei C S (c_X6_numberAfter_f l D G a0 a70 7 (0 : Int32) (999 : Int32) w_quarter 0 999 tp T b ga0 ha70 (by omega) (Wc.of wa70 kw_quarter) (by omega) (by omega)) kV_X6_57 ga0 (⟨trivial, ⟨htp, ts0⟩⟩) (by decide +kernel) dX6_readSetting_203 hl.1 rfl rfl (by decide) cd_X6_numberAfter ⟨Nat.le_of_ble_eq_true rfl, Nat.le_of_ble_eq_true rfl, Nat.le_of_ble_eq_true rfl, Nat.le_of_ble_eq_true rfl, Nat.le_of_ble_eq_true rfl⟩ (fun v71 H71 L71 S71 K71 q71 => ?_)
                      obtain ⟨q71, fq71⟩ := q71
                      have tk71 : Gd D G s.heap → Gd D G H71 := fun h9  => (tk0 h9).keep K71 (by decide +kernel)
                      have dv71 := dv_keep dv0 S.1 (Or.inr gdd) K71
                      rcases fq71 with ⟨w71, y71, z71, ts71⟩ | ⟨w71, y71, z71, wr71⟩ | ⟨w71, z71, wr71⟩
                      · clear q71
                        have u71 : 0 ≤ v71.toInt ∧ v71.toInt ≤ 999 := by have z9 := num_r (T := T) (b := nx T b) (lo := 0) (hi := 999) (by decide); omega
                        refine q_put (T := TX5) C S71 gdd 10 kF_X6_172 dX6_readSetting_206 rfl rfl (by decide) (by decide) rfl rfl rfl rfl rfl (vok_a rfl) (by decide +kernel) (fun H72 L72 S72 P72 => ?_)
                        have tk72 : Gd D G s.heap → Gd D G H72 := fun h9  => (tk71 h9).put gdd P72 (Or.inl (by decide))
                        have ts72 := ts71.cells S71.1 gtp gdd (by decide) (by decide) P72.2.2.1
                        have dv72 := dv_keep dv71 S71.1 (Or.inr gdd) (Pt.keep gdd rfl (by decide) P72)
                        refine lv_aload_n hx hb dX6_readSetting_209 rfl (lv_at hl 0 rfl) ?_
                        refine q_grD (T := TX6) C S72.1 ga0 2 kF_X6_11 dX6_readSetting_210 rfl rfl (by decide) rfl (by decide) rfl (fun g73 => ?_)
                        replace g73 : G (fR D H72 6 a0 2) = 23 := by rw [S72.2.1.fR ga0 rfl (by decide) (by decide +kernel)]; exact hpre
                        rw [show fR D H72 6 a0 2 = dd from (S72.2.1.fR ga0 rfl (by decide) (by decide +kernel)).trans hdd]
                        refine q_gi (T := TX5) C S72.1 gdd 10 kF_X6_172 dX6_readSetting_213 rfl rfl (by decide) rfl (by decide) rfl ?_
                        have c74 : (fI D H72 5 dd 10).toInt = v71.toInt := by rw [Pt.i P72]
                        refine lv_iconst (v := -1) hx hb dX6_readSetting_216 (by decide) ?_
                        have k_m1 : (-1 : Int32).toInt = -1 := by decide
                        refine lv_icmp_eq (tgt := 224) hx hb dX6_readSetting_217 (by decide) (fun c75 => ?_) (fun c75 => ?_)
                        · have b75 : (fI D H72 5 dd 10).toInt = (-1 : Int32).toInt := i_eq.mp c75
                          exact absurd b75 (by omega)
                        · have b75 : ¬ (fI D H72 5 dd 10).toInt = (-1 : Int32).toInt := fun z9 => c75 (i_eq.mpr z9)
                          refine lv_iconst (v := 1) hx hb dX6_readSetting_220 (by decide) ?_
                          refine lv_goto (tgt := 225) hx hb dX6_readSetting_221 (by decide) ?_
                          have k_1 : (1 : Int32).toInt = 1 := by decide
                          exact retE_z hQ C S72 hr dX6_readSetting_225 (z01 (by omega) (by omega)) (⟨⟨by omega, fun _ h9 => tk72 h9⟩, RsP.ok (s1 := sg) (by simp [plnF, setF, hn1, hn2, hn3, y3, y19, y35, y51, y67, w71, y71]) (by omega) ts72 (dv72), fun q hq _ => S72.2.1.fI hq rfl (by decide) (by decide +kernel)⟩)
                      · clear q71
                        refine q_put (T := TX5) C S71 gdd 10 kF_X6_172 dX6_readSetting_206 rfl rfl (by decide) (by decide) rfl rfl rfl rfl rfl (vok_a rfl) (by decide +kernel) (fun H76 L76 S76 P76 => ?_)
                        have tk76 : Gd D G s.heap → Gd D G H76 := fun h9  => (tk71 h9).put gdd P76 (Or.inl (by decide))
                        have wr76 : (fI D H76 9 tp 2).toInt = (((nx T b) : Nat) : Int) := by rw [Pt.f P76 (ne_role gtp gdd (by decide))]; exact wr71
                        have dv76 := dv_keep dv71 S71.1 (Or.inr gdd) (Pt.keep gdd rfl (by decide) P76)
                        refine lv_aload_n hx hb dX6_readSetting_209 rfl (lv_at hl 0 rfl) ?_
                        refine q_grD (T := TX6) C S76.1 ga0 2 kF_X6_11 dX6_readSetting_210 rfl rfl (by decide) rfl (by decide) rfl (fun g77 => ?_)
                        replace g77 : G (fR D H76 6 a0 2) = 23 := by rw [S76.2.1.fR ga0 rfl (by decide) (by decide +kernel)]; exact hpre
                        rw [show fR D H76 6 a0 2 = dd from (S76.2.1.fR ga0 rfl (by decide) (by decide +kernel)).trans hdd]
                        refine q_gi (T := TX5) C S76.1 gdd 10 kF_X6_172 dX6_readSetting_213 rfl rfl (by decide) rfl (by decide) rfl ?_
                        have c78 : (fI D H76 5 dd 10).toInt = v71.toInt := by rw [Pt.i P76]
                        refine lv_iconst (v := -1) hx hb dX6_readSetting_216 (by decide) ?_
                        have k_m1 : (-1 : Int32).toInt = -1 := by decide
                        refine lv_icmp_eq (tgt := 224) hx hb dX6_readSetting_217 (by decide) (fun c79 => ?_) (fun c79 => ?_)
                        · have b79 : (fI D H76 5 dd 10).toInt = (-1 : Int32).toInt := i_eq.mp c79
                          refine lv_iconst (v := 0) hx hb dX6_readSetting_224 (by decide) ?_
                          exact retE_z hQ C S76 hr dX6_readSetting_225 (z01 (by omega) (by omega)) (⟨⟨by omega, fun _ h9 => tk76 h9⟩, RsP.no (s1 := sg) (by simp [plnF, setF, hn1, hn2, hn3, y3, y19, y35, y51, y67, w71, y71]) (by omega) wr76, fun q hq _ => S76.2.1.fI hq rfl (by decide) (by decide +kernel)⟩)
                        · have b79 : ¬ (fI D H76 5 dd 10).toInt = (-1 : Int32).toInt := fun z9 => c79 (i_eq.mpr z9)
                          exact absurd b79 (by omega)
                      · exact absurd y67 (by rw [w71]; decide)
                  · skip
                    refine lv_if_eq (tgt := 226) hx hb dX6_readSetting_189 (by decide) (fun c80 => ?_) (fun c80 => ?_)
                    · have b80 : v67.toInt = (0 : Int32).toInt := i_eq.mp c80
                      refine lv_aload_n hx hb dX6_readSetting_226 rfl (lv_at hl 0 rfl) ?_
                      refine q_grS (T := TX6) C S.1 ga0 0 kF_X6_15 dX6_readSetting_227 rfl rfl (by decide) rfl (by decide) kSF_X6_tape (fun g81 => ?_)
                      rw [show fR D s.heap 6 a0 0 = tp from htp]
                      refine callV_Ei C S (c_X9_refuse_f l D G tp T b gtp) kV_X6_50 gtp (⟨trivial, ts0⟩) (by decide +kernel) dX6_readSetting_230 hl.1 rfl rfl (by decide) cd_X9_refuse ⟨Nat.le_of_ble_eq_true rfl, Nat.le_of_ble_eq_true rfl, Nat.le_of_ble_eq_true rfl, Nat.le_of_ble_eq_true rfl, Nat.le_of_ble_eq_true rfl⟩ (fun v82 H82 L82 S82 K82 q82 => ?_)
                      obtain ⟨q82, fq82⟩ := q82
                      have tk82 : Gd D G s.heap → Gd D G H82 := fun h9  => (tk0 h9).keep K82 (by decide +kernel)
                      have dv82 := dv_keep dv0 S.1 (Or.inr gdd) K82
                      have z82 := fq82.1
                      exact retE_z hQ C S82 hr dX6_readSetting_233 (z01 (by omega) (by omega)) (⟨⟨by omega, fun _ h9 => tk82 h9⟩, RsP.no (s1 := sg) (by simp [plnF, setF, hn1, hn2, hn3, y3, y19, y35, y51, y67]) (by omega) fq82.2, fun q hq _ => S82.2.1.fI hq rfl (by decide) (by decide +kernel)⟩)
                    · have b80 : ¬ v67.toInt = (0 : Int32).toInt := fun z9 => c80 (i_eq.mpr z9)
                      exact absurd b80 (by omega)
                · have b64 : ¬ v51.toInt = (0 : Int32).toInt := fun z9 => c64 (i_eq.mpr z9)
                  exact absurd b64 (by omega)
            · have b48 : ¬ v35.toInt = (0 : Int32).toInt := fun z9 => c48 (i_eq.mpr z9)
              exact absurd b48 (by omega)
        · have b32 : ¬ v19.toInt = (0 : Int32).toInt := fun z9 => c32 (i_eq.mpr z9)
          exact absurd b32 (by omega)
    · have b16 : ¬ v3.toInt = (0 : Int32).toInt := fun z9 => c16 (i_eq.mpr z9)
      exact absurd b16 (by omega)
