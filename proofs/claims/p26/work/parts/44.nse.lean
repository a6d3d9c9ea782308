set_option maxRecDepth 100000 in
set_option maxHeartbeats 4000000 in
theorem c_X11_log (l : Launch) (D : DD) (G : Nat → Nat) (a0 : Nat) (x1 : Int32) (x2 : Int32) (ga0 : G a0 = 1) : CX l D G yX11_log cX11_log 3 (some .int) 1 1 6 [.ref a0, .int x1, .int x2] (fun _ => True) [] (xI (fun H r H1 => True)) (fun H En H1 => En = "java/util/NoSuchElementException") := by
  refine enterX (by decide) (Nat.le_of_ble_eq_true rfl) ?_
  intro hl0 p e s m args below meth c ls Q hA hQ ht C hr hO hpre hl
  have hx := C.1
  have hb := C.2.1
  have S : Sd D G [] s.heap s.heap [] := Sd.start hO
  have hl : lv_has ls 3 [(0, .ref a0), (1, .int x1), (2, .int x2)] := hl
  refine lv_iload_n hx hb dX11_log_0 rfl (lv_at hl 2 rfl) ?_
  have k_0 : (0 : Int32).toInt = 0 := by decide
  refine lv_if_lt (tgt := 9) hx hb dX11_log_1 (by decide) (fun c1 => ?_) (fun c1 => ?_)
  · have b1 : x2.toInt < (0 : Int32).toInt := i_lt.mp c1
    exact q_throwNW hl0 hQ C ht S hrx_NSE kL_X11_168 kI_NSE ks_X11_329 ka_X11_172 kf_NSE dX11_log_9 dX11_log_12 dX11_log_13 dX11_log_16 dX11_log_19 hl.1 ⟨Nat.le_of_ble_eq_true rfl, Nat.le_of_ble_eq_true rfl, Nat.le_of_ble_eq_true rfl, Nat.le_of_ble_eq_true rfl⟩ (by decide) (by decide) (fun H1 g1 g2 => by simp)
  · have b1 : ¬ x2.toInt < (0 : Int32).toInt := fun z9 => c1 (i_lt.mpr z9)
    refine lv_iload_n hx hb dX11_log_4 rfl (lv_at hl 2 rfl) ?_
    refine lv_iconst (v := 4) hx hb dX11_log_5 (by decide) ?_
    have k_4 : (4 : Int32).toInt = 4 := by decide
    refine lv_icmp_lt (tgt := 20) hx hb dX11_log_6 (by decide) (fun c2 => ?_) (fun c2 => ?_)
    · have b2 : x2.toInt < (4 : Int32).toInt := i_lt.mp c2
      refine lv_aload_n hx hb dX11_log_20 rfl (lv_at hl 0 rfl) ?_
      refine q_gr (T := TX11) C S.1 ga0 1 kF_X11_19 dX11_log_21 rfl rfl (by decide) rfl (by decide) rfl (fun g3 => ?_)
      refine q_gr (T := TX5) C S.1 g3 2 kF_X11_317 dX11_log_24 rfl rfl (by decide) rfl (by decide) rfl (fun g4 => ?_)
      refine lv_iload_n hx hb dX11_log_27 rfl (lv_at hl 1 rfl) ?_
      refine lv_iload_n hx hb dX11_log_28 rfl (lv_at hl 2 rfl) ?_
      refine callV_Pi C S.1 S.2.1.2.1 (c_X0_cell l D G (fR D s.heap 5 (fR D s.heap 10 a0 1) 2) x1 x2 g4 (by omega)) kV_X11_331 g4 (trivial) dX11_log_29 hl.1 rfl rfl (by decide) cd_X0_cell ⟨Nat.le_of_ble_eq_true rfl, Nat.le_of_ble_eq_true rfl, Nat.le_of_ble_eq_true rfl, Nat.le_of_ble_eq_true rfl, Nat.le_of_ble_eq_true rfl⟩ (fun v5 q5 => ?_)
      exact retX_i hQ C S hr dX11_log_32 (by decide) (by decide) (trivial)
    · have b2 : ¬ x2.toInt < (4 : Int32).toInt := fun z9 => c2 (i_lt.mpr z9)
      exact q_throwNW hl0 hQ C ht S hrx_NSE kL_X11_168 kI_NSE ks_X11_329 ka_X11_172 kf_NSE dX11_log_9 dX11_log_12 dX11_log_13 dX11_log_16 dX11_log_19 hl.1 ⟨Nat.le_of_ble_eq_true rfl, Nat.le_of_ble_eq_true rfl, Nat.le_of_ble_eq_true rfl, Nat.le_of_ble_eq_true rfl⟩ (by decide) (by decide) (fun H1 g1 g2 => by simp)

set_option maxRecDepth 100000 in
set_option maxHeartbeats 4000000 in
theorem c_X11_house (l : Launch) (D : DD) (G : Nat → Nat) (a0 : Nat) (x1 : Int32) (x2 : Int32) (ga0 : G a0 = 1) : CX l D G yX11_house cX11_house 4 (some .int) 5 2 12 [.ref a0, .int x1, .int x2] (fun _ => True) [(14, 0), (15, 0)] (xI (fun H r H1 => True)) (fun H En H1 => En = "java/lang/IndexOutOfBoundsException" ∨ En = "java/util/NoSuchElementException") := by
  refine enterX (by decide) (Nat.le_of_ble_eq_true rfl) ?_
  intro hl0 p e s m args below meth c ls Q hA hQ ht C hr hO hpre hl
  have hx := C.1
  have hb := C.2.1
  have S : Sd D G [(14, 0), (15, 0)] s.heap s.heap [] := Sd.start hO
  have hl : lv_has ls 4 [(0, .ref a0), (1, .int x1), (2, .int x2)] := hl
  refine lv_aload_n hx hb dX11_house_0 rfl (lv_at hl 0 rfl) ?_
  refine lv_iload_n hx hb dX11_house_1 rfl (lv_at hl 1 rfl) ?_
  refine callV_Xv hl0 C S (c_X11_needHouse l D G a0 x1 ga0) kV_X11_125 ga0 (trivial) (by decide +kernel) dX11_house_2 hl.1 rfl rfl (by decide) cd_X11_needHouse ⟨Nat.le_of_ble_eq_true rfl, Nat.le_of_ble_eq_true rfl, Nat.le_of_ble_eq_true rfl, Nat.le_of_ble_eq_true rfl, Nat.le_of_ble_eq_true rfl⟩ (fun H1 L1 S1 K1 q1 => ?_) (fun En H1 L1 q9 ce S1 K1 X1 h7 h8 h9 => outX hQ C ht S1 h7 h8 h9 (by decide) (by decide) (by rcases X1 with rfl <;> simp))
  refine lv_aload_n hx hb dX11_house_5 rfl (lv_at hl 0 rfl) ?_
  refine q_gr (T := TX11) C S1.1 ga0 1 kF_X11_19 dX11_house_6 rfl rfl (by decide) rfl (by decide) rfl (fun g2 => ?_)
  refine q_gr (T := TX5) C S1.1 g2 0 kF_X11_128 dX11_house_9 rfl rfl (by decide) rfl (by decide) rfl (fun g3 => ?_)
  refine lv_iload_n hx hb dX11_house_12 rfl (lv_at hl 1 rfl) ?_
  refine q_aald C S1.1 g3 (by omega) (by omega) dX11_house_13 rfl (by decide) rfl rfl (fun g4 => ?_)
  refine lv_astore_n (lv' := [(3, .ref (eR H1 (fR D H1 5 (fR D H1 10 a0 1) 0) x1.toInt.toNat)), (0, .ref a0), (1, .int x1), (2, .int x2)]) hx hb dX11_house_14 rfl hl (by decide) rfl (fun ls hl => ?_)
  refine lv_iload_n hx hb dX11_house_15 rfl (lv_at hl 3 rfl) ?_
  by_cases w5 : x2.toInt = (0)
  · refine lv_tableIn (tgt := 76) (off := 60) hx hb dX11_house_16 (by omega) (by omega) (by rw [w5]; rfl) (by decide) ?_
    refine lv_aload_n hx hb dX11_house_76 rfl (lv_at hl 0 rfl) ?_
    refine q_gi (T := TX2) C S1.1 g4 0 kF_X11_132 dX11_house_77 rfl rfl (by decide) rfl (by decide) rfl ?_
    exact retX_i hQ C S1 hr dX11_house_80 (by decide) (by decide) (trivial)
  by_cases w6 : x2.toInt = (1)
  · refine lv_tableIn (tgt := 81) (off := 65) hx hb dX11_house_16 (by omega) (by omega) (by rw [w6]; rfl) (by decide) ?_
    refine lv_aload_n hx hb dX11_house_81 rfl (lv_at hl 0 rfl) ?_
    refine q_gi (T := TX2) C S1.1 g4 1 kF_X11_137 dX11_house_82 rfl rfl (by decide) rfl (by decide) rfl ?_
    have r7 : 0 ≤ (fI D H1 2 (eR H1 (fR D H1 5 (fR D H1 10 a0 1) 0) x1.toInt.toNat) 1).toInt ∧ (fI D H1 2 (eR H1 (fR D H1 5 (fR D H1 10 a0 1) 0) x1.toInt.toNat) 1).toInt ≤ 1 := S1.1.rng g4 rfl (by decide) rfl
    have k_0 : (0 : Int32).toInt = 0 := by decide
    refine lv_if_eq (tgt := 92) hx hb dX11_house_85 (by decide) (fun c8 => ?_) (fun c8 => ?_)
    · have b8 : (fI D H1 2 (eR H1 (fR D H1 5 (fR D H1 10 a0 1) 0) x1.toInt.toNat) 1).toInt = (0 : Int32).toInt := i_eq.mp c8
      refine lv_iconst (v := 0) hx hb dX11_house_92 (by decide) ?_
      exact retX_i hQ C S1 hr dX11_house_93 (by decide) (by decide) (trivial)
    · have b8 : ¬ (fI D H1 2 (eR H1 (fR D H1 5 (fR D H1 10 a0 1) 0) x1.toInt.toNat) 1).toInt = (0 : Int32).toInt := fun z9 => c8 (i_eq.mpr z9)
      refine lv_iconst (v := 1) hx hb dX11_house_88 (by decide) ?_
      refine lv_goto (tgt := 93) hx hb dX11_house_89 (by decide) ?_
      have k_1 : (1 : Int32).toInt = 1 := by decide
      exact retX_i hQ C S1 hr dX11_house_93 (by decide) (by decide) (trivial)
  by_cases w9 : x2.toInt = (2)
  · refine lv_tableIn (tgt := 94) (off := 78) hx hb dX11_house_16 (by omega) (by omega) (by rw [w9]; rfl) (by decide) ?_
    refine lv_aload_n hx hb dX11_house_94 rfl (lv_at hl 0 rfl) ?_
    refine q_gi (T := TX2) C S1.1 g4 2 kF_X11_140 dX11_house_95 rfl rfl (by decide) rfl (by decide) rfl ?_
    exact retX_i hQ C S1 hr dX11_house_98 (by decide) (by decide) (trivial)
  by_cases w10 : x2.toInt = (3)
  · refine lv_tableIn (tgt := 99) (off := 83) hx hb dX11_house_16 (by omega) (by omega) (by rw [w10]; rfl) (by decide) ?_
    refine lv_aload_n hx hb dX11_house_99 rfl (lv_at hl 0 rfl) ?_
    refine q_gi (T := TX2) C S1.1 g4 3 kF_X11_143 dX11_house_100 rfl rfl (by decide) rfl (by decide) rfl ?_
    exact retX_i hQ C S1 hr dX11_house_103 (by decide) (by decide) (trivial)
  by_cases w11 : x2.toInt = (4)
  · refine lv_tableIn (tgt := 104) (off := 88) hx hb dX11_house_16 (by omega) (by omega) (by rw [w11]; rfl) (by decide) ?_
    refine lv_aload_n hx hb dX11_house_104 rfl (lv_at hl 0 rfl) ?_
    refine q_gi (T := TX2) C S1.1 g4 4 kF_X11_146 dX11_house_105 rfl rfl (by decide) rfl (by decide) rfl ?_
    exact retX_i hQ C S1 hr dX11_house_108 (by decide) (by decide) (trivial)
  by_cases w12 : x2.toInt = (5)
  · refine lv_tableIn (tgt := 109) (off := 93) hx hb dX11_house_16 (by omega) (by omega) (by rw [w12]; rfl) (by decide) ?_
    refine lv_aload_n hx hb dX11_house_109 rfl (lv_at hl 1 rfl) ?_
    refine q_gr (T := TX11) C S1.1 ga0 1 kF_X11_19 dX11_house_110 rfl rfl (by decide) rfl (by decide) rfl (fun g13 => ?_)
    refine lv_iload_n hx hb dX11_house_113 rfl (lv_at hl 2 rfl) ?_
    refine callV_Ei C S1 (c_X5_paysOf l D G (fR D H1 10 a0 1) x1 g13) kV_X11_149 g13 (trivial) (by decide +kernel) dX11_house_114 hl.1 rfl rfl (by decide) cd_X5_paysOf ⟨Nat.le_of_ble_eq_true rfl, Nat.le_of_ble_eq_true rfl, Nat.le_of_ble_eq_true rfl, Nat.le_of_ble_eq_true rfl, Nat.le_of_ble_eq_true rfl⟩ (fun v14 H14 L14 S14 K14 q14 => ?_)
    exact retX_i hQ C S14 hr dX11_house_117 (by decide) (by decide) (trivial)
  by_cases w15 : x2.toInt = (6)
  · refine lv_tableIn (tgt := 118) (off := 102) hx hb dX11_house_16 (by omega) (by omega) (by rw [w15]; rfl) (by decide) ?_
    refine lv_aload_n hx hb dX11_house_118 rfl (lv_at hl 1 rfl) ?_
    refine q_gr (T := TX11) C S1.1 ga0 1 kF_X11_19 dX11_house_119 rfl rfl (by decide) rfl (by decide) rfl (fun g16 => ?_)
    refine lv_iload_n hx hb dX11_house_122 rfl (lv_at hl 2 rfl) ?_
    refine callV_Ei C S1 (c_X5_hopesOf l D G (fR D H1 10 a0 1) x1 g16) kV_X11_153 g16 (trivial) (by decide +kernel) dX11_house_123 hl.1 rfl rfl (by decide) cd_X5_hopesOf ⟨Nat.le_of_ble_eq_true rfl, Nat.le_of_ble_eq_true rfl, Nat.le_of_ble_eq_true rfl, Nat.le_of_ble_eq_true rfl, Nat.le_of_ble_eq_true rfl⟩ (fun v17 H17 L17 S17 K17 q17 => ?_)
    exact retX_i hQ C S17 hr dX11_house_126 (by decide) (by decide) (trivial)
  by_cases w18 : x2.toInt = (7)
  · refine lv_tableIn (tgt := 127) (off := 111) hx hb dX11_house_16 (by omega) (by omega) (by rw [w18]; rfl) (by decide) ?_
    refine lv_aload_n hx hb dX11_house_127 rfl (lv_at hl 1 rfl) ?_
    refine q_gr (T := TX11) C S1.1 ga0 1 kF_X11_19 dX11_house_128 rfl rfl (by decide) rfl (by decide) rfl (fun g19 => ?_)
    refine lv_iload_n hx hb dX11_house_131 rfl (lv_at hl 2 rfl) ?_
    refine callV_Pi C S1.1 S1.2.1.2.1 (c_X5_warmthOf l D G (fR D H1 10 a0 1) x1 g19) kV_X11_156 g19 (trivial) dX11_house_132 hl.1 rfl rfl (by decide) cd_X5_warmthOf ⟨Nat.le_of_ble_eq_true rfl, Nat.le_of_ble_eq_true rfl, Nat.le_of_ble_eq_true rfl, Nat.le_of_ble_eq_true rfl, Nat.le_of_ble_eq_true rfl⟩ (fun v20 q20 => ?_)
    exact retX_i hQ C S1 hr dX11_house_135 (by decide) (by decide) (trivial)
  by_cases w21 : x2.toInt = (8)
  · refine lv_tableIn (tgt := 136) (off := 120) hx hb dX11_house_16 (by omega) (by omega) (by rw [w21]; rfl) (by decide) ?_
    refine lv_aload_n hx hb dX11_house_136 rfl (lv_at hl 1 rfl) ?_
    refine q_gr (T := TX11) C S1.1 ga0 1 kF_X11_19 dX11_house_137 rfl rfl (by decide) rfl (by decide) rfl (fun g22 => ?_)
    refine lv_iload_n hx hb dX11_house_140 rfl (lv_at hl 2 rfl) ?_
    refine callV_Pi C S1.1 S1.2.1.2.1 (c_X5_smokeOf l D G (fR D H1 10 a0 1) x1 g22) kV_X11_159 g22 (trivial) dX11_house_141 hl.1 rfl rfl (by decide) cd_X5_smokeOf ⟨Nat.le_of_ble_eq_true rfl, Nat.le_of_ble_eq_true rfl, Nat.le_of_ble_eq_true rfl, Nat.le_of_ble_eq_true rfl, Nat.le_of_ble_eq_true rfl⟩ (fun v23 q23 => ?_)
    exact retX_i hQ C S1 hr dX11_house_144 (by decide) (by decide) (trivial)
  by_cases w24 : x2.toInt = (9)
  · refine lv_tableIn (tgt := 145) (off := 129) hx hb dX11_house_16 (by omega) (by omega) (by rw [w24]; rfl) (by decide) ?_
    refine lv_aload_n hx hb dX11_house_145 rfl (lv_at hl 1 rfl) ?_
    refine q_gr (T := TX11) C S1.1 ga0 1 kF_X11_19 dX11_house_146 rfl rfl (by decide) rfl (by decide) rfl (fun g25 => ?_)
    refine lv_iload_n hx hb dX11_house_149 rfl (lv_at hl 2 rfl) ?_
    refine callV_Ei C S1 (c_X5_shareOf l D G (fR D H1 10 a0 1) x1 g25) kV_X11_162 g25 (trivial) (by decide +kernel) dX11_house_150 hl.1 rfl rfl (by decide) cd_X5_shareOf ⟨Nat.le_of_ble_eq_true rfl, Nat.le_of_ble_eq_true rfl, Nat.le_of_ble_eq_true rfl, Nat.le_of_ble_eq_true rfl, Nat.le_of_ble_eq_true rfl⟩ (fun v26 H26 L26 S26 K26 q26 => ?_)
    exact retX_i hQ C S26 hr dX11_house_153 (by decide) (by decide) (trivial)
  by_cases w27 : x2.toInt = (10)
  · refine lv_tableIn (tgt := 154) (off := 138) hx hb dX11_house_16 (by omega) (by omega) (by rw [w27]; rfl) (by decide) ?_
    refine lv_aload_n hx hb dX11_house_154 rfl (lv_at hl 1 rfl) ?_
    refine q_gr (T := TX11) C S1.1 ga0 1 kF_X11_19 dX11_house_155 rfl rfl (by decide) rfl (by decide) rfl (fun g28 => ?_)
    refine lv_iload_n hx hb dX11_house_158 rfl (lv_at hl 2 rfl) ?_
    refine callV_Pi C S1.1 S1.2.1.2.1 (c_X5_bitsOf l D G (fR D H1 10 a0 1) x1 g28) kV_X11_165 g28 (trivial) dX11_house_159 hl.1 rfl rfl (by decide) cd_X5_bitsOf ⟨Nat.le_of_ble_eq_true rfl, Nat.le_of_ble_eq_true rfl, Nat.le_of_ble_eq_true rfl, Nat.le_of_ble_eq_true rfl, Nat.le_of_ble_eq_true rfl⟩ (fun v29 q29 => ?_)
    exact retX_i hQ C S1 hr dX11_house_162 (by decide) (by decide) (trivial)
  refine lv_tableOut (tgt := 163) hx hb dX11_house_16 (by omega) (by decide) ?_
  exact q_throwN hl0 hQ C ht S1 hrx_NSE kL_X11_168 kI_NSE ks_X11_170 ka_X11_172 kf_NSE dX11_house_163 dX11_house_166 dX11_house_167 dX11_house_169 dX11_house_172 hl.1 ⟨Nat.le_of_ble_eq_true rfl, Nat.le_of_ble_eq_true rfl, Nat.le_of_ble_eq_true rfl, Nat.le_of_ble_eq_true rfl⟩ (by decide) (by decide) (fun H1 g1 g2 => by simp)

set_option maxRecDepth 100000 in
set_option maxHeartbeats 4000000 in
theorem c_X11_hearth (l : Launch) (D : DD) (G : Nat → Nat) (a0 : Nat) (x1 : Int32) (x2 : Int32) (ga0 : G a0 = 1) : CX l D G yX11_hearth cX11_hearth 4 (some .int) 4 2 12 [.ref a0, .int x1, .int x2] (fun _ => True) [(14, 0), (15, 0)] (xI (fun H r H1 => True)) (fun H En H1 => En = "java/lang/IndexOutOfBoundsException" ∨ En = "java/util/NoSuchElementException") := by
  refine enterX (by decide) (Nat.le_of_ble_eq_true rfl) ?_
  intro hl0 p e s m args below meth c ls Q hA hQ ht C hr hO hpre hl
  have hx := C.1
  have hb := C.2.1
  have S : Sd D G [(14, 0), (15, 0)] s.heap s.heap [] := Sd.start hO
  have hl : lv_has ls 4 [(0, .ref a0), (1, .int x1), (2, .int x2)] := hl
  refine lv_aload_n hx hb dX11_hearth_0 rfl (lv_at hl 0 rfl) ?_
  refine lv_iload_n hx hb dX11_hearth_1 rfl (lv_at hl 1 rfl) ?_
  refine callV_Xv hl0 C S (c_X11_needHearth l D G a0 x1 ga0) kV_X11_173 ga0 (trivial) (by decide +kernel) dX11_hearth_2 hl.1 rfl rfl (by decide) cd_X11_needHearth ⟨Nat.le_of_ble_eq_true rfl, Nat.le_of_ble_eq_true rfl, Nat.le_of_ble_eq_true rfl, Nat.le_of_ble_eq_true rfl, Nat.le_of_ble_eq_true rfl⟩ (fun H1 L1 S1 K1 q1 => ?_) (fun En H1 L1 q9 ce S1 K1 X1 h7 h8 h9 => outX hQ C ht S1 h7 h8 h9 (by decide) (by decide) (by rcases X1 with rfl <;> simp))
  refine lv_aload_n hx hb dX11_hearth_5 rfl (lv_at hl 0 rfl) ?_
  refine q_gr (T := TX11) C S1.1 ga0 1 kF_X11_19 dX11_hearth_6 rfl rfl (by decide) rfl (by decide) rfl (fun g2 => ?_)
  refine q_gr (T := TX5) C S1.1 g2 1 kF_X11_176 dX11_hearth_9 rfl rfl (by decide) rfl (by decide) rfl (fun g3 => ?_)
  refine lv_iload_n hx hb dX11_hearth_12 rfl (lv_at hl 1 rfl) ?_
  refine q_aald C S1.1 g3 (by omega) (by omega) dX11_hearth_13 rfl (by decide) rfl rfl (fun g4 => ?_)
  refine lv_astore_n (lv' := [(3, .ref (eR H1 (fR D H1 5 (fR D H1 10 a0 1) 1) x1.toInt.toNat)), (0, .ref a0), (1, .int x1), (2, .int x2)]) hx hb dX11_hearth_14 rfl hl (by decide) rfl (fun ls hl => ?_)
  refine lv_iload_n hx hb dX11_hearth_15 rfl (lv_at hl 3 rfl) ?_
  by_cases w5 : x2.toInt = (0)
  · refine lv_tableIn (tgt := 64) (off := 48) hx hb dX11_hearth_16 (by omega) (by omega) (by rw [w5]; rfl) (by decide) ?_
    refine lv_aload_n hx hb dX11_hearth_64 rfl (lv_at hl 0 rfl) ?_
    refine q_gi (T := TX1) C S1.1 g4 0 kF_X11_180 dX11_hearth_65 rfl rfl (by decide) rfl (by decide) rfl ?_
    have r6 : 0 ≤ (fI D H1 1 (eR H1 (fR D H1 5 (fR D H1 10 a0 1) 1) x1.toInt.toNat) 0).toInt ∧ (fI D H1 1 (eR H1 (fR D H1 5 (fR D H1 10 a0 1) 1) x1.toInt.toNat) 0).toInt ≤ 5 := S1.1.rng g4 rfl (by decide) rfl
    exact retX_i hQ C S1 hr dX11_hearth_68 (by decide) (by decide) (trivial)
  by_cases w7 : x2.toInt = (1)
  · refine lv_tableIn (tgt := 69) (off := 53) hx hb dX11_hearth_16 (by omega) (by omega) (by rw [w7]; rfl) (by decide) ?_
    refine lv_aload_n hx hb dX11_hearth_69 rfl (lv_at hl 0 rfl) ?_
    refine q_gi (T := TX1) C S1.1 g4 1 kF_X11_185 dX11_hearth_70 rfl rfl (by decide) rfl (by decide) rfl ?_
    exact retX_i hQ C S1 hr dX11_hearth_73 (by decide) (by decide) (trivial)
  by_cases w8 : x2.toInt = (2)
  · refine lv_tableIn (tgt := 74) (off := 58) hx hb dX11_hearth_16 (by omega) (by omega) (by rw [w8]; rfl) (by decide) ?_
    refine lv_aload_n hx hb dX11_hearth_74 rfl (lv_at hl 0 rfl) ?_
    refine q_gi (T := TX1) C S1.1 g4 2 kF_X11_188 dX11_hearth_75 rfl rfl (by decide) rfl (by decide) rfl ?_
    exact retX_i hQ C S1 hr dX11_hearth_78 (by decide) (by decide) (trivial)
  by_cases w9 : x2.toInt = (3)
  · refine lv_tableIn (tgt := 79) (off := 63) hx hb dX11_hearth_16 (by omega) (by omega) (by rw [w9]; rfl) (by decide) ?_
    refine lv_aload_n hx hb dX11_hearth_79 rfl (lv_at hl 0 rfl) ?_
    refine q_gi (T := TX1) C S1.1 g4 3 kF_X11_191 dX11_hearth_80 rfl rfl (by decide) rfl (by decide) rfl ?_
    exact retX_i hQ C S1 hr dX11_hearth_83 (by decide) (by decide) (trivial)
  by_cases w10 : x2.toInt = (4)
  · refine lv_tableIn (tgt := 84) (off := 68) hx hb dX11_hearth_16 (by omega) (by omega) (by rw [w10]; rfl) (by decide) ?_
    refine lv_aload_n hx hb dX11_hearth_84 rfl (lv_at hl 0 rfl) ?_
    refine q_gi (T := TX1) C S1.1 g4 4 kF_X11_194 dX11_hearth_85 rfl rfl (by decide) rfl (by decide) rfl ?_
    exact retX_i hQ C S1 hr dX11_hearth_88 (by decide) (by decide) (trivial)
  by_cases w11 : x2.toInt = (5)
  · refine lv_tableIn (tgt := 89) (off := 73) hx hb dX11_hearth_16 (by omega) (by omega) (by rw [w11]; rfl) (by decide) ?_
    refine lv_aload_n hx hb dX11_hearth_89 rfl (lv_at hl 0 rfl) ?_
    refine q_gi (T := TX1) C S1.1 g4 5 kF_X11_197 dX11_hearth_90 rfl rfl (by decide) rfl (by decide) rfl ?_
    exact retX_i hQ C S1 hr dX11_hearth_93 (by decide) (by decide) (trivial)
  by_cases w12 : x2.toInt = (6)
  · refine lv_tableIn (tgt := 94) (off := 78) hx hb dX11_hearth_16 (by omega) (by omega) (by rw [w12]; rfl) (by decide) ?_
    refine lv_aload_n hx hb dX11_hearth_94 rfl (lv_at hl 1 rfl) ?_
    refine q_gr (T := TX11) C S1.1 ga0 1 kF_X11_19 dX11_hearth_95 rfl rfl (by decide) rfl (by decide) rfl (fun g13 => ?_)
    refine lv_iload_n hx hb dX11_hearth_98 rfl (lv_at hl 2 rfl) ?_
    refine callV_Ei C S1 (c_X5_taxOf l D G (fR D H1 10 a0 1) x1 g13 (by omega)) kV_X11_200 g13 (trivial) (by decide +kernel) dX11_hearth_99 hl.1 rfl rfl (by decide) cd_X5_taxOf ⟨Nat.le_of_ble_eq_true rfl, Nat.le_of_ble_eq_true rfl, Nat.le_of_ble_eq_true rfl, Nat.le_of_ble_eq_true rfl, Nat.le_of_ble_eq_true rfl⟩ (fun v14 H14 L14 S14 K14 q14 => ?_)
    exact retX_i hQ C S14 hr dX11_hearth_102 (by decide) (by decide) (trivial)
  by_cases w15 : x2.toInt = (7)
  · refine lv_tableIn (tgt := 103) (off := 87) hx hb dX11_hearth_16 (by omega) (by omega) (by rw [w15]; rfl) (by decide) ?_
    refine lv_aload_n hx hb dX11_hearth_103 rfl (lv_at hl 1 rfl) ?_
    refine q_gr (T := TX11) C S1.1 ga0 1 kF_X11_19 dX11_hearth_104 rfl rfl (by decide) rfl (by decide) rfl (fun g16 => ?_)
    refine lv_iload_n hx hb dX11_hearth_107 rfl (lv_at hl 2 rfl) ?_
    refine callV_Ei C S1 (c_X5_foundBy l D G (fR D H1 10 a0 1) x1 g16 (by omega)) kV_X11_203 g16 (trivial) (by decide +kernel) dX11_hearth_108 hl.1 rfl rfl (by decide) cd_X5_foundBy ⟨Nat.le_of_ble_eq_true rfl, Nat.le_of_ble_eq_true rfl, Nat.le_of_ble_eq_true rfl, Nat.le_of_ble_eq_true rfl, Nat.le_of_ble_eq_true rfl⟩ (fun v17 H17 L17 S17 K17 q17 => ?_)
    exact retX_i hQ C S17 hr dX11_hearth_111 (by decide) (by decide) (trivial)
  refine lv_tableOut (tgt := 112) hx hb dX11_hearth_16 (by omega) (by decide) ?_
  exact q_throwN hl0 hQ C ht S1 hrx_NSE kL_X11_168 kI_NSE ks_X11_206 ka_X11_172 kf_NSE dX11_hearth_112 dX11_hearth_115 dX11_hearth_116 dX11_hearth_118 dX11_hearth_121 hl.1 ⟨Nat.le_of_ble_eq_true rfl, Nat.le_of_ble_eq_true rfl, Nat.le_of_ble_eq_true rfl, Nat.le_of_ble_eq_true rfl⟩ (by decide) (by decide) (fun H1 g1 g2 => by simp)
