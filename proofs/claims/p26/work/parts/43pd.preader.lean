set_option maxRecDepth 100000 in
set_option maxHeartbeats 4000000 in
theorem c_X6_roomyHouse_f (l : Launch) (D : DD) (G : Nat → Nat) (a0 : Nat) (dd : Nat) (sg : Sg) (tp : Nat) (T : Tx) (b : Nat) (ga0 : G a0 = 20) : CE l D G yX6_roomyHouse cX6_roomyHouse 2 (some .int) 2 [.ref a0] (fun H => (G (fR D H 6 a0 2) = 23) ∧ (fR D H 6 a0 0 = tp ∧ TS D H tp T b ∧ fR D H 6 a0 2 = dd ∧ DS D H dd ∧ SV (pv D H dd) sg)) [(2, 3), (2, 4), (2, 5), (2, 6), (2, 2)] (xI (fun H r H1 => (-1 ≤ r.toInt ∧ r.toInt ≤ 5) ∧ ((num T b 0 (sg 0 - 1) ≠ -1 ∧ ¬ 6 ≤ ones (bto sg (num T b 0 (sg 0 - 1)) (sg 1).toNat) ∧ r.toInt = num T b 0 (sg 0 - 1) ∧ TS D H1 tp T (nx T b)) ∨ ((num T b 0 (sg 0 - 1) = -1 ∨ 6 ≤ ones (bto sg (num T b 0 (sg 0 - 1)) (sg 1).toNat)) ∧ r.toInt = -1 ∧ (fI D H1 9 tp 2).toInt = (((b) : Nat) : Int))))) := by
  refine enter (by decide) (Nat.le_of_ble_eq_true rfl) ?_
  intro p e s m args below meth c ls Q hA hQ C hr hO hpre hl
  have hx := C.1
  have hb := C.2.1
  have S : Sd D G [(2, 3), (2, 4), (2, 5), (2, 6), (2, 2)] s.heap s.heap [] := Sd.start hO
  have hl : lv_has ls 2 [(0, .ref a0)] := hl
  obtain ⟨hpre, hf⟩ := hpre
  obtain ⟨htp, ts0, hdd, ds0, dv0⟩ := hf
  have gtp : G tp = 2 := by rw [← htp]; exact hO.rol ga0 rfl (by decide) rfl
  have gdd : G dd = 23 := by rw [← hdd]; exact hpre
  have hT : T.2 ≤ 400 := ts0.le hO gtp
  have ct0 : (fI D s.heap 5 dd 3).toInt = sg 0 := dv_0 dv0
  refine lv_aload_n hx hb dX6_roomyHouse_0 rfl (lv_at hl 0 rfl) ?_
  refine q_grS (T := TX6) C S.1 ga0 0 kF_X6_15 dX6_roomyHouse_1 rfl rfl (by decide) rfl (by decide) kSF_X6_tape (fun g1 => ?_)
  rw [show fR D s.heap 6 a0 0 = tp from htp]
  refine q_gi (T := TX9) C S.1 gtp 3 kF_X6_139 dX6_roomyHouse_4 rfl rfl (by decide) rfl (by decide) rfl ?_
  refine lv_iconst (v := 2) hx hb dX6_roomyHouse_7 (by decide) ?_
  have k_2 : (2 : Int32).toInt = 2 := by decide
  refine lv_icmp_ne (tgt := 37) hx hb dX6_roomyHouse_8 (by decide) (fun c2 => ?_) (fun c2 => ?_)
  · have b2 : ¬ (fI D s.heap 9 tp 3).toInt = (2 : Int32).toInt := fun z9 => c2 (i_eq.mpr z9)
    refine lv_iconst (v := 0) hx hb dX6_roomyHouse_37 (by decide) ?_
    refine lv_istore_n (lv' := [(1, .int (0 : Int32)), (0, .ref a0)]) hx hb dX6_roomyHouse_38 rfl hl (by decide) rfl (fun ls hl => ?_)
    refine lv_iload_n hx hb dX6_roomyHouse_39 rfl (lv_at hl 0 rfl) ?_
    have k_0 : (0 : Int32).toInt = 0 := by decide
    refine lv_if_eq (tgt := 53) hx hb dX6_roomyHouse_40 (by decide) (fun c3 => ?_) (fun c3 => ?_)
    · have b3 : (0 : Int32).toInt = (0 : Int32).toInt := i_eq.mp c3
      refine lv_aload_n hx hb dX6_roomyHouse_53 rfl (lv_at hl 1 rfl) ?_
      refine q_grS (T := TX6) C S.1 ga0 0 kF_X6_15 dX6_roomyHouse_54 rfl rfl (by decide) rfl (by decide) kSF_X6_tape (fun g4 => ?_)
      rw [show fR D s.heap 6 a0 0 = tp from htp]
      refine lv_iconst (v := 0) hx hb dX6_roomyHouse_57 (by decide) ?_
      refine lv_aload_n hx hb dX6_roomyHouse_58 rfl (lv_at hl 1 rfl) ?_
      refine q_grD (T := TX6) C S.1 ga0 2 kF_X6_11 dX6_roomyHouse_59 rfl rfl (by decide) rfl (by decide) rfl (fun g5 => ?_)
      replace g5 : G (fR D s.heap 6 a0 2) = 23 := by rw [S.2.1.fR ga0 rfl (by decide) (by decide +kernel)]; exact hpre
      rw [show fR D s.heap 6 a0 2 = dd from hdd]
      refine q_gi (T := TX5) C S.1 gdd 3 kF_X6_44 dX6_roomyHouse_62 rfl rfl (by decide) rfl (by decide) rfl ?_
      have r6 : 0 ≤ (fI D s.heap 5 dd 3).toInt ∧ (fI D s.heap 5 dd 3).toInt ≤ 6 := S.1.rng gdd rfl (by decide) rfl
      refine lv_iconst (v := 1) hx hb dX6_roomyHouse_65 (by decide) ?_
      have k_1 : (1 : Int32).toInt = 1 := by decide
      refine lv_isub hx hb dX6_roomyHouse_66 ?_
      refine lv_topi (fun v7 ev7 => ?_)
      have f8 : v7.toInt = (fI D s.heap 5 dd 3).toInt - (1 : Int32).toInt := by rw [ev7]; exact i_sub (by omega) (by omega)
      refine callV_Ei C S (c_X9_takeNumber_f l D G tp (0 : Int32) v7 0 (sg 0 - 1) T b gtp (by omega) (by omega) (by omega)) kV_X6_86 gtp (⟨trivial, ts0⟩) (by decide +kernel) dX6_roomyHouse_67 hl.1 rfl rfl (by decide) cd_X9_takeNumber ⟨Nat.le_of_ble_eq_true rfl, Nat.le_of_ble_eq_true rfl, Nat.le_of_ble_eq_true rfl, Nat.le_of_ble_eq_true rfl, Nat.le_of_ble_eq_true rfl⟩ (fun v9 H9 L9 S9 K9 q9 => ?_)
      obtain ⟨q9, fq9⟩ := q9
      have dv9 := dv_keep dv0 S.1 (Or.inr gdd) K9
      have ct9 : (fI D H9 5 dd 3).toInt = sg 0 := by rw [K9.fI gdd rfl (by decide) (by decide +kernel)]; exact ct0
      rcases fq9 with ⟨z9, y9, ts9⟩ | ⟨z9, y9, wr9⟩
      · skip
        exact retE_i hQ C S9 hr dX6_roomyHouse_70 (⟨by omega, Or.inl ⟨y9, fun h7 => (num_r (T := T) (b := b) (lo := 0) (hi := sg 0 - 1) (by decide)).elim (fun h9 => absurd h9 y9) (fun h9 => by rw [h9.2.2.2] at h7; have z8 := ts0.2.1; have z7 := h9.1; omega), by omega, ts9⟩⟩)
      · skip
        exact retE_i hQ C S9 hr dX6_roomyHouse_70 (⟨by omega, Or.inr ⟨Or.inl y9, by omega, wr9⟩⟩)
    · have b3 : ¬ (0 : Int32).toInt = (0 : Int32).toInt := fun z9 => c3 (i_eq.mpr z9)
      exact absurd b3 (by omega)
  · have b2 : (fI D s.heap 9 tp 3).toInt = (2 : Int32).toInt := i_eq.mp c2
    refine lv_aload_n hx hb dX6_roomyHouse_11 rfl (lv_at hl 0 rfl) ?_
    refine q_grD (T := TX6) C S.1 ga0 2 kF_X6_11 dX6_roomyHouse_12 rfl rfl (by decide) rfl (by decide) rfl (fun g10 => ?_)
    replace g10 : G (fR D s.heap 6 a0 2) = 23 := by rw [S.2.1.fR ga0 rfl (by decide) (by decide +kernel)]; exact hpre
    rw [show fR D s.heap 6 a0 2 = dd from hdd]
    refine lv_aload_n hx hb dX6_roomyHouse_15 rfl (lv_at hl 0 rfl) ?_
    refine q_grS (T := TX6) C S.1 ga0 0 kF_X6_15 dX6_roomyHouse_16 rfl rfl (by decide) rfl (by decide) kSF_X6_tape (fun g11 => ?_)
    rw [show fR D s.heap 6 a0 0 = tp from htp]
    refine q_gi (T := TX9) C S.1 gtp 6 kF_X6_142 dX6_roomyHouse_19 rfl rfl (by decide) rfl (by decide) rfl ?_
    refine callV_Pi C S.1 S.2.1.2.1 (c_X5_bitsOf_df l D G dd (fI D s.heap 9 tp 6) sg gdd) kV_X6_145 gdd (dv0) dX6_roomyHouse_22 hl.1 rfl rfl (by decide) cd_X5_bitsOf ⟨Nat.le_of_ble_eq_true rfl, Nat.le_of_ble_eq_true rfl, Nat.le_of_ble_eq_true rfl, Nat.le_of_ble_eq_true rfl, Nat.le_of_ble_eq_true rfl⟩ (fun v12 q12 => ?_)
    have hvl : (fI D s.heap 9 tp 6).toInt = nv T b := ts0.2.2.2.1 (by have := ts0.2.1; omega)
    have hb2 : v12.toInt.toNat = bto sg (nv T b) (sg 1).toNat := by rw [← hvl]; have := q12.2; omega
    refine callS_Pi C S.1 S.2.1.2.1 (c_J6_bitCount_0f7a4 l D G v12) kS_X6_149 (trivial) dX6_roomyHouse_25 hl.1 cd_J6_bitCount_0f7a4 ⟨Nat.le_of_ble_eq_true rfl, Nat.le_of_ble_eq_true rfl, Nat.le_of_ble_eq_true rfl, Nat.le_of_ble_eq_true rfl, Nat.le_of_ble_eq_true rfl⟩ (fun v13 q13 => ?_)
    have hon := q13 (by omega)
    rw [hb2] at hon
    refine lv_bipush (v := 6) hx hb dX6_roomyHouse_28 (by decide) ?_
    have k_6 : (6 : Int32).toInt = 6 := by decide
    refine lv_icmp_lt (tgt := 37) hx hb dX6_roomyHouse_30 (by decide) (fun c14 => ?_) (fun c14 => ?_)
    · have b14 : v13.toInt < (6 : Int32).toInt := i_lt.mp c14
      refine lv_iconst (v := 0) hx hb dX6_roomyHouse_37 (by decide) ?_
      refine lv_istore_n (lv' := [(1, .int (0 : Int32)), (0, .ref a0)]) hx hb dX6_roomyHouse_38 rfl hl (by decide) rfl (fun ls hl => ?_)
      refine lv_iload_n hx hb dX6_roomyHouse_39 rfl (lv_at hl 0 rfl) ?_
      have k_0 : (0 : Int32).toInt = 0 := by decide
      refine lv_if_eq (tgt := 53) hx hb dX6_roomyHouse_40 (by decide) (fun c15 => ?_) (fun c15 => ?_)
      · have b15 : (0 : Int32).toInt = (0 : Int32).toInt := i_eq.mp c15
        refine lv_aload_n hx hb dX6_roomyHouse_53 rfl (lv_at hl 1 rfl) ?_
        refine q_grS (T := TX6) C S.1 ga0 0 kF_X6_15 dX6_roomyHouse_54 rfl rfl (by decide) rfl (by decide) kSF_X6_tape (fun g16 => ?_)
        rw [show fR D s.heap 6 a0 0 = tp from htp]
        refine lv_iconst (v := 0) hx hb dX6_roomyHouse_57 (by decide) ?_
        refine lv_aload_n hx hb dX6_roomyHouse_58 rfl (lv_at hl 1 rfl) ?_
        refine q_grD (T := TX6) C S.1 ga0 2 kF_X6_11 dX6_roomyHouse_59 rfl rfl (by decide) rfl (by decide) rfl (fun g17 => ?_)
        replace g17 : G (fR D s.heap 6 a0 2) = 23 := by rw [S.2.1.fR ga0 rfl (by decide) (by decide +kernel)]; exact hpre
        rw [show fR D s.heap 6 a0 2 = dd from hdd]
        refine q_gi (T := TX5) C S.1 gdd 3 kF_X6_44 dX6_roomyHouse_62 rfl rfl (by decide) rfl (by decide) rfl ?_
        have r18 : 0 ≤ (fI D s.heap 5 dd 3).toInt ∧ (fI D s.heap 5 dd 3).toInt ≤ 6 := S.1.rng gdd rfl (by decide) rfl
        refine lv_iconst (v := 1) hx hb dX6_roomyHouse_65 (by decide) ?_
        have k_1 : (1 : Int32).toInt = 1 := by decide
        refine lv_isub hx hb dX6_roomyHouse_66 ?_
        refine lv_topi (fun v19 ev19 => ?_)
        have f20 : v19.toInt = (fI D s.heap 5 dd 3).toInt - (1 : Int32).toInt := by rw [ev19]; exact i_sub (by omega) (by omega)
        refine callV_Ei C S (c_X9_takeNumber_f l D G tp (0 : Int32) v19 0 (sg 0 - 1) T b gtp (by omega) (by omega) (by omega)) kV_X6_86 gtp (⟨trivial, ts0⟩) (by decide +kernel) dX6_roomyHouse_67 hl.1 rfl rfl (by decide) cd_X9_takeNumber ⟨Nat.le_of_ble_eq_true rfl, Nat.le_of_ble_eq_true rfl, Nat.le_of_ble_eq_true rfl, Nat.le_of_ble_eq_true rfl, Nat.le_of_ble_eq_true rfl⟩ (fun v21 H21 L21 S21 K21 q21 => ?_)
        obtain ⟨q21, fq21⟩ := q21
        have dv21 := dv_keep dv0 S.1 (Or.inr gdd) K21
        have ct21 : (fI D H21 5 dd 3).toInt = sg 0 := by rw [K21.fI gdd rfl (by decide) (by decide +kernel)]; exact ct0
        rcases fq21 with ⟨z21, y21, ts21⟩ | ⟨z21, y21, wr21⟩
        · skip
          exact retE_i hQ C S21 hr dX6_roomyHouse_70 (⟨by omega, Or.inl ⟨y21, fun h7 => (num_r (T := T) (b := b) (lo := 0) (hi := sg 0 - 1) (by decide)).elim (fun h9 => absurd h9 y21) (fun h9 => by rw [h9.2.2.2] at h7; have z8 := ts0.2.1; have z7 := h9.1; omega), by omega, ts21⟩⟩)
        · skip
          exact retE_i hQ C S21 hr dX6_roomyHouse_70 (⟨by omega, Or.inr ⟨Or.inl y21, by omega, wr21⟩⟩)
      · have b15 : ¬ (0 : Int32).toInt = (0 : Int32).toInt := fun z9 => c15 (i_eq.mpr z9)
        exact absurd b15 (by omega)
    · have b14 : ¬ v13.toInt < (6 : Int32).toInt := fun z9 => c14 (i_lt.mpr z9)
      refine lv_iconst (v := 1) hx hb dX6_roomyHouse_33 (by decide) ?_
      refine lv_goto (tgt := 38) hx hb dX6_roomyHouse_34 (by decide) ?_
      refine lv_istore_n (lv' := [(1, .int (1 : Int32)), (0, .ref a0)]) hx hb dX6_roomyHouse_38 rfl hl (by decide) rfl (fun ls hl => ?_)
      refine lv_iload_n hx hb dX6_roomyHouse_39 rfl (lv_at hl 0 rfl) ?_
      have k_1 : (1 : Int32).toInt = 1 := by decide
      have k_0 : (0 : Int32).toInt = 0 := by decide
      refine lv_if_eq (tgt := 53) hx hb dX6_roomyHouse_40 (by decide) (fun c22 => ?_) (fun c22 => ?_)
      · have b22 : (1 : Int32).toInt = (0 : Int32).toInt := i_eq.mp c22
        exact absurd b22 (by omega)
      · have b22 : ¬ (1 : Int32).toInt = (0 : Int32).toInt := fun z9 => c22 (i_eq.mpr z9)
        refine lv_aload_n hx hb dX6_roomyHouse_43 rfl (lv_at hl 1 rfl) ?_
        refine q_grS (T := TX6) C S.1 ga0 0 kF_X6_15 dX6_roomyHouse_44 rfl rfl (by decide) rfl (by decide) kSF_X6_tape (fun g23 => ?_)
        rw [show fR D s.heap 6 a0 0 = tp from htp]
        refine callV_Ei C S (c_X9_refuse_f l D G tp T b gtp) kV_X6_50 gtp (⟨trivial, ts0⟩) (by decide +kernel) dX6_roomyHouse_47 hl.1 rfl rfl (by decide) cd_X9_refuse ⟨Nat.le_of_ble_eq_true rfl, Nat.le_of_ble_eq_true rfl, Nat.le_of_ble_eq_true rfl, Nat.le_of_ble_eq_true rfl, Nat.le_of_ble_eq_true rfl⟩ (fun v24 H24 L24 S24 K24 q24 => ?_)
        obtain ⟨q24, fq24⟩ := q24
        have dv24 := dv_keep dv0 S.1 (Or.inr gdd) K24
        have ct24 : (fI D H24 5 dd 3).toInt = sg 0 := by rw [K24.fI gdd rfl (by decide) (by decide +kernel)]; exact ct0
        have z24 := fq24.1
        refine lv_pop hx hb dX6_roomyHouse_50 rfl ?_
        refine lv_iconst (v := -1) hx hb dX6_roomyHouse_51 (by decide) ?_
        have k_m1 : (-1 : Int32).toInt = -1 := by decide
        exact retE_i hQ C S24 hr dX6_roomyHouse_52 (⟨by omega, Or.inr ⟨(num_r (T := T) (b := b) (lo := 0) (hi := sg 0 - 1) (by decide)).elim Or.inl (fun h9 => Or.inr (by rw [h9.2.2.2]; omega)), by omega, fq24.2⟩⟩)
