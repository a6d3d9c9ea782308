set_option maxRecDepth 100000 in
set_option maxHeartbeats 4000000 in
theorem c_X4_clear (l : Launch) (D : DD) (G : Nat → Nat) (a0 : Nat) (ga0 : G a0 = 21) : CE l D G yX4_clear cX4_clear 1 none 0 [.ref a0] (fun _ => True) [(21, 3), (21, 4)] (xV (fun H H1 => Lc D H1 a0 ∧ (fI D H1 4 a0 4).toInt = 0)) := by
  refine enter (by decide) (Nat.le_of_ble_eq_true rfl) ?_
  intro p e s m args below meth c ls Q hA hQ C hr hO hpre hl
  have hx := C.1
  have hb := C.2.1
  have S : Sd D G [(21, 3), (21, 4)] s.heap s.heap [] := Sd.start hO
  have hl : lv_has ls 1 [(0, .ref a0)] := hl
  refine lv_aload_n hx hb dX4_clear_0 rfl (lv_at hl 0 rfl) ?_
  refine lv_iconst (v := 0) hx hb dX4_clear_1 (by decide) ?_
  have k_0 : (0 : Int32).toInt = 0 := by decide
  refine q_put (T := TX4) C S ga0 3 kF_X4_17 dX4_clear_2 rfl rfl (by decide) (by decide) rfl rfl rfl rfl rfl (vok_i rfl (by omega) (by omega)) (by decide +kernel) (fun H1 L1 S1 P1 => ?_)
  refine lv_aload_n hx hb dX4_clear_5 rfl (lv_at hl 0 rfl) ?_
  refine lv_iconst (v := 0) hx hb dX4_clear_6 (by decide) ?_
  refine q_put (T := TX4) C S1 ga0 4 kF_X4_21 dX4_clear_7 rfl rfl (by decide) (by decide) rfl rfl rfl rfl rfl (vok_a rfl) (by decide +kernel) (fun H2 L2 S2 P2 => ?_)
  exact retE_v hQ C S2 hr dX4_clear_10 (⟨Lc.zero (by rw [Pt.o P2 (by decide) (by decide), Pt.i P1]; decide), by rw [Pt.i P2]; decide⟩)

set_option maxRecDepth 100000 in
set_option maxHeartbeats 4000000 in
theorem c_X4_put (l : Launch) (D : DD) (G : Nat → Nat) (a0 : Nat) (x1 : Int32) (ga0 : G a0 = 21) : CE l D G yX4_put cX4_put 2 none 0 [.ref a0, .int x1] (fun _ => True) [(22, 0), (21, 3)] (xV (fun H H1 => ((fI D H 4 a0 3).toInt < 400 → (fI D H1 4 a0 3).toInt = (fI D H 4 a0 3).toInt + 1) ∧ ((fI D H 4 a0 3).toInt = 400 → (fI D H1 4 a0 3).toInt = 400) ∧ Lw D H H1 a0)) := by
  refine enter (by decide) (Nat.le_of_ble_eq_true rfl) ?_
  intro p e s m args below meth c ls Q hA hQ C hr hO hpre hl
  have hx := C.1
  have hb := C.2.1
  have S : Sd D G [(22, 0), (21, 3)] s.heap s.heap [] := Sd.start hO
  have hl : lv_has ls 2 [(0, .ref a0), (1, .int x1)] := hl
  refine lv_aload_n hx hb dX4_put_0 rfl (lv_at hl 0 rfl) ?_
  refine q_gi (T := TX4) C S.1 ga0 3 kF_X4_17 dX4_put_1 rfl rfl (by decide) rfl (by decide) rfl ?_
  have r1 : 0 ≤ (fI D s.heap 4 a0 3).toInt ∧ (fI D s.heap 4 a0 3).toInt ≤ 400 := S.1.rng ga0 rfl (by decide) rfl
  refine lv_aload_n hx hb dX4_put_4 rfl (lv_at hl 0 rfl) ?_
  refine q_gr (T := TX4) C S.1 ga0 2 kF_X4_13 dX4_put_5 rfl rfl (by decide) rfl (by decide) rfl (fun g2 => ?_)
  have n3 : aN s.heap (fR D s.heap 4 a0 2) = 400 := len_22 S.1 g2
  refine q_alen C S.1 g2 dX4_put_8 rfl (by decide) rfl (fun v4 fv4 => ?_)
  refine lv_icmp_ge (tgt := 32) hx hb dX4_put_9 (by decide) (fun c5 => ?_) (fun c5 => ?_)
  · have b5 : v4.toInt ≤ (fI D s.heap 4 a0 3).toInt := i_le.mp c5
    exact retE_v hQ C S hr dX4_put_32 (⟨fun h9 => by omega, fun h9 => by omega, Lw.refl⟩)
  · have b5 : ¬ v4.toInt ≤ (fI D s.heap 4 a0 3).toInt := fun z9 => c5 (i_le.mpr z9)
    refine lv_aload_n hx hb dX4_put_12 rfl (lv_at hl 0 rfl) ?_
    refine q_gr (T := TX4) C S.1 ga0 2 kF_X4_13 dX4_put_13 rfl rfl (by decide) rfl (by decide) rfl (fun g6 => ?_)
    refine lv_aload_n hx hb dX4_put_16 rfl (lv_at hl 0 rfl) ?_
    refine q_gi (T := TX4) C S.1 ga0 3 kF_X4_17 dX4_put_17 rfl rfl (by decide) rfl (by decide) rfl ?_
    refine lv_iload_n hx hb dX4_put_20 rfl (lv_at hl 1 rfl) ?_
    refine q_iast C S g6 (by omega) (by omega) dX4_put_21 rfl (by decide) (by decide +kernel) (fun _ _ h => ak_22 h) (fun H7 L7 S7 P7 => ?_)
    refine lv_aload_n hx hb dX4_put_22 rfl (lv_at hl 0 rfl) ?_
    refine lv_dup hx hb dX4_put_23 rfl ?_
    refine q_gi (T := TX4) C S7.1 ga0 3 kF_X4_17 dX4_put_24 rfl rfl (by decide) rfl (by decide) rfl ?_
    have c8 : (fI D H7 4 a0 3).toInt = (fI D s.heap 4 a0 3).toInt := by rw [Pa.f P7 (ne_role ga0 g6 (by decide))]
    have r9 : 0 ≤ (fI D H7 4 a0 3).toInt ∧ (fI D H7 4 a0 3).toInt ≤ 400 := S7.1.rng ga0 rfl (by decide) rfl
    refine lv_iconst (v := 1) hx hb dX4_put_27 (by decide) ?_
    have k_1 : (1 : Int32).toInt = 1 := by decide
    refine lv_iadd hx hb dX4_put_28 ?_
    refine lv_topi (fun v10 ev10 => ?_)
    have f11 : v10.toInt = (fI D H7 4 a0 3).toInt + (1 : Int32).toInt := by rw [ev10]; exact i_add (by omega) (by omega)
    refine q_put (T := TX4) C S7 ga0 3 kF_X4_17 dX4_put_29 rfl rfl (by decide) (by decide) rfl rfl rfl rfl rfl (vok_i rfl (by omega) (by omega)) (by decide +kernel) (fun H12 L12 S12 P12 => ?_)
    exact retE_v hQ C S12 hr dX4_put_32 (by have z9 := Lw.put hO ga0 P7 (by omega) P12 (by omega); exact ⟨fun _ => z9.1, fun h9 => by omega, z9.2⟩)

set_option maxRecDepth 100000 in
set_option maxHeartbeats 4000000 in
theorem c_X4_presentSort_f (l : Launch) (D : DD) (G : Nat → Nat) (a0 : Nat) (tp : Nat) (T : Tx) (b : Nat) (ga0 : G a0 = 21) : CP l D G yX4_presentSort cX4_presentSort 1 (some .int) 5 [.ref a0] (fun H => (True) ∧ (fR D H 4 a0 0 = tp ∧ TS D H tp T b)) (pI (fun H r => (-1 ≤ r.toInt ∧ r.toInt ≤ 2) ∧ (r.toInt = srt T b))) := by
  refine enter (by decide) (Nat.le_of_ble_eq_true rfl) ?_
  intro p e s m args below meth c ls Q hA hQ C hr hO hpre hl
  have hx := C.1
  have hb := C.2.1
  have hl : lv_has ls 1 [(0, .ref a0)] := hl
  obtain ⟨hpre, hf⟩ := hpre
  obtain ⟨htp, ts0⟩ := hf
  have gtp : G tp = 2 := by rw [← htp]; exact hO.rol ga0 rfl (by decide) rfl
  have hT : T.2 ≤ 400 := ts0.le hO gtp
  refine lv_aload_n hx hb dX4_presentSort_0 rfl (lv_at hl 0 rfl) ?_
  refine q_grS (T := TX4) C hO ga0 0 kF_X4_39 dX4_presentSort_1 rfl rfl (by decide) rfl (by decide) kSF_X4_tape (fun g1 => ?_)
  rw [show fR D s.heap 4 a0 0 = tp from htp]
  refine q_lds C ks_X4_69 dX4_presentSort_4 (fun a2 ha2 wa2 => ?_)
  refine callV_Pi C hO (fun _ _ _ => rfl) (c_X9_isWord_f l D G tp a2 3 w_tax T b gtp ha2 (Wc.of wa2 kw_tax)) kV_X4_61 gtp (⟨trivial, ts0⟩) dX4_presentSort_6 hl.1 rfl rfl (by decide) cd_X9_isWord ⟨Nat.le_of_ble_eq_true rfl, Nat.le_of_ble_eq_true rfl, Nat.le_of_ble_eq_true rfl, Nat.le_of_ble_eq_true rfl, Nat.le_of_ble_eq_true rfl⟩ (fun v3 q3 => ?_)
  obtain ⟨q3, fq3⟩ := q3
  rcases fq3 with ⟨z3, y3⟩ | ⟨z3, y3⟩
  · skip
    have k_0 : (0 : Int32).toInt = 0 := by decide
    refine lv_if_eq (tgt := 14) hx hb dX4_presentSort_9 (by decide) (fun c4 => ?_) (fun c4 => ?_)
    · have b4 : v3.toInt = (0 : Int32).toInt := i_eq.mp c4
      exact absurd b4 (by omega)
    · have b4 : ¬ v3.toInt = (0 : Int32).toInt := fun z9 => c4 (i_eq.mpr z9)
      refine lv_iconst (v := 0) hx hb dX4_presentSort_12 (by decide) ?_
      exact retP_i hQ C hr dX4_presentSort_13 (⟨by omega, by rw [show srt T b = 0 by simp [srt, y3]]; omega⟩)
  · skip
    have k_0 : (0 : Int32).toInt = 0 := by decide
    refine lv_if_eq (tgt := 14) hx hb dX4_presentSort_9 (by decide) (fun c5 => ?_) (fun c5 => ?_)
    · have b5 : v3.toInt = (0 : Int32).toInt := i_eq.mp c5
      refine lv_aload_n hx hb dX4_presentSort_14 rfl (lv_at hl 0 rfl) ?_
      refine q_grS (T := TX4) C hO ga0 0 kF_X4_39 dX4_presentSort_15 rfl rfl (by decide) rfl (by decide) kSF_X4_tape (fun g6 => ?_)
      rw [show fR D s.heap 4 a0 0 = tp from htp]
      refine q_lds C ks_X4_71 dX4_presentSort_18 (fun a7 ha7 wa7 => ?_)
      refine callV_Pi C hO (fun _ _ _ => rfl) (c_X9_isWord_f l D G tp a7 4 w_free T b gtp ha7 (Wc.of wa7 kw_free)) kV_X4_61 gtp (⟨trivial, ts0⟩) dX4_presentSort_20 hl.1 rfl rfl (by decide) cd_X9_isWord ⟨Nat.le_of_ble_eq_true rfl, Nat.le_of_ble_eq_true rfl, Nat.le_of_ble_eq_true rfl, Nat.le_of_ble_eq_true rfl, Nat.le_of_ble_eq_true rfl⟩ (fun v8 q8 => ?_)
      obtain ⟨q8, fq8⟩ := q8
      rcases fq8 with ⟨z8, y8⟩ | ⟨z8, y8⟩
      · skip
        refine lv_if_eq (tgt := 28) hx hb dX4_presentSort_23 (by decide) (fun c9 => ?_) (fun c9 => ?_)
        · have b9 : v8.toInt = (0 : Int32).toInt := i_eq.mp c9
          exact absurd b9 (by omega)
        · have b9 : ¬ v8.toInt = (0 : Int32).toInt := fun z9 => c9 (i_eq.mpr z9)
          refine lv_iconst (v := 1) hx hb dX4_presentSort_26 (by decide) ?_
          have k_1 : (1 : Int32).toInt = 1 := by decide
          exact retP_i hQ C hr dX4_presentSort_27 (⟨by omega, by rw [show srt T b = 1 by simp [srt, y3, y8]]; omega⟩)
      · skip
        refine lv_if_eq (tgt := 28) hx hb dX4_presentSort_23 (by decide) (fun c10 => ?_) (fun c10 => ?_)
        · have b10 : v8.toInt = (0 : Int32).toInt := i_eq.mp c10
          refine lv_aload_n hx hb dX4_presentSort_28 rfl (lv_at hl 0 rfl) ?_
          refine q_grS (T := TX4) C hO ga0 0 kF_X4_39 dX4_presentSort_29 rfl rfl (by decide) rfl (by decide) kSF_X4_tape (fun g11 => ?_)
          rw [show fR D s.heap 4 a0 0 = tp from htp]
          refine q_lds C ks_X4_73 dX4_presentSort_32 (fun a12 ha12 wa12 => ?_)
          refine callV_Pi C hO (fun _ _ _ => rfl) (c_X9_isWord_f l D G tp a12 4 w_find T b gtp ha12 (Wc.of wa12 kw_find)) kV_X4_61 gtp (⟨trivial, ts0⟩) dX4_presentSort_34 hl.1 rfl rfl (by decide) cd_X9_isWord ⟨Nat.le_of_ble_eq_true rfl, Nat.le_of_ble_eq_true rfl, Nat.le_of_ble_eq_true rfl, Nat.le_of_ble_eq_true rfl, Nat.le_of_ble_eq_true rfl⟩ (fun v13 q13 => ?_)
          obtain ⟨q13, fq13⟩ := q13
          rcases fq13 with ⟨z13, y13⟩ | ⟨z13, y13⟩
          · skip
            refine lv_if_eq (tgt := 44) hx hb dX4_presentSort_37 (by decide) (fun c14 => ?_) (fun c14 => ?_)
            · have b14 : v13.toInt = (0 : Int32).toInt := i_eq.mp c14
              exact absurd b14 (by omega)
            · have b14 : ¬ v13.toInt = (0 : Int32).toInt := fun z9 => c14 (i_eq.mpr z9)
              refine lv_iconst (v := 2) hx hb dX4_presentSort_40 (by decide) ?_
              refine lv_goto (tgt := 45) hx hb dX4_presentSort_41 (by decide) ?_
              have k_2 : (2 : Int32).toInt = 2 := by decide
              exact retP_i hQ C hr dX4_presentSort_45 (⟨by omega, by rw [show srt T b = 2 by simp [srt, y3, y8, y13]]; omega⟩)
          · skip
            refine lv_if_eq (tgt := 44) hx hb dX4_presentSort_37 (by decide) (fun c15 => ?_) (fun c15 => ?_)
            · have b15 : v13.toInt = (0 : Int32).toInt := i_eq.mp c15
              refine lv_iconst (v := -1) hx hb dX4_presentSort_44 (by decide) ?_
              have k_m1 : (-1 : Int32).toInt = -1 := by decide
              exact retP_i hQ C hr dX4_presentSort_45 (⟨by omega, by rw [show srt T b = -1 by simp [srt, y3, y8, y13]]; omega⟩)
            · have b15 : ¬ v13.toInt = (0 : Int32).toInt := fun z9 => c15 (i_eq.mpr z9)
              exact absurd b15 (by omega)
        · have b10 : ¬ v8.toInt = (0 : Int32).toInt := fun z9 => c10 (i_eq.mpr z9)
          exact absurd b10 (by omega)
    · have b5 : ¬ v3.toInt = (0 : Int32).toInt := fun z9 => c5 (i_eq.mpr z9)
      exact absurd b5 (by omega)

set_option maxRecDepth 100000 in
set_option maxHeartbeats 4000000 in
theorem c_X4_presentTruth (l : Launch) (D : DD) (G : Nat → Nat) (a0 : Nat) (tp : Nat) (T : Tx) (b : Nat) (ga0 : G a0 = 21) : CP l D G yX4_presentTruth cX4_presentTruth 1 (some .int) 5 [.ref a0] (fun H => (True) ∧ (fR D H 4 a0 0 = tp ∧ TS D H tp T b)) (pI (fun H r => (-6 ≤ r.toInt ∧ r.toInt ≤ -1) ∧ (r.toInt = tru T b))) := by
  refine enter (by decide) (Nat.le_of_ble_eq_true rfl) ?_
  intro p e s m args below meth c ls Q hA hQ C hr hO hpre hl
  have hx := C.1
  have hb := C.2.1
  have hl : lv_has ls 1 [(0, .ref a0)] := hl
  obtain ⟨hpre, hf⟩ := hpre
  obtain ⟨htp, ts0⟩ := hf
  have gtp : G tp = 2 := by rw [← htp]; exact hO.rol ga0 rfl (by decide) rfl
  have hT : T.2 ≤ 400 := ts0.le hO gtp
  refine lv_aload_n hx hb dX4_presentTruth_0 rfl (lv_at hl 0 rfl) ?_
  refine q_grS (T := TX4) C hO ga0 0 kF_X4_39 dX4_presentTruth_1 rfl rfl (by decide) rfl (by decide) kSF_X4_tape (fun g1 => ?_)
  rw [show fR D s.heap 4 a0 0 = tp from htp]
  refine q_lds C ks_X4_97 dX4_presentTruth_4 (fun a2 ha2 wa2 => ?_)
  refine callV_Pi C hO (fun _ _ _ => rfl) (c_X9_isWord_f l D G tp a2 5 w_paper T b gtp ha2 (Wc.of wa2 kw_paper)) kV_X4_61 gtp (⟨trivial, ts0⟩) dX4_presentTruth_6 hl.1 rfl rfl (by decide) cd_X9_isWord ⟨Nat.le_of_ble_eq_true rfl, Nat.le_of_ble_eq_true rfl, Nat.le_of_ble_eq_true rfl, Nat.le_of_ble_eq_true rfl, Nat.le_of_ble_eq_true rfl⟩ (fun v3 q3 => ?_)
  obtain ⟨q3, fq3⟩ := q3
  rcases fq3 with ⟨z3, y3⟩ | ⟨z3, y3⟩
  · skip
    have k_0 : (0 : Int32).toInt = 0 := by decide
    refine lv_if_eq (tgt := 15) hx hb dX4_presentTruth_9 (by decide) (fun c4 => ?_) (fun c4 => ?_)
    · have b4 : v3.toInt = (0 : Int32).toInt := i_eq.mp c4
      exact absurd b4 (by omega)
    · have b4 : ¬ v3.toInt = (0 : Int32).toInt := fun z9 => c4 (i_eq.mpr z9)
      refine lv_bipush (v := -2) hx hb dX4_presentTruth_12 (by decide) ?_
      have k_m2 : (-2 : Int32).toInt = -2 := by decide
      exact retP_i hQ C hr dX4_presentTruth_14 (⟨by omega, by rw [show tru T b = -2 by simp [tru, y3]]; omega⟩)
  · skip
    have k_0 : (0 : Int32).toInt = 0 := by decide
    refine lv_if_eq (tgt := 15) hx hb dX4_presentTruth_9 (by decide) (fun c5 => ?_) (fun c5 => ?_)
    · have b5 : v3.toInt = (0 : Int32).toInt := i_eq.mp c5
      refine lv_aload_n hx hb dX4_presentTruth_15 rfl (lv_at hl 0 rfl) ?_
      refine q_grS (T := TX4) C hO ga0 0 kF_X4_39 dX4_presentTruth_16 rfl rfl (by decide) rfl (by decide) kSF_X4_tape (fun g6 => ?_)
      rw [show fR D s.heap 4 a0 0 = tp from htp]
      refine q_lds C ks_X4_99 dX4_presentTruth_19 (fun a7 ha7 wa7 => ?_)
      refine callV_Pi C hO (fun _ _ _ => rfl) (c_X9_isWord_f l D G tp a7 4 w_fire T b gtp ha7 (Wc.of wa7 kw_fire)) kV_X4_61 gtp (⟨trivial, ts0⟩) dX4_presentTruth_21 hl.1 rfl rfl (by decide) cd_X9_isWord ⟨Nat.le_of_ble_eq_true rfl, Nat.le_of_ble_eq_true rfl, Nat.le_of_ble_eq_true rfl, Nat.le_of_ble_eq_true rfl, Nat.le_of_ble_eq_true rfl⟩ (fun v8 q8 => ?_)
      obtain ⟨q8, fq8⟩ := q8
      rcases fq8 with ⟨z8, y8⟩ | ⟨z8, y8⟩
      · skip
        refine lv_if_eq (tgt := 30) hx hb dX4_presentTruth_24 (by decide) (fun c9 => ?_) (fun c9 => ?_)
        · have b9 : v8.toInt = (0 : Int32).toInt := i_eq.mp c9
          exact absurd b9 (by omega)
        · have b9 : ¬ v8.toInt = (0 : Int32).toInt := fun z9 => c9 (i_eq.mpr z9)
          refine lv_bipush (v := -3) hx hb dX4_presentTruth_27 (by decide) ?_
          have k_m3 : (-3 : Int32).toInt = -3 := by decide
          exact retP_i hQ C hr dX4_presentTruth_29 (⟨by omega, by rw [show tru T b = -3 by simp [tru, y3, y8]]; omega⟩)
      · skip
        refine lv_if_eq (tgt := 30) hx hb dX4_presentTruth_24 (by decide) (fun c10 => ?_) (fun c10 => ?_)
        · have b10 : v8.toInt = (0 : Int32).toInt := i_eq.mp c10
          refine lv_aload_n hx hb dX4_presentTruth_30 rfl (lv_at hl 0 rfl) ?_
          refine q_grS (T := TX4) C hO ga0 0 kF_X4_39 dX4_presentTruth_31 rfl rfl (by decide) rfl (by decide) kSF_X4_tape (fun g11 => ?_)
          rw [show fR D s.heap 4 a0 0 = tp from htp]
          refine q_lds C ks_X4_101 dX4_presentTruth_34 (fun a12 ha12 wa12 => ?_)
          refine callV_Pi C hO (fun _ _ _ => rfl) (c_X9_isWord_f l D G tp a12 4 w_oven T b gtp ha12 (Wc.of wa12 kw_oven)) kV_X4_61 gtp (⟨trivial, ts0⟩) dX4_presentTruth_36 hl.1 rfl rfl (by decide) cd_X9_isWord ⟨Nat.le_of_ble_eq_true rfl, Nat.le_of_ble_eq_true rfl, Nat.le_of_ble_eq_true rfl, Nat.le_of_ble_eq_true rfl, Nat.le_of_ble_eq_true rfl⟩ (fun v13 q13 => ?_)
          obtain ⟨q13, fq13⟩ := q13
          rcases fq13 with ⟨z13, y13⟩ | ⟨z13, y13⟩
          · skip
            refine lv_if_eq (tgt := 45) hx hb dX4_presentTruth_39 (by decide) (fun c14 => ?_) (fun c14 => ?_)
            · have b14 : v13.toInt = (0 : Int32).toInt := i_eq.mp c14
              exact absurd b14 (by omega)
            · have b14 : ¬ v13.toInt = (0 : Int32).toInt := fun z9 => c14 (i_eq.mpr z9)
              refine lv_bipush (v := -4) hx hb dX4_presentTruth_42 (by decide) ?_
              have k_m4 : (-4 : Int32).toInt = -4 := by decide
              exact retP_i hQ C hr dX4_presentTruth_44 (⟨by omega, by rw [show tru T b = -4 by simp [tru, y3, y8, y13]]; omega⟩)
          · skip
            refine lv_if_eq (tgt := 45) hx hb dX4_presentTruth_39 (by decide) (fun c15 => ?_) (fun c15 => ?_)
            · have b15 : v13.toInt = (0 : Int32).toInt := i_eq.mp c15
              refine lv_aload_n hx hb dX4_presentTruth_45 rfl (lv_at hl 0 rfl) ?_
              refine q_grS (T := TX4) C hO ga0 0 kF_X4_39 dX4_presentTruth_46 rfl rfl (by decide) rfl (by decide) kSF_X4_tape (fun g16 => ?_)
              rw [show fR D s.heap 4 a0 0 = tp from htp]
              refine q_lds C ks_X4_103 dX4_presentTruth_49 (fun a17 ha17 wa17 => ?_)
              refine callV_Pi C hO (fun _ _ _ => rfl) (c_X9_isWord_f l D G tp a17 5 w_forge T b gtp ha17 (Wc.of wa17 kw_forge)) kV_X4_61 gtp (⟨trivial, ts0⟩) dX4_presentTruth_51 hl.1 rfl rfl (by decide) cd_X9_isWord ⟨Nat.le_of_ble_eq_true rfl, Nat.le_of_ble_eq_true rfl, Nat.le_of_ble_eq_true rfl, Nat.le_of_ble_eq_true rfl, Nat.le_of_ble_eq_true rfl⟩ (fun v18 q18 => ?_)
              obtain ⟨q18, fq18⟩ := q18
              rcases fq18 with ⟨z18, y18⟩ | ⟨z18, y18⟩
              · skip
                refine lv_if_eq (tgt := 60) hx hb dX4_presentTruth_54 (by decide) (fun c19 => ?_) (fun c19 => ?_)
                · have b19 : v18.toInt = (0 : Int32).toInt := i_eq.mp c19
                  exact absurd b19 (by omega)
                · have b19 : ¬ v18.toInt = (0 : Int32).toInt := fun z9 => c19 (i_eq.mpr z9)
                  refine lv_bipush (v := -5) hx hb dX4_presentTruth_57 (by decide) ?_
                  have k_m5 : (-5 : Int32).toInt = -5 := by decide
                  exact retP_i hQ C hr dX4_presentTruth_59 (⟨by omega, by rw [show tru T b = -5 by simp [tru, y3, y8, y13, y18]]; omega⟩)
              · skip
                refine lv_if_eq (tgt := 60) hx hb dX4_presentTruth_54 (by decide) (fun c20 => ?_) (fun c20 => ?_)
                · have b20 : v18.toInt = (0 : Int32).toInt := i_eq.mp c20
                  refine lv_aload_n hx hb dX4_presentTruth_60 rfl (lv_at hl 0 rfl) ?_
                  refine q_grS (T := TX4) C hO ga0 0 kF_X4_39 dX4_presentTruth_61 rfl rfl (by decide) rfl (by decide) kSF_X4_tape (fun g21 => ?_)
                  rw [show fR D s.heap 4 a0 0 = tp from htp]
                  refine q_lds C ks_X4_105 dX4_presentTruth_64 (fun a22 ha22 wa22 => ?_)
                  refine callV_Pi C hO (fun _ _ _ => rfl) (c_X9_isWord_f l D G tp a22 3 w_pot T b gtp ha22 (Wc.of wa22 kw_pot)) kV_X4_61 gtp (⟨trivial, ts0⟩) dX4_presentTruth_66 hl.1 rfl rfl (by decide) cd_X9_isWord ⟨Nat.le_of_ble_eq_true rfl, Nat.le_of_ble_eq_true rfl, Nat.le_of_ble_eq_true rfl, Nat.le_of_ble_eq_true rfl, Nat.le_of_ble_eq_true rfl⟩ (fun v23 q23 => ?_)
                  obtain ⟨q23, fq23⟩ := q23
                  rcases fq23 with ⟨z23, y23⟩ | ⟨z23, y23⟩
                  · skip
                    refine lv_if_eq (tgt := 77) hx hb dX4_presentTruth_69 (by decide) (fun c24 => ?_) (fun c24 => ?_)
                    · have b24 : v23.toInt = (0 : Int32).toInt := i_eq.mp c24
                      exact absurd b24 (by omega)
                    · have b24 : ¬ v23.toInt = (0 : Int32).toInt := fun z9 => c24 (i_eq.mpr z9)
                      refine lv_bipush (v := -6) hx hb dX4_presentTruth_72 (by decide) ?_
                      refine lv_goto (tgt := 78) hx hb dX4_presentTruth_74 (by decide) ?_
                      have k_m6 : (-6 : Int32).toInt = -6 := by decide
                      exact retP_i hQ C hr dX4_presentTruth_78 (⟨by omega, by rw [show tru T b = -6 by simp [tru, y3, y8, y13, y18, y23]]; omega⟩)
                  · skip
                    refine lv_if_eq (tgt := 77) hx hb dX4_presentTruth_69 (by decide) (fun c25 => ?_) (fun c25 => ?_)
                    · have b25 : v23.toInt = (0 : Int32).toInt := i_eq.mp c25
                      refine lv_iconst (v := -1) hx hb dX4_presentTruth_77 (by decide) ?_
                      have k_m1 : (-1 : Int32).toInt = -1 := by decide
                      exact retP_i hQ C hr dX4_presentTruth_78 (⟨by omega, by rw [show tru T b = -1 by simp [tru, y3, y8, y13, y18, y23]]; omega⟩)
                    · have b25 : ¬ v23.toInt = (0 : Int32).toInt := fun z9 => c25 (i_eq.mpr z9)
                      exact absurd b25 (by omega)
                · have b20 : ¬ v18.toInt = (0 : Int32).toInt := fun z9 => c20 (i_eq.mpr z9)
                  exact absurd b20 (by omega)
            · have b15 : ¬ v13.toInt = (0 : Int32).toInt := fun z9 => c15 (i_eq.mpr z9)
              exact absurd b15 (by omega)
        · have b10 : ¬ v8.toInt = (0 : Int32).toInt := fun z9 => c10 (i_eq.mpr z9)
          exact absurd b10 (by omega)
    · have b5 : ¬ v3.toInt = (0 : Int32).toInt := fun z9 => c5 (i_eq.mpr z9)
      exact absurd b5 (by omega)

set_option maxRecDepth 100000 in
set_option maxHeartbeats 4000000 in
theorem c_X4_readSum (l : Launch) (D : DD) (G : Nat → Nat) (a0 : Nat) (tp : Nat) (T : Tx) (b : Nat) (ga0 : G a0 = 21) : CE l D G yX4_readSum cX4_readSum 2 (some .boolean) 5 [.ref a0] (fun H => (True) ∧ (fR D H 4 a0 0 = tp ∧ TS D H tp T b)) [(2, 3), (2, 4), (2, 5), (2, 6), (2, 2), (22, 0), (21, 3)] (xI (fun H r H1 => ((0 ≤ r.toInt ∧ r.toInt ≤ 1) ∧ (Lw D H H1 a0)) ∧ (Rs D H1 tp T (sumF T b) r))) := by
  refine enter (by decide) (Nat.le_of_ble_eq_true rfl) ?_
  intro p e s m args below meth c ls Q hA hQ C hr hO hpre hl
  have hx := C.1
  have hb := C.2.1
  have S : Sd D G [(2, 3), (2, 4), (2, 5), (2, 6), (2, 2), (22, 0), (21, 3)] s.heap s.heap [] := Sd.start hO
  have hl : lv_has ls 2 [(0, .ref a0)] := hl
  obtain ⟨hpre, hf⟩ := hpre
  obtain ⟨htp, ts0⟩ := hf
  have gtp : G tp = 2 := by rw [← htp]; exact hO.rol ga0 rfl (by decide) rfl
  have hT : T.2 ≤ 400 := ts0.le hO gtp
  have tk0 : Lw D s.heap s.heap a0 := Lw.refl
  refine lv_iconst (v := 0) hx hb dX4_readSum_0 (by decide) ?_
  refine lv_istore_n (lv' := [(1, .int (0 : Int32)), (0, .ref a0)]) hx hb dX4_readSum_1 rfl hl (by decide) rfl (fun ls hl => ?_)
  have Lp2 : ∀ (n : Nat) (x1_2 : Int32) (b_2 : Nat) (H_2 : Heap) (L_2 : List Loc) (ls : Array Slot), (Sd D G [(2, 3), (2, 4), (2, 5), (2, 6), (2, 2), (22, 0), (21, 3)] s.heap H_2 L_2) → (0 ≤ x1_2.toInt ∧ x1_2.toInt ≤ 400) → (TS D H_2 tp T b_2) → (sumF T b = sumR T (400 - x1_2.toInt.toNat) b_2) → (Lw D s.heap H_2 a0) → 401 - x1_2.toInt ≤ (n : Int) → lv_has ls 2 [(1, .int x1_2), (0, .ref a0)] → W p l e (rmU 5 0 0) s m args below meth c H_2 L_2 0 0 Q (F0 m 2 ls []) := by
    intro n
    induction n with
    | zero =>
      intro x1_2 b_2 H_2 L_2 ls S_2 j2_0 u2_0 u2_1 u2_2 hn hl
      exact absurd hn (by omega)
    | succ n ih2 =>
      intro x1_2 b_2 H_2 L_2 ls S_2 j2_0 u2_0 u2_1 u2_2 hn hl
      refine lv_iload_n hx hb dX4_readSum_2 rfl (lv_at hl 0 rfl) ?_
      refine lv_sipush (v := 400) hx hb dX4_readSum_3 (by decide) ?_
      have k_400 : (400 : Int32).toInt = 400 := by decide
      refine lv_icmp_ge (tgt := 225) hx hb dX4_readSum_6 (by decide) (fun c1 => ?_) (fun c1 => ?_)
      · have b1 : (400 : Int32).toInt ≤ x1_2.toInt := i_le.mp c1
        refine lv_aload_n hx hb dX4_readSum_225 rfl (lv_at hl 1 rfl) ?_
        refine q_grS (T := TX4) C S_2.1 ga0 0 kF_X4_39 dX4_readSum_226 rfl rfl (by decide) rfl (by decide) kSF_X4_tape (fun g2 => ?_)
        rw [show fR D H_2 4 a0 0 = tp from (S_2.2.1.fR ga0 rfl (by decide) (by decide +kernel)).trans htp]
        refine callV_Ei C S_2 (c_X9_refuse_f l D G tp T b_2 gtp) kV_X4_43 gtp (⟨trivial, u2_0⟩) (by decide +kernel) dX4_readSum_229 hl.1 rfl rfl (by decide) cd_X9_refuse ⟨Nat.le_of_ble_eq_true rfl, Nat.le_of_ble_eq_true rfl, Nat.le_of_ble_eq_true rfl, Nat.le_of_ble_eq_true rfl, Nat.le_of_ble_eq_true rfl⟩ (fun v3 H3 L3 S3 K3 q3 => ?_)
        obtain ⟨q3, fq3⟩ := q3
        have tk3 : Lw D s.heap H3 a0 := u2_2.trans (Lw.keep S_2.1 ga0 K3 (by decide +kernel) (by decide +kernel) (by decide +kernel))
        have z3 := fq3.1
        exact retE_z hQ C S3 hr dX4_readSum_232 (z01 (by omega) (by omega)) (⟨⟨by omega, tk3⟩, Rs.no (by rw [u2_1, show 400 - x1_2.toInt.toNat = 0 by omega]; rfl) (by omega) fq3.2⟩)
      · have b1 : ¬ (400 : Int32).toInt ≤ x1_2.toInt := fun z9 => c1 (i_le.mpr z9)
        refine lv_aload_n hx hb dX4_readSum_9 rfl (lv_at hl 1 rfl) ?_
        refine q_grS (T := TX4) C S_2.1 ga0 0 kF_X4_39 dX4_readSum_10 rfl rfl (by decide) rfl (by decide) kSF_X4_tape (fun g4 => ?_)
        rw [show fR D H_2 4 a0 0 = tp from (S_2.2.1.fR ga0 rfl (by decide) (by decide +kernel)).trans htp]
        refine q_gi (T := TX9) C S_2.1 gtp 3 kF_X4_110 dX4_readSum_13 rfl rfl (by decide) rfl (by decide) rfl ?_
        refine lv_iconst (v := 2) hx hb dX4_readSum_16 (by decide) ?_
        have k_2 : (2 : Int32).toInt = 2 := by decide
        refine lv_icmp_ne (tgt := 47) hx hb dX4_readSum_17 (by decide) (fun c5 => ?_) (fun c5 => ?_)
        · have b5 : ¬ (fI D H_2 9 tp 3).toInt = (2 : Int32).toInt := fun z9 => c5 (i_eq.mpr z9)
          have hn6 : ¬ (kd T b_2 = 2 ∧ nv T b_2 ≤ 999) := by intro z7; have z9 := u2_0.2.1; have z8 := u2_0.2.2.2.1 z7.1; omega
          refine lv_aload_n hx hb dX4_readSum_47 rfl (lv_at hl 1 rfl) ?_
          refine q_grS (T := TX4) C S_2.1 ga0 0 kF_X4_39 dX4_readSum_48 rfl rfl (by decide) rfl (by decide) kSF_X4_tape (fun g7 => ?_)
          rw [show fR D H_2 4 a0 0 = tp from (S_2.2.1.fR ga0 rfl (by decide) (by decide +kernel)).trans htp]
          refine q_lds C ks_X4_116 dX4_readSum_51 (fun a8 ha8 wa8 => ?_)
          refine callV_Pi C S_2.1 S_2.2.1.2.1 (c_X9_isWord_f l D G tp a8 5 w_house T b_2 gtp ha8 (Wc.of wa8 kw_house)) kV_X4_61 gtp (⟨trivial, u2_0⟩) dX4_readSum_53 hl.1 rfl rfl (by decide) cd_X9_isWord ⟨Nat.le_of_ble_eq_true rfl, Nat.le_of_ble_eq_true rfl, Nat.le_of_ble_eq_true rfl, Nat.le_of_ble_eq_true rfl, Nat.le_of_ble_eq_true rfl⟩ (fun v9 q9 => ?_)
          obtain ⟨q9, fq9⟩ := q9
          rcases fq9 with ⟨z9, y9⟩ | ⟨z9, y9⟩
          · skip
            have k_0 : (0 : Int32).toInt = 0 := by decide
            refine lv_if_eq (tgt := 68) hx hb dX4_readSum_56 (by decide) (fun c10 => ?_) (fun c10 => ?_)
            · have b10 : v9.toInt = (0 : Int32).toInt := i_eq.mp c10
              exact absurd b10 (by omega)
            · have b10 : ¬ v9.toInt = (0 : Int32).toInt := fun z9 => c10 (i_eq.mpr z9)
              refine lv_aload_n hx hb dX4_readSum_59 rfl (lv_at hl 1 rfl) ?_
              refine lv_bipush (v := -7) hx hb dX4_readSum_60 (by decide) ?_
              have k_m7 : (-7 : Int32).toInt = -7 := by decide
              refine callV_Ev C S_2 (c_X4_put l D G a0 (-7 : Int32) ga0) kV_X4_55 ga0 (trivial) (by decide +kernel) dX4_readSum_62 hl.1 rfl rfl (by decide) cd_X4_put ⟨Nat.le_of_ble_eq_true rfl, Nat.le_of_ble_eq_true rfl, Nat.le_of_ble_eq_true rfl, Nat.le_of_ble_eq_true rfl, Nat.le_of_ble_eq_true rfl⟩ (fun H11 L11 S11 K11 q11 => ?_)
              obtain ⟨qa11, qb11, tq11⟩ := q11
              have tk11 : Lw D s.heap H11 a0 := u2_2.trans tq11
              have ts11 := u2_0.keep S_2.1 gtp K11 (by decide +kernel)
              refine lv_goto (tgt := 181) hx hb dX4_readSum_65 (by decide) ?_
              have hp12 : prt T b_2 = true := by simp [prt, hn6, y9]
              refine lv_aload_n hx hb dX4_readSum_181 rfl (lv_at hl 1 rfl) ?_
              refine q_grS (T := TX4) C S11.1 ga0 0 kF_X4_39 dX4_readSum_182 rfl rfl (by decide) rfl (by decide) kSF_X4_tape (fun g13 => ?_)
              rw [show fR D H11 4 a0 0 = tp from (S11.2.1.fR ga0 rfl (by decide) (by decide +kernel)).trans htp]
              refine callV_Ev C S11 (c_X9_next_f l D G tp T b_2 gtp) kV_X4_47 gtp (⟨trivial, ts11⟩) (by decide +kernel) dX4_readSum_185 hl.1 rfl rfl (by decide) cd_X9_next ⟨Nat.le_of_ble_eq_true rfl, Nat.le_of_ble_eq_true rfl, Nat.le_of_ble_eq_true rfl, Nat.le_of_ble_eq_true rfl, Nat.le_of_ble_eq_true rfl⟩ (fun H14 L14 S14 K14 q14 => ?_)
              obtain ⟨q14, fq14⟩ := q14
              have tk14 : Lw D s.heap H14 a0 := tk11.trans (Lw.keep S11.1 ga0 K14 (by decide +kernel) (by decide +kernel) (by decide +kernel))
              refine lv_iload_n hx hb dX4_readSum_188 rfl (lv_at hl 0 rfl) ?_
              refine lv_if_le (tgt := 198) hx hb dX4_readSum_189 (by decide) (fun c15 => ?_) (fun c15 => ?_)
              · have b15 : x1_2.toInt ≤ (0 : Int32).toInt := i_le.mp c15
                refine lv_aload_n hx hb dX4_readSum_198 rfl (lv_at hl 1 rfl) ?_
                refine q_grS (T := TX4) C S14.1 ga0 0 kF_X4_39 dX4_readSum_199 rfl rfl (by decide) rfl (by decide) kSF_X4_tape (fun g16 => ?_)
                rw [show fR D H14 4 a0 0 = tp from (S14.2.1.fR ga0 rfl (by decide) (by decide +kernel)).trans htp]
                refine lv_bipush (v := 43) hx hb dX4_readSum_202 (by decide) ?_
                have k_43 : (43 : Int32).toInt = 43 := by decide
                refine callV_Pi C S14.1 S14.2.1.2.1 (c_X9_isSign_f l D G tp (43 : Int32) 43 T (nx T b_2) gtp (by omega) (by decide)) kV_X4_84 gtp (⟨trivial, fq14⟩) dX4_readSum_204 hl.1 rfl rfl (by decide) cd_X9_isSign ⟨Nat.le_of_ble_eq_true rfl, Nat.le_of_ble_eq_true rfl, Nat.le_of_ble_eq_true rfl, Nat.le_of_ble_eq_true rfl, Nat.le_of_ble_eq_true rfl⟩ (fun v17 q17 => ?_)
                obtain ⟨q17, fq17⟩ := q17
                rcases fq17 with ⟨z17, y17⟩ | ⟨z17, y17⟩
                · skip
                  refine lv_if_ne (tgt := 212) hx hb dX4_readSum_207 (by decide) (fun c18 => ?_) (fun c18 => ?_)
                  · have b18 : ¬ v17.toInt = (0 : Int32).toInt := fun z9 => c18 (i_eq.mpr z9)
                    refine lv_aload_n hx hb dX4_readSum_212 rfl (lv_at hl 1 rfl) ?_
                    refine q_grS (T := TX4) C S14.1 ga0 0 kF_X4_39 dX4_readSum_213 rfl rfl (by decide) rfl (by decide) kSF_X4_tape (fun g19 => ?_)
                    rw [show fR D H14 4 a0 0 = tp from (S14.2.1.fR ga0 rfl (by decide) (by decide +kernel)).trans htp]
                    refine callV_Ev C S14 (c_X9_next_f l D G tp T (nx T b_2) gtp) kV_X4_47 gtp (⟨trivial, fq14⟩) (by decide +kernel) dX4_readSum_216 hl.1 rfl rfl (by decide) cd_X9_next ⟨Nat.le_of_ble_eq_true rfl, Nat.le_of_ble_eq_true rfl, Nat.le_of_ble_eq_true rfl, Nat.le_of_ble_eq_true rfl, Nat.le_of_ble_eq_true rfl⟩ (fun H20 L20 S20 K20 q20 => ?_)
                    obtain ⟨q20, fq20⟩ := q20
                    have tk20 : Lw D s.heap H20 a0 := tk14.trans (Lw.keep S14.1 ga0 K20 (by decide +kernel) (by decide +kernel) (by decide +kernel))
                    obtain ⟨v21, ev21⟩ : ∃ y : Int32, y = x1_2 + (1) := ⟨_, rfl⟩
                    have k_1 : (1 : Int32).toInt = 1 := by decide
                    have f22 : v21.toInt = x1_2.toInt + (1) := by rw [ev21]; exact i_addc k_1 (by omega) (by omega)
                    refine lv_iinc (v := v21) (lv' := [(1, .int v21), (0, .ref a0)]) hx hb dX4_readSum_219 hl (k := 0) rfl (by rw [ev21]; rfl) (by decide) rfl (fun ls hl => ?_)
                    refine lv_goto (tgt := 2) hx hb dX4_readSum_222 (by decide) ?_
                    exact ih2 v21 (nx T (nx T b_2)) H20 L20 ls S20 (by omega) fq20 (by rw [u2_1]; exact sumR_st (by omega) hp12 y17) tk20 (by omega) (lv_sub hl [0, 1] rfl)
                  · have b18 : v17.toInt = (0 : Int32).toInt := i_eq.mp c18
                    exact absurd b18 (by omega)
                · skip
                  refine lv_if_ne (tgt := 212) hx hb dX4_readSum_207 (by decide) (fun c23 => ?_) (fun c23 => ?_)
                  · have b23 : ¬ v17.toInt = (0 : Int32).toInt := fun z9 => c23 (i_eq.mpr z9)
                    exact absurd b23 (by omega)
                  · have b23 : v17.toInt = (0 : Int32).toInt := i_eq.mp c23
                    refine lv_iconst (v := 1) hx hb dX4_readSum_210 (by decide) ?_
                    have k_1 : (1 : Int32).toInt = 1 := by decide
                    exact retE_z hQ C S14 hr dX4_readSum_211 (z01 (by omega) (by omega)) (⟨⟨by omega, tk14⟩, Rs.ok (by rw [u2_1]; exact sumR_ok (by omega) hp12 y17) (by omega) fq14⟩)
              · have b15 : ¬ x1_2.toInt ≤ (0 : Int32).toInt := fun z9 => c15 (i_le.mpr z9)
                refine lv_aload_n hx hb dX4_readSum_192 rfl (lv_at hl 1 rfl) ?_
                refine lv_bipush (v := -14) hx hb dX4_readSum_193 (by decide) ?_
                have k_m14 : (-14 : Int32).toInt = -14 := by decide
                refine callV_Ev C S14 (c_X4_put l D G a0 (-14 : Int32) ga0) kV_X4_55 ga0 (trivial) (by decide +kernel) dX4_readSum_195 hl.1 rfl rfl (by decide) cd_X4_put ⟨Nat.le_of_ble_eq_true rfl, Nat.le_of_ble_eq_true rfl, Nat.le_of_ble_eq_true rfl, Nat.le_of_ble_eq_true rfl, Nat.le_of_ble_eq_true rfl⟩ (fun H24 L24 S24 K24 q24 => ?_)
                obtain ⟨qa24, qb24, tq24⟩ := q24
                have tk24 : Lw D s.heap H24 a0 := tk14.trans tq24
                have ts24 := fq14.keep S14.1 gtp K24 (by decide +kernel)
                refine lv_aload_n hx hb dX4_readSum_198 rfl (lv_at hl 1 rfl) ?_
                refine q_grS (T := TX4) C S24.1 ga0 0 kF_X4_39 dX4_readSum_199 rfl rfl (by decide) rfl (by decide) kSF_X4_tape (fun g25 => ?_)
                rw [show fR D H24 4 a0 0 = tp from (S24.2.1.fR ga0 rfl (by decide) (by decide +kernel)).trans htp]
                refine lv_bipush (v := 43) hx hb dX4_readSum_202 (by decide) ?_
                have k_43 : (43 : Int32).toInt = 43 := by decide
                refine callV_Pi C S24.1 S24.2.1.2.1 (c_X9_isSign_f l D G tp (43 : Int32) 43 T (nx T b_2) gtp (by omega) (by decide)) kV_X4_84 gtp (⟨trivial, ts24⟩) dX4_readSum_204 hl.1 rfl rfl (by decide) cd_X9_isSign ⟨Nat.le_of_ble_eq_true rfl, Nat.le_of_ble_eq_true rfl, Nat.le_of_ble_eq_true rfl, Nat.le_of_ble_eq_true rfl, Nat.le_of_ble_eq_true rfl⟩ (fun v26 q26 => ?_)
                obtain ⟨q26, fq26⟩ := q26
                rcases fq26 with ⟨z26, y26⟩ | ⟨z26, y26⟩
                · skip
                  refine lv_if_ne (tgt := 212) hx hb dX4_readSum_207 (by decide) (fun c27 => ?_) (fun c27 => ?_)
                  · have b27 : ¬ v26.toInt = (0 : Int32).toInt := fun z9 => c27 (i_eq.mpr z9)
                    refine lv_aload_n hx hb dX4_readSum_212 rfl (lv_at hl 1 rfl) ?_
                    refine q_grS (T := TX4) C S24.1 ga0 0 kF_X4_39 dX4_readSum_213 rfl rfl (by decide) rfl (by decide) kSF_X4_tape (fun g28 => ?_)
                    rw [show fR D H24 4 a0 0 = tp from (S24.2.1.fR ga0 rfl (by decide) (by decide +kernel)).trans htp]
                    refine callV_Ev C S24 (c_X9_next_f l D G tp T (nx T b_2) gtp) kV_X4_47 gtp (⟨trivial, ts24⟩) (by decide +kernel) dX4_readSum_216 hl.1 rfl rfl (by decide) cd_X9_next ⟨Nat.le_of_ble_eq_true rfl, Nat.le_of_ble_eq_true rfl, Nat.le_of_ble_eq_true rfl, Nat.le_of_ble_eq_true rfl, Nat.le_of_ble_eq_true rfl⟩ (fun H29 L29 S29 K29 q29 => ?_)
                    obtain ⟨q29, fq29⟩ := q29
                    have tk29 : Lw D s.heap H29 a0 := tk24.trans (Lw.keep S24.1 ga0 K29 (by decide +kernel) (by decide +kernel) (by decide +kernel))
                    obtain ⟨v30, ev30⟩ : ∃ y : Int32, y = x1_2 + (1) := ⟨_, rfl⟩
                    have k_1 : (1 : Int32).toInt = 1 := by decide
                    have f31 : v30.toInt = x1_2.toInt + (1) := by rw [ev30]; exact i_addc k_1 (by omega) (by omega)
                    refine lv_iinc (v := v30) (lv' := [(1, .int v30), (0, .ref a0)]) hx hb dX4_readSum_219 hl (k := 0) rfl (by rw [ev30]; rfl) (by decide) rfl (fun ls hl => ?_)
                    refine lv_goto (tgt := 2) hx hb dX4_readSum_222 (by decide) ?_
                    exact ih2 v30 (nx T (nx T b_2)) H29 L29 ls S29 (by omega) fq29 (by rw [u2_1]; exact sumR_st (by omega) hp12 y26) tk29 (by omega) (lv_sub hl [0, 1] rfl)
                  · have b27 : v26.toInt = (0 : Int32).toInt := i_eq.mp c27
                    exact absurd b27 (by omega)
                · skip
                  refine lv_if_ne (tgt := 212) hx hb dX4_readSum_207 (by decide) (fun c32 => ?_) (fun c32 => ?_)
                  · have b32 : ¬ v26.toInt = (0 : Int32).toInt := fun z9 => c32 (i_eq.mpr z9)
                    exact absurd b32 (by omega)
                  · have b32 : v26.toInt = (0 : Int32).toInt := i_eq.mp c32
                    refine lv_iconst (v := 1) hx hb dX4_readSum_210 (by decide) ?_
                    have k_1 : (1 : Int32).toInt = 1 := by decide
                    exact retE_z hQ C S24 hr dX4_readSum_211 (z01 (by omega) (by omega)) (⟨⟨by omega, tk24⟩, Rs.ok (by rw [u2_1]; exact sumR_ok (by omega) hp12 y26) (by omega) ts24⟩)
          · skip
            have k_0 : (0 : Int32).toInt = 0 := by decide
            refine lv_if_eq (tgt := 68) hx hb dX4_readSum_56 (by decide) (fun c33 => ?_) (fun c33 => ?_)
            · have b33 : v9.toInt = (0 : Int32).toInt := i_eq.mp c33
              refine lv_aload_n hx hb dX4_readSum_68 rfl (lv_at hl 1 rfl) ?_
              refine q_grS (T := TX4) C S_2.1 ga0 0 kF_X4_39 dX4_readSum_69 rfl rfl (by decide) rfl (by decide) kSF_X4_tape (fun g34 => ?_)
              rw [show fR D H_2 4 a0 0 = tp from (S_2.2.1.fR ga0 rfl (by decide) (by decide +kernel)).trans htp]
              refine q_lds C ks_X4_118 dX4_readSum_72 (fun a35 ha35 wa35 => ?_)
              refine callV_Pi C S_2.1 S_2.2.1.2.1 (c_X9_isWord_f l D G tp a35 4 w_flue T b_2 gtp ha35 (Wc.of wa35 kw_flue)) kV_X4_61 gtp (⟨trivial, u2_0⟩) dX4_readSum_74 hl.1 rfl rfl (by decide) cd_X9_isWord ⟨Nat.le_of_ble_eq_true rfl, Nat.le_of_ble_eq_true rfl, Nat.le_of_ble_eq_true rfl, Nat.le_of_ble_eq_true rfl, Nat.le_of_ble_eq_true rfl⟩ (fun v36 q36 => ?_)
              obtain ⟨q36, fq36⟩ := q36
              rcases fq36 with ⟨z36, y36⟩ | ⟨z36, y36⟩
              · skip
                refine lv_if_eq (tgt := 89) hx hb dX4_readSum_77 (by decide) (fun c37 => ?_) (fun c37 => ?_)
                · have b37 : v36.toInt = (0 : Int32).toInt := i_eq.mp c37
                  exact absurd b37 (by omega)
                · have b37 : ¬ v36.toInt = (0 : Int32).toInt := fun z9 => c37 (i_eq.mpr z9)
                  refine lv_aload_n hx hb dX4_readSum_80 rfl (lv_at hl 1 rfl) ?_
                  refine lv_bipush (v := -8) hx hb dX4_readSum_81 (by decide) ?_
                  have k_m8 : (-8 : Int32).toInt = -8 := by decide
                  refine callV_Ev C S_2 (c_X4_put l D G a0 (-8 : Int32) ga0) kV_X4_55 ga0 (trivial) (by decide +kernel) dX4_readSum_83 hl.1 rfl rfl (by decide) cd_X4_put ⟨Nat.le_of_ble_eq_true rfl, Nat.le_of_ble_eq_true rfl, Nat.le_of_ble_eq_true rfl, Nat.le_of_ble_eq_true rfl, Nat.le_of_ble_eq_true rfl⟩ (fun H38 L38 S38 K38 q38 => ?_)
                  obtain ⟨qa38, qb38, tq38⟩ := q38
                  have tk38 : Lw D s.heap H38 a0 := u2_2.trans tq38
                  have ts38 := u2_0.keep S_2.1 gtp K38 (by decide +kernel)
                  refine lv_goto (tgt := 181) hx hb dX4_readSum_86 (by decide) ?_
                  have hp39 : prt T b_2 = true := by simp [prt, hn6, y9, y36]
                  refine lv_aload_n hx hb dX4_readSum_181 rfl (lv_at hl 1 rfl) ?_
                  refine q_grS (T := TX4) C S38.1 ga0 0 kF_X4_39 dX4_readSum_182 rfl rfl (by decide) rfl (by decide) kSF_X4_tape (fun g40 => ?_)
                  rw [show fR D H38 4 a0 0 = tp from (S38.2.1.fR ga0 rfl (by decide) (by decide +kernel)).trans htp]
                  refine callV_Ev C S38 (c_X9_next_f l D G tp T b_2 gtp) kV_X4_47 gtp (⟨trivial, ts38⟩) (by decide +kernel) dX4_readSum_185 hl.1 rfl rfl (by decide) cd_X9_next ⟨Nat.le_of_ble_eq_true rfl, Nat.le_of_ble_eq_true rfl, Nat.le_of_ble_eq_true rfl, Nat.le_of_ble_eq_true rfl, Nat.le_of_ble_eq_true rfl⟩ (fun H41 L41 S41 K41 q41 => ?_)
                  obtain ⟨q41, fq41⟩ := q41
                  have tk41 : Lw D s.heap H41 a0 := tk38.trans (Lw.keep S38.1 ga0 K41 (by decide +kernel) (by decide +kernel) (by decide +kernel))
                  refine lv_iload_n hx hb dX4_readSum_188 rfl (lv_at hl 0 rfl) ?_
                  refine lv_if_le (tgt := 198) hx hb dX4_readSum_189 (by decide) (fun c42 => ?_) (fun c42 => ?_)
                  · have b42 : x1_2.toInt ≤ (0 : Int32).toInt := i_le.mp c42
                    refine lv_aload_n hx hb dX4_readSum_198 rfl (lv_at hl 1 rfl) ?_
                    refine q_grS (T := TX4) C S41.1 ga0 0 kF_X4_39 dX4_readSum_199 rfl rfl (by decide) rfl (by decide) kSF_X4_tape (fun g43 => ?_)
                    rw [show fR D H41 4 a0 0 = tp from (S41.2.1.fR ga0 rfl (by decide) (by decide +kernel)).trans htp]
                    refine lv_bipush (v := 43) hx hb dX4_readSum_202 (by decide) ?_
                    have k_43 : (43 : Int32).toInt = 43 := by decide
                    refine callV_Pi C S41.1 S41.2.1.2.1 (c_X9_isSign_f l D G tp (43 : Int32) 43 T (nx T b_2) gtp (by omega) (by decide)) kV_X4_84 gtp (⟨trivial, fq41⟩) dX4_readSum_204 hl.1 rfl rfl (by decide) cd_X9_isSign ⟨Nat.le_of_ble_eq_true rfl, Nat.le_of_ble_eq_true rfl, Nat.le_of_ble_eq_true rfl, Nat.le_of_ble_eq_true rfl, Nat.le_of_ble_eq_true rfl⟩ (fun v44 q44 => ?_)
                    obtain ⟨q44, fq44⟩ := q44
                    rcases fq44 with ⟨z44, y44⟩ | ⟨z44, y44⟩
                    · skip
                      refine lv_if_ne (tgt := 212) hx hb dX4_readSum_207 (by decide) (fun c45 => ?_) (fun c45 => ?_)
                      · have b45 : ¬ v44.toInt = (0 : Int32).toInt := fun z9 => c45 (i_eq.mpr z9)
                        refine lv_aload_n hx hb dX4_readSum_212 rfl (lv_at hl 1 rfl) ?_
                        refine q_grS (T := TX4) C S41.1 ga0 0 kF_X4_39 dX4_readSum_213 rfl rfl (by decide) rfl (by decide) kSF_X4_tape (fun g46 => ?_)
                        rw [show fR D H41 4 a0 0 = tp from (S41.2.1.fR ga0 rfl (by decide) (by decide +kernel)).trans htp]
                        refine callV_Ev C S41 (c_X9_next_f l D G tp T (nx T b_2) gtp) kV_X4_47 gtp (⟨trivial, fq41⟩) (by decide +kernel) dX4_readSum_216 hl.1 rfl rfl (by decide) cd_X9_next ⟨Nat.le_of_ble_eq_true rfl, Nat.le_of_ble_eq_true rfl, Nat.le_of_ble_eq_true rfl, Nat.le_of_ble_eq_true rfl, Nat.le_of_ble_eq_true rfl⟩ (fun H47 L47 S47 K47 q47 => ?_)
                        obtain ⟨q47, fq47⟩ := q47
                        have tk47 : Lw D s.heap H47 a0 := tk41.trans (Lw.keep S41.1 ga0 K47 (by decide +kernel) (by decide +kernel) (by decide +kernel))
                        obtain ⟨v48, ev48⟩ : ∃ y : Int32, y = x1_2 + (1) := ⟨_, rfl⟩
                        have k_1 : (1 : Int32).toInt = 1 := by decide
                        have f49 : v48.toInt = x1_2.toInt + (1) := by rw [ev48]; exact i_addc k_1 (by omega) (by omega)
                        refine lv_iinc (v := v48) (lv' := [(1, .int v48), (0, .ref a0)]) hx hb dX4_readSum_219 hl (k := 0) rfl (by rw [ev48]; rfl) (by decide) rfl (fun ls hl => ?_)
                        refine lv_goto (tgt := 2) hx hb dX4_readSum_222 (by decide) ?_
                        exact ih2 v48 (nx T (nx T b_2)) H47 L47 ls S47 (by omega) fq47 (by rw [u2_1]; exact sumR_st (by omega) hp39 y44) tk47 (by omega) (lv_sub hl [0, 1] rfl)
                      · have b45 : v44.toInt = (0 : Int32).toInt := i_eq.mp c45
                        exact absurd b45 (by omega)
                    · skip
                      refine lv_if_ne (tgt := 212) hx hb dX4_readSum_207 (by decide) (fun c50 => ?_) (fun c50 => ?_)
                      · have b50 : ¬ v44.toInt = (0 : Int32).toInt := fun z9 => c50 (i_eq.mpr z9)
                        exact absurd b50 (by omega)
                      · have b50 : v44.toInt = (0 : Int32).toInt := i_eq.mp c50
                        refine lv_iconst (v := 1) hx hb dX4_readSum_210 (by decide) ?_
                        have k_1 : (1 : Int32).toInt = 1 := by decide
                        exact retE_z hQ C S41 hr dX4_readSum_211 (z01 (by omega) (by omega)) (⟨⟨by omega, tk41⟩, Rs.ok (by rw [u2_1]; exact sumR_ok (by omega) hp39 y44) (by omega) fq41⟩)
                  · have b42 : ¬ x1_2.toInt ≤ (0 : Int32).toInt := fun z9 => c42 (i_le.mpr z9)
                    refine lv_aload_n hx hb dX4_readSum_192 rfl (lv_at hl 1 rfl) ?_
                    refine lv_bipush (v := -14) hx hb dX4_readSum_193 (by decide) ?_
                    have k_m14 : (-14 : Int32).toInt = -14 := by decide
                    refine callV_Ev C S41 (c_X4_put l D G a0 (-14 : Int32) ga0) kV_X4_55 ga0 (trivial) (by decide +kernel) dX4_readSum_195 hl.1 rfl rfl (by decide) cd_X4_put ⟨Nat.le_of_ble_eq_true rfl, Nat.le_of_ble_eq_true rfl, Nat.le_of_ble_eq_true rfl, Nat.le_of_ble_eq_true rfl, Nat.le_of_ble_eq_true rfl⟩ (fun H51 L51 S51 K51 q51 => ?_)
                    obtain ⟨qa51, qb51, tq51⟩ := q51
                    have tk51 : Lw D s.heap H51 a0 := tk41.trans tq51
                    have ts51 := fq41.keep S41.1 gtp K51 (by decide +kernel)
                    refine lv_aload_n hx hb dX4_readSum_198 rfl (lv_at hl 1 rfl) ?_
                    refine q_grS (T := TX4) C S51.1 ga0 0 kF_X4_39 dX4_readSum_199 rfl rfl (by decide) rfl (by decide) kSF_X4_tape (fun g52 => ?_)
                    rw [show fR D H51 4 a0 0 = tp from (S51.2.1.fR ga0 rfl (by decide) (by decide +kernel)).trans htp]
                    refine lv_bipush (v := 43) hx hb dX4_readSum_202 (by decide) ?_
                    have k_43 : (43 : Int32).toInt = 43 := by decide
                    refine callV_Pi C S51.1 S51.2.1.2.1 (c_X9_isSign_f l D G tp (43 : Int32) 43 T (nx T b_2) gtp (by omega) (by decide)) kV_X4_84 gtp (⟨trivial, ts51⟩) dX4_readSum_204 hl.1 rfl rfl (by decide) cd_X9_isSign ⟨Nat.le_of_ble_eq_true rfl, Nat.le_of_ble_eq_true rfl, Nat.le_of_ble_eq_true rfl, Nat.le_of_ble_eq_true rfl, Nat.le_of_ble_eq_true rfl⟩ (fun v53 q53 => ?_)
                    obtain ⟨q53, fq53⟩ := q53
                    rcases fq53 with ⟨z53, y53⟩ | ⟨z53, y53⟩
                    · skip
                      refine lv_if_ne (tgt := 212) hx hb dX4_readSum_207 (by decide) (fun c54 => ?_) (fun c54 => ?_)
                      · have b54 : ¬ v53.toInt = (0 : Int32).toInt := fun z9 => c54 (i_eq.mpr z9)
                        refine lv_aload_n hx hb dX4_readSum_212 rfl (lv_at hl 1 rfl) ?_
                        refine q_grS (T := TX4) C S51.1 ga0 0 kF_X4_39 dX4_readSum_213 rfl rfl (by decide) rfl (by decide) kSF_X4_tape (fun g55 => ?_)
                        rw [show fR D H51 4 a0 0 = tp from (S51.2.1.fR ga0 rfl (by decide) (by decide +kernel)).trans htp]
                        refine callV_Ev C S51 (c_X9_next_f l D G tp T (nx T b_2) gtp) kV_X4_47 gtp (⟨trivial, ts51⟩) (by decide +kernel) dX4_readSum_216 hl.1 rfl rfl (by decide) cd_X9_next ⟨Nat.le_of_ble_eq_true rfl, Nat.le_of_ble_eq_true rfl, Nat.le_of_ble_eq_true rfl, Nat.le_of_ble_eq_true rfl, Nat.le_of_ble_eq_true rfl⟩ (fun H56 L56 S56 K56 q56 => ?_)
                        obtain ⟨q56, fq56⟩ := q56
                        have tk56 : Lw D s.heap H56 a0 := tk51.trans (Lw.keep S51.1 ga0 K56 (by decide +kernel) (by decide +kernel) (by decide +kernel))
                        obtain ⟨v57, ev57⟩ : ∃ y : Int32, y = x1_2 + (1) := ⟨_, rfl⟩
                        have k_1 : (1 : Int32).toInt = 1 := by decide
                        have f58 : v57.toInt = x1_2.toInt + (1) := by rw [ev57]; exact i_addc k_1 (by omega) (by omega)
                        refine lv_iinc (v := v57) (lv' := [(1, .int v57), (0, .ref a0)]) hx hb dX4_readSum_219 hl (k := 0) rfl (by rw [ev57]; rfl) (by decide) rfl (fun ls hl => ?_)
                        refine lv_goto (tgt := 2) hx hb dX4_readSum_222 (by decide) ?_
                        exact ih2 v57 (nx T (nx T b_2)) H56 L56 ls S56 (by omega) fq56 (by rw [u2_1]; exact sumR_st (by omega) hp39 y53) tk56 (by omega) (lv_sub hl [0, 1] rfl)
                      · have b54 : v53.toInt = (0 : Int32).toInt := i_eq.mp c54
                        exact absurd b54 (by omega)
                    · skip
                      refine lv_if_ne (tgt := 212) hx hb dX4_readSum_207 (by decide) (fun c59 => ?_) (fun c59 => ?_)
                      · have b59 : ¬ v53.toInt = (0 : Int32).toInt := fun z9 => c59 (i_eq.mpr z9)
                        exact absurd b59 (by omega)
                      · have b59 : v53.toInt = (0 : Int32).toInt := i_eq.mp c59
                        refine lv_iconst (v := 1) hx hb dX4_readSum_210 (by decide) ?_
                        have k_1 : (1 : Int32).toInt = 1 := by decide
                        exact retE_z hQ C S51 hr dX4_readSum_211 (z01 (by omega) (by omega)) (⟨⟨by omega, tk51⟩, Rs.ok (by rw [u2_1]; exact sumR_ok (by omega) hp39 y53) (by omega) ts51⟩)
              · skip
                refine lv_if_eq (tgt := 89) hx hb dX4_readSum_77 (by decide) (fun c60 => ?_) (fun c60 => ?_)
                · have b60 : v36.toInt = (0 : Int32).toInt := i_eq.mp c60
                  refine lv_aload_n hx hb dX4_readSum_89 rfl (lv_at hl 1 rfl) ?_
                  refine q_grS (T := TX4) C S_2.1 ga0 0 kF_X4_39 dX4_readSum_90 rfl rfl (by decide) rfl (by decide) kSF_X4_tape (fun g61 => ?_)
                  rw [show fR D H_2 4 a0 0 = tp from (S_2.2.1.fR ga0 rfl (by decide) (by decide +kernel)).trans htp]
                  refine q_lds C ks_X4_120 dX4_readSum_93 (fun a62 ha62 wa62 => ?_)
                  refine callV_Pi C S_2.1 S_2.2.1.2.1 (c_X9_isWord_f l D G tp a62 4 w_warm T b_2 gtp ha62 (Wc.of wa62 kw_warm)) kV_X4_61 gtp (⟨trivial, u2_0⟩) dX4_readSum_95 hl.1 rfl rfl (by decide) cd_X9_isWord ⟨Nat.le_of_ble_eq_true rfl, Nat.le_of_ble_eq_true rfl, Nat.le_of_ble_eq_true rfl, Nat.le_of_ble_eq_true rfl, Nat.le_of_ble_eq_true rfl⟩ (fun v63 q63 => ?_)
                  obtain ⟨q63, fq63⟩ := q63
                  rcases fq63 with ⟨z63, y63⟩ | ⟨z63, y63⟩
                  · skip
                    refine lv_if_eq (tgt := 110) hx hb dX4_readSum_98 (by decide) (fun c64 => ?_) (fun c64 => ?_)
                    · have b64 : v63.toInt = (0 : Int32).toInt := i_eq.mp c64
                      exact absurd b64 (by omega)
                    · have b64 : ¬ v63.toInt = (0 : Int32).toInt := fun z9 => c64 (i_eq.mpr z9)
                      refine lv_aload_n hx hb dX4_readSum_101 rfl (lv_at hl 1 rfl) ?_
                      refine lv_bipush (v := -9) hx hb dX4_readSum_102 (by decide) ?_
                      have k_m9 : (-9 : Int32).toInt = -9 := by decide
                      refine callV_Ev C S_2 (c_X4_put l D G a0 (-9 : Int32) ga0) kV_X4_55 ga0 (trivial) (by decide +kernel) dX4_readSum_104 hl.1 rfl rfl (by decide) cd_X4_put ⟨Nat.le_of_ble_eq_true rfl, Nat.le_of_ble_eq_true rfl, Nat.le_of_ble_eq_true rfl, Nat.le_of_ble_eq_true rfl, Nat.le_of_ble_eq_true rfl⟩ (fun H65 L65 S65 K65 q65 => ?_)
                      obtain ⟨qa65, qb65, tq65⟩ := q65
                      have tk65 : Lw D s.heap H65 a0 := u2_2.trans tq65
                      have ts65 := u2_0.keep S_2.1 gtp K65 (by decide +kernel)
                      refine lv_goto (tgt := 181) hx hb dX4_readSum_107 (by decide) ?_
                      have hp66 : prt T b_2 = true := by simp [prt, hn6, y9, y36, y63]
                      refine lv_aload_n hx hb dX4_readSum_181 rfl (lv_at hl 1 rfl) ?_
                      refine q_grS (T := TX4) C S65.1 ga0 0 kF_X4_39 dX4_readSum_182 rfl rfl (by decide) rfl (by decide) kSF_X4_tape (fun g67 => ?_)
                      rw [show fR D H65 4 a0 0 = tp from (S65.2.1.fR ga0 rfl (by decide) (by decide +kernel)).trans htp]
                      refine callV_Ev C S65 (c_X9_next_f l D G tp T b_2 gtp) kV_X4_47 gtp (⟨trivial, ts65⟩) (by decide +kernel) dX4_readSum_185 hl.1 rfl rfl (by decide) cd_X9_next ⟨Nat.le_of_ble_eq_true rfl, Nat.le_of_ble_eq_true rfl, Nat.le_of_ble_eq_true rfl, Nat.le_of_ble_eq_true rfl, Nat.le_of_ble_eq_true rfl⟩ (fun H68 L68 S68 K68 q68 => ?_)
                      obtain ⟨q68, fq68⟩ := q68
                      have tk68 : Lw D s.heap H68 a0 := tk65.trans (Lw.keep S65.1 ga0 K68 (by decide +kernel) (by decide +kernel) (by decide +kernel))
                      refine lv_iload_n hx hb dX4_readSum_188 rfl (lv_at hl 0 rfl) ?_
                      refine lv_if_le (tgt := 198) hx hb dX4_readSum_189 (by decide) (fun c69 => ?_) (fun c69 => ?_)
                      · have b69 : x1_2.toInt ≤ (0 : Int32).toInt := i_le.mp c69
                        refine lv_aload_n hx hb dX4_readSum_198 rfl (lv_at hl 1 rfl) ?_
                        refine q_grS (T := TX4) C S68.1 ga0 0 kF_X4_39 dX4_readSum_199 rfl rfl (by decide) rfl (by decide) kSF_X4_tape (fun g70 => ?_)
                        rw [show fR D H68 4 a0 0 = tp from (S68.2.1.fR ga0 rfl (by decide) (by decide +kernel)).trans htp]
                        refine lv_bipush (v := 43) hx hb dX4_readSum_202 (by decide) ?_
                        have k_43 : (43 : Int32).toInt = 43 := by decide
                        refine callV_Pi C S68.1 S68.2.1.2.1 (c_X9_isSign_f l D G tp (43 : Int32) 43 T (nx T b_2) gtp (by omega) (by decide)) kV_X4_84 gtp (⟨trivial, fq68⟩) dX4_readSum_204 hl.1 rfl rfl (by decide) cd_X9_isSign ⟨Nat.le_of_ble_eq_true rfl, Nat.le_of_ble_eq_true rfl, Nat.le_of_ble_eq_true rfl, Nat.le_of_ble_eq_true rfl, Nat.le_of_ble_eq_true rfl⟩ (fun v71 q71 => ?_)
                        obtain ⟨q71, fq71⟩ := q71
                        rcases fq71 with ⟨z71, y71⟩ | ⟨z71, y71⟩
                        · skip
                          refine lv_if_ne (tgt := 212) hx hb dX4_readSum_207 (by decide) (fun c72 => ?_) (fun c72 => ?_)
                          · have b72 : ¬ v71.toInt = (0 : Int32).toInt := fun z9 => c72 (i_eq.mpr z9)
                            refine lv_aload_n hx hb dX4_readSum_212 rfl (lv_at hl 1 rfl) ?_
                            refine q_grS (T := TX4) C S68.1 ga0 0 kF_X4_39 dX4_readSum_213 rfl rfl (by decide) rfl (by decide) kSF_X4_tape (fun g73 => ?_)
                            rw [show fR D H68 4 a0 0 = tp from (S68.2.1.fR ga0 rfl (by decide) (by decide +kernel)).trans htp]
                            refine callV_Ev C S68 (c_X9_next_f l D G tp T (nx T b_2) gtp) kV_X4_47 gtp (⟨trivial, fq68⟩) (by decide +kernel) dX4_readSum_216 hl.1 rfl rfl (by decide) cd_X9_next ⟨Nat.le_of_ble_eq_true rfl, Nat.le_of_ble_eq_true rfl, Nat.le_of_ble_eq_true rfl, Nat.le_of_ble_eq_true rfl, Nat.le_of_ble_eq_true rfl⟩ (fun H74 L74 S74 K74 q74 => ?_)
                            obtain ⟨q74, fq74⟩ := q74
                            have tk74 : Lw D s.heap H74 a0 := tk68.trans (Lw.keep S68.1 ga0 K74 (by decide +kernel) (by decide +kernel) (by decide +kernel))
                            obtain ⟨v75, ev75⟩ : ∃ y : Int32, y = x1_2 + (1) := ⟨_, rfl⟩
                            have k_1 : (1 : Int32).toInt = 1 := by decide
                            have f76 : v75.toInt = x1_2.toInt + (1) := by rw [ev75]; exact i_addc k_1 (by omega) (by omega)
                            refine lv_iinc (v := v75) (lv' := [(1, .int v75), (0, .ref a0)]) hx hb dX4_readSum_219 hl (k := 0) rfl (by rw [ev75]; rfl) (by decide) rfl (fun ls hl => ?_)
                            refine lv_goto (tgt := 2) hx hb dX4_readSum_222 (by decide) ?_
                            exact ih2 v75 (nx T (nx T b_2)) H74 L74 ls S74 (by omega) fq74 (by rw [u2_1]; exact sumR_st (by omega) hp66 y71) tk74 (by omega) (lv_sub hl [0, 1] rfl)
                          · have b72 : v71.toInt = (0 : Int32).toInt := i_eq.mp c72
                            exact absurd b72 (by omega)
                        · skip
                          refine lv_if_ne (tgt := 212) hx hb dX4_readSum_207 (by decide) (fun c77 => ?_) (fun c77 => ?_)
                          · have b77 : ¬ v71.toInt = (0 : Int32).toInt := fun z9 => c77 (i_eq.mpr z9)
                            exact absurd b77 (by omega)
                          · have b77 : v71.toInt = (0 : Int32).toInt := i_eq.mp c77
                            refine lv_iconst (v := 1) hx hb dX4_readSum_210 (by decide) ?_
                            have k_1 : (1 : Int32).toInt = 1 := by decide
                            exact retE_z hQ C S68 hr dX4_readSum_211 (z01 (by omega) (by omega)) (⟨⟨by omega, tk68⟩, Rs.ok (by rw [u2_1]; exact sumR_ok (by omega) hp66 y71) (by omega) fq68⟩)
                      · have b69 : ¬ x1_2.toInt ≤ (0 : Int32).toInt := fun z9 => c69 (i_le.mpr z9)
                        refine lv_aload_n hx hb dX4_readSum_192 rfl (lv_at hl 1 rfl) ?_
                        refine lv_bipush (v := -14) hx hb dX4_readSum_193 (by decide) ?_
                        have k_m14 : (-14 : Int32).toInt = -14 := by decide
                        refine callV_Ev C S68 (c_X4_put l D G a0 (-14 : Int32) ga0) kV_X4_55 ga0 (trivial) (by decide +kernel) dX4_readSum_195 hl.1 rfl rfl (by decide) cd_X4_put ⟨Nat.le_of_ble_eq_true rfl, Nat.le_of_ble_eq_true rfl, Nat.le_of_ble_eq_true rfl, Nat.le_of_ble_eq_true rfl, Nat.le_of_ble_eq_true rfl⟩ (fun H78 L78 S78 K78 q78 => ?_)
                        obtain ⟨qa78, qb78, tq78⟩ := q78
                        have tk78 : Lw D s.heap H78 a0 := tk68.trans tq78
                        have ts78 := fq68.keep S68.1 gtp K78 (by decide +kernel)
                        refine lv_aload_n hx hb dX4_readSum_198 rfl (lv_at hl 1 rfl) ?_
                        refine q_grS (T := TX4) C S78.1 ga0 0 kF_X4_39 dX4_readSum_199 rfl rfl (by decide) rfl (by decide) kSF_X4_tape (fun g79 => ?_)
                        rw [show fR D H78 4 a0 0 = tp from (S78.2.1.fR ga0 rfl (by decide) (by decide +kernel)).trans htp]
                        refine lv_bipush (v := 43) hx hb dX4_readSum_202 (by decide) ?_
                        have k_43 : (43 : Int32).toInt = 43 := by decide
                        refine callV_Pi C S78.1 S78.2.1.2.1 (c_X9_isSign_f l D G tp (43 : Int32) 43 T (nx T b_2) gtp (by omega) (by decide)) kV_X4_84 gtp (⟨trivial, ts78⟩) dX4_readSum_204 hl.1 rfl rfl (by decide) cd_X9_isSign ⟨Nat.le_of_ble_eq_true rfl, Nat.le_of_ble_eq_true rfl, Nat.le_of_ble_eq_true rfl, Nat.le_of_ble_eq_true rfl, Nat.le_of_ble_eq_true rfl⟩ (fun v80 q80 => ?_)
                        obtain ⟨q80, fq80⟩ := q80
                        rcases fq80 with ⟨z80, y80⟩ | ⟨z80, y80⟩
                        · skip
                          refine lv_if_ne (tgt := 212) hx hb dX4_readSum_207 (by decide) (fun c81 => ?_) (fun c81 => ?_)
                          · have b81 : ¬ v80.toInt = (0 : Int32).toInt := fun z9 => c81 (i_eq.mpr z9)
                            refine lv_aload_n hx hb dX4_readSum_212 rfl (lv_at hl 1 rfl) ?_
                            refine q_grS (T := TX4) C S78.1 ga0 0 kF_X4_39 dX4_readSum_213 rfl rfl (by decide) rfl (by decide) kSF_X4_tape (fun g82 => ?_)
                            rw [show fR D H78 4 a0 0 = tp from (S78.2.1.fR ga0 rfl (by decide) (by decide +kernel)).trans htp]
                            refine callV_Ev C S78 (c_X9_next_f l D G tp T (nx T b_2) gtp) kV_X4_47 gtp (⟨trivial, ts78⟩) (by decide +kernel) dX4_readSum_216 hl.1 rfl rfl (by decide) cd_X9_next ⟨Nat.le_of_ble_eq_true rfl, Nat.le_of_ble_eq_true rfl, Nat.le_of_ble_eq_true rfl, Nat.le_of_ble_eq_true rfl, Nat.le_of_ble_eq_true rfl⟩ (fun H83 L83 S83 K83 q83 => ?_)
                            obtain ⟨q83, fq83⟩ := q83
                            have tk83 : Lw D s.heap H83 a0 := tk78.trans (Lw.keep S78.1 ga0 K83 (by decide +kernel) (by decide +kernel) (by decide +kernel))
                            obtain ⟨v84, ev84⟩ : ∃ y : Int32, y = x1_2 + (1) := ⟨_, rfl⟩
                            have k_1 : (1 : Int32).toInt = 1 := by decide
                            have f85 : v84.toInt = x1_2.toInt + (1) := by rw [ev84]; exact i_addc k_1 (by omega) (by omega)
                            refine lv_iinc (v := v84) (lv' := [(1, .int v84), (0, .ref a0)]) hx hb dX4_readSum_219 hl (k := 0) rfl (by rw [ev84]; rfl) (by decide) rfl (fun ls hl => ?_)
                            refine lv_goto (tgt := 2) hx hb dX4_readSum_222 (by decide) ?_
                            exact ih2 v84 (nx T (nx T b_2)) H83 L83 ls S83 (by omega) fq83 (by rw [u2_1]; exact sumR_st (by omega) hp66 y80) tk83 (by omega) (lv_sub hl [0, 1] rfl)
                          · have b81 : v80.toInt = (0 : Int32).toInt := i_eq.mp c81
                            exact absurd b81 (by omega)
                        · skip
                          refine lv_if_ne (tgt := 212) hx hb dX4_readSum_207 (by decide) (fun c86 => ?_) (fun c86 => ?_)
                          · have b86 : ¬ v80.toInt = (0 : Int32).toInt := fun z9 => c86 (i_eq.mpr z9)
                            exact absurd b86 (by omega)
                          · have b86 : v80.toInt = (0 : Int32).toInt := i_eq.mp c86
                            refine lv_iconst (v := 1) hx hb dX4_readSum_210 (by decide) ?_
                            have k_1 : (1 : Int32).toInt = 1 := by decide
                            exact retE_z hQ C S78 hr dX4_readSum_211 (z01 (by omega) (by omega)) (⟨⟨by omega, tk78⟩, Rs.ok (by rw [u2_1]; exact sumR_ok (by omega) hp66 y80) (by omega) ts78⟩)
                  · skip
                    refine lv_if_eq (tgt := 110) hx hb dX4_readSum_98 (by decide) (fun c87 => ?_) (fun c87 => ?_)
                    · have b87 : v63.toInt = (0 : Int32).toInt := i_eq.mp c87
                      refine lv_aload_n hx hb dX4_readSum_110 rfl (lv_at hl 1 rfl) ?_
                      refine q_grS (T := TX4) C S_2.1 ga0 0 kF_X4_39 dX4_readSum_111 rfl rfl (by decide) rfl (by decide) kSF_X4_tape (fun g88 => ?_)
                      rw [show fR D H_2 4 a0 0 = tp from (S_2.2.1.fR ga0 rfl (by decide) (by decide +kernel)).trans htp]
                      refine q_lds C ks_X4_122 dX4_readSum_114 (fun a89 ha89 wa89 => ?_)
                      refine callV_Pi C S_2.1 S_2.2.1.2.1 (c_X9_isWord_f l D G tp a89 7 w_hearths T b_2 gtp ha89 (Wc.of wa89 kw_hearths)) kV_X4_61 gtp (⟨trivial, u2_0⟩) dX4_readSum_116 hl.1 rfl rfl (by decide) cd_X9_isWord ⟨Nat.le_of_ble_eq_true rfl, Nat.le_of_ble_eq_true rfl, Nat.le_of_ble_eq_true rfl, Nat.le_of_ble_eq_true rfl, Nat.le_of_ble_eq_true rfl⟩ (fun v90 q90 => ?_)
                      obtain ⟨q90, fq90⟩ := q90
                      rcases fq90 with ⟨z90, y90⟩ | ⟨z90, y90⟩
                      · skip
                        refine lv_if_eq (tgt := 131) hx hb dX4_readSum_119 (by decide) (fun c91 => ?_) (fun c91 => ?_)
                        · have b91 : v90.toInt = (0 : Int32).toInt := i_eq.mp c91
                          exact absurd b91 (by omega)
                        · have b91 : ¬ v90.toInt = (0 : Int32).toInt := fun z9 => c91 (i_eq.mpr z9)
                          refine lv_aload_n hx hb dX4_readSum_122 rfl (lv_at hl 1 rfl) ?_
                          refine lv_bipush (v := -10) hx hb dX4_readSum_123 (by decide) ?_
                          have k_m10 : (-10 : Int32).toInt = -10 := by decide
                          refine callV_Ev C S_2 (c_X4_put l D G a0 (-10 : Int32) ga0) kV_X4_55 ga0 (trivial) (by decide +kernel) dX4_readSum_125 hl.1 rfl rfl (by decide) cd_X4_put ⟨Nat.le_of_ble_eq_true rfl, Nat.le_of_ble_eq_true rfl, Nat.le_of_ble_eq_true rfl, Nat.le_of_ble_eq_true rfl, Nat.le_of_ble_eq_true rfl⟩ (fun H92 L92 S92 K92 q92 => ?_)
                          obtain ⟨qa92, qb92, tq92⟩ := q92
                          have tk92 : Lw D s.heap H92 a0 := u2_2.trans tq92
                          have ts92 := u2_0.keep S_2.1 gtp K92 (by decide +kernel)
                          refine lv_goto (tgt := 181) hx hb dX4_readSum_128 (by decide) ?_
                          have hp93 : prt T b_2 = true := by simp [prt, hn6, y9, y36, y63, y90]
                          refine lv_aload_n hx hb dX4_readSum_181 rfl (lv_at hl 1 rfl) ?_
                          refine q_grS (T := TX4) C S92.1 ga0 0 kF_X4_39 dX4_readSum_182 rfl rfl (by decide) rfl (by decide) kSF_X4_tape (fun g94 => ?_)
                          rw [show fR D H92 4 a0 0 = tp from (S92.2.1.fR ga0 rfl (by decide) (by decide +kernel)).trans htp]
                          refine callV_Ev C S92 (c_X9_next_f l D G tp T b_2 gtp) kV_X4_47 gtp (⟨trivial, ts92⟩) (by decide +kernel) dX4_readSum_185 hl.1 rfl rfl (by decide) cd_X9_next ⟨Nat.le_of_ble_eq_true rfl, Nat.le_of_ble_eq_true rfl, Nat.le_of_ble_eq_true rfl, Nat.le_of_ble_eq_true rfl, Nat.le_of_ble_eq_true rfl⟩ (fun H95 L95 S95 K95 q95 => ?_)
                          obtain ⟨q95, fq95⟩ := q95
                          have tk95 : Lw D s.heap H95 a0 := tk92.trans (Lw.keep S92.1 ga0 K95 (by decide +kernel) (by decide +kernel) (by decide +kernel))
                          refine lv_iload_n hx hb dX4_readSum_188 rfl (lv_at hl 0 rfl) ?_
                          refine lv_if_le (tgt := 198) hx hb dX4_readSum_189 (by decide) (fun c96 => ?_) (fun c96 => ?_)
                          · have b96 : x1_2.toInt ≤ (0 : Int32).toInt := i_le.mp c96
                            refine lv_aload_n hx hb dX4_readSum_198 rfl (lv_at hl 1 rfl) ?_
                            refine q_grS (T := TX4) C S95.1 ga0 0 kF_X4_39 dX4_readSum_199 rfl rfl (by decide) rfl (by decide) kSF_X4_tape (fun g97 => ?_)
                            rw [show fR D H95 4 a0 0 = tp from (S95.2.1.fR ga0 rfl (by decide) (by decide +kernel)).trans htp]
                            refine lv_bipush (v := 43) hx hb dX4_readSum_202 (by decide) ?_
                            have k_43 : (43 : Int32).toInt = 43 := by decide
                            refine callV_Pi C S95.1 S95.2.1.2.1 (c_X9_isSign_f l D G tp (43 : Int32) 43 T (nx T b_2) gtp (by omega) (by decide)) kV_X4_84 gtp (⟨trivial, fq95⟩) dX4_readSum_204 hl.1 rfl rfl (by decide) cd_X9_isSign ⟨Nat.le_of_ble_eq_true rfl, Nat.le_of_ble_eq_true rfl, Nat.le_of_ble_eq_true rfl, Nat.le_of_ble_eq_true rfl, Nat.le_of_ble_eq_true rfl⟩ (fun v98 q98 => ?_)
                            obtain ⟨q98, fq98⟩ := q98
                            rcases fq98 with ⟨z98, y98⟩ | ⟨z98, y98⟩
                            · skip
                              refine lv_if_ne (tgt := 212) hx hb dX4_readSum_207 (by decide) (fun c99 => ?_) (fun c99 => ?_)
                              · have b99 : ¬ v98.toInt = (0 : Int32).toInt := fun z9 => c99 (i_eq.mpr z9)
                                refine lv_aload_n hx hb dX4_readSum_212 rfl (lv_at hl 1 rfl) ?_
                                refine q_grS (T := TX4) C S95.1 ga0 0 kF_X4_39 dX4_readSum_213 rfl rfl (by decide) rfl (by decide) kSF_X4_tape (fun g100 => ?_)
                                rw [show fR D H95 4 a0 0 = tp from (S95.2.1.fR ga0 rfl (by decide) (by decide +kernel)).trans htp]
                                refine callV_Ev C S95 (c_X9_next_f l D G tp T (nx T b_2) gtp) kV_X4_47 gtp (⟨trivial, fq95⟩) (by decide +kernel) dX4_readSum_216 hl.1 rfl rfl (by decide) cd_X9_next ⟨Nat.le_of_ble_eq_true rfl, Nat.le_of_ble_eq_true rfl, Nat.le_of_ble_eq_true rfl, Nat.le_of_ble_eq_true rfl, Nat.le_of_ble_eq_true rfl⟩ (fun H101 L101 S101 K101 q101 => ?_)
                                obtain ⟨q101, fq101⟩ := q101
                                have tk101 : Lw D s.heap H101 a0 := tk95.trans (Lw.keep S95.1 ga0 K101 (by decide +kernel) (by decide +kernel) (by decide +kernel))
                                obtain ⟨v102, ev102⟩ : ∃ y : Int32, y = x1_2 + (1) := ⟨_, rfl⟩
                                have k_1 : (1 : Int32).toInt = 1 := by decide
                                have f103 : v102.toInt = x1_2.toInt + (1) := by rw [ev102]; exact i_addc k_1 (by omega) (by omega)
                                refine lv_iinc (v := v102) (lv' := [(1, .int v102), (0, .ref a0)]) hx hb dX4_readSum_219 hl (k := 0) rfl (by rw [ev102]; rfl) (by decide) rfl (fun ls hl => ?_)
                                refine lv_goto (tgt := 2) hx hb dX4_readSum_222 (by decide) ?_
                                exact ih2 v102 (nx T (nx T b_2)) H101 L101 ls S101 (by omega) fq101 (by rw [u2_1]; exact sumR_st (by omega) hp93 y98) tk101 (by omega) (lv_sub hl [0, 1] rfl)
                              · have b99 : v98.toInt = (0 : Int32).toInt := i_eq.mp c99
                                exact absurd b99 (by omega)
                            · skip
                              refine lv_if_ne (tgt := 212) hx hb dX4_readSum_207 (by decide) (fun c104 => ?_) (fun c104 => ?_)
                              · have b104 : ¬ v98.toInt = (0 : Int32).toInt := fun z9 => c104 (i_eq.mpr z9)
                                exact absurd b104 (by omega)
                              · have b104 : v98.toInt = (0 : Int32).toInt := i_eq.mp c104
                                refine lv_iconst (v := 1) hx hb dX4_readSum_210 (by decide) ?_
                                have k_1 : (1 : Int32).toInt = 1 := by decide
                                exact retE_z hQ C S95 hr dX4_readSum_211 (z01 (by omega) (by omega)) (⟨⟨by omega, tk95⟩, Rs.ok (by rw [u2_1]; exact sumR_ok (by omega) hp93 y98) (by omega) fq95⟩)
                          · have b96 : ¬ x1_2.toInt ≤ (0 : Int32).toInt := fun z9 => c96 (i_le.mpr z9)
                            refine lv_aload_n hx hb dX4_readSum_192 rfl (lv_at hl 1 rfl) ?_
                            refine lv_bipush (v := -14) hx hb dX4_readSum_193 (by decide) ?_
                            have k_m14 : (-14 : Int32).toInt = -14 := by decide
                            refine callV_Ev C S95 (c_X4_put l D G a0 (-14 : Int32) ga0) kV_X4_55 ga0 (trivial) (by decide +kernel) dX4_readSum_195 hl.1 rfl rfl (by decide) cd_X4_put ⟨Nat.le_of_ble_eq_true rfl, Nat.le_of_ble_eq_true rfl, Nat.le_of_ble_eq_true rfl, Nat.le_of_ble_eq_true rfl, Nat.le_of_ble_eq_true rfl⟩ (fun H105 L105 S105 K105 q105 => ?_)
                            obtain ⟨qa105, qb105, tq105⟩ := q105
                            have tk105 : Lw D s.heap H105 a0 := tk95.trans tq105
                            have ts105 := fq95.keep S95.1 gtp K105 (by decide +kernel)
                            refine lv_aload_n hx hb dX4_readSum_198 rfl (lv_at hl 1 rfl) ?_
                            refine q_grS (T := TX4) C S105.1 ga0 0 kF_X4_39 dX4_readSum_199 rfl rfl (by decide) rfl (by decide) kSF_X4_tape (fun g106 => ?_)
                            rw [show fR D H105 4 a0 0 = tp from (S105.2.1.fR ga0 rfl (by decide) (by decide +kernel)).trans htp]
                            refine lv_bipush (v := 43) hx hb dX4_readSum_202 (by decide) ?_
                            have k_43 : (43 : Int32).toInt = 43 := by decide
                            refine callV_Pi C S105.1 S105.2.1.2.1 (c_X9_isSign_f l D G tp (43 : Int32) 43 T (nx T b_2) gtp (by omega) (by decide)) kV_X4_84 gtp (⟨trivial, ts105⟩) dX4_readSum_204 hl.1 rfl rfl (by decide) cd_X9_isSign ⟨Nat.le_of_ble_eq_true rfl, Nat.le_of_ble_eq_true rfl, Nat.le_of_ble_eq_true rfl, Nat.le_of_ble_eq_true rfl, Nat.le_of_ble_eq_true rfl⟩ (fun v107 q107 => ?_)
                            obtain ⟨q107, fq107⟩ := q107
                            rcases fq107 with ⟨z107, y107⟩ | ⟨z107, y107⟩
                            · skip
                              refine lv_if_ne (tgt := 212) hx hb dX4_readSum_207 (by decide) (fun c108 => ?_) (fun c108 => ?_)
                              · have b108 : ¬ v107.toInt = (0 : Int32).toInt := fun z9 => c108 (i_eq.mpr z9)
                                refine lv_aload_n hx hb dX4_readSum_212 rfl (lv_at hl 1 rfl) ?_
                                refine q_grS (T := TX4) C S105.1 ga0 0 kF_X4_39 dX4_readSum_213 rfl rfl (by decide) rfl (by decide) kSF_X4_tape (fun g109 => ?_)
                                rw [show fR D H105 4 a0 0 = tp from (S105.2.1.fR ga0 rfl (by decide) (by decide +kernel)).trans htp]
                                refine callV_Ev C S105 (c_X9_next_f l D G tp T (nx T b_2) gtp) kV_X4_47 gtp (⟨trivial, ts105⟩) (by decide +kernel) dX4_readSum_216 hl.1 rfl rfl (by decide) cd_X9_next ⟨Nat.le_of_ble_eq_true rfl, Nat.le_of_ble_eq_true rfl, Nat.le_of_ble_eq_true rfl, Nat.le_of_ble_eq_true rfl, Nat.le_of_ble_eq_true rfl⟩ (fun H110 L110 S110 K110 q110 => ?_)
                                obtain ⟨q110, fq110⟩ := q110
                                have tk110 : Lw D s.heap H110 a0 := tk105.trans (Lw.keep S105.1 ga0 K110 (by decide +kernel) (by decide +kernel) (by decide +kernel))
                                obtain ⟨v111, ev111⟩ : ∃ y : Int32, y = x1_2 + (1) := ⟨_, rfl⟩
                                have k_1 : (1 : Int32).toInt = 1 := by decide
                                have f112 : v111.toInt = x1_2.toInt + (1) := by rw [ev111]; exact i_addc k_1 (by omega) (by omega)
                                refine lv_iinc (v := v111) (lv' := [(1, .int v111), (0, .ref a0)]) hx hb dX4_readSum_219 hl (k := 0) rfl (by rw [ev111]; rfl) (by decide) rfl (fun ls hl => ?_)
                                refine lv_goto (tgt := 2) hx hb dX4_readSum_222 (by decide) ?_
                                exact ih2 v111 (nx T (nx T b_2)) H110 L110 ls S110 (by omega) fq110 (by rw [u2_1]; exact sumR_st (by omega) hp93 y107) tk110 (by omega) (lv_sub hl [0, 1] rfl)
                              · have b108 : v107.toInt = (0 : Int32).toInt := i_eq.mp c108
                                exact absurd b108 (by omega)
                            · skip
                              refine lv_if_ne (tgt := 212) hx hb dX4_readSum_207 (by decide) (fun c113 => ?_) (fun c113 => ?_)
                              · have b113 : ¬ v107.toInt = (0 : Int32).toInt := fun z9 => c113 (i_eq.mpr z9)
                                exact absurd b113 (by omega)
                              · have b113 : v107.toInt = (0 : Int32).toInt := i_eq.mp c113
                                refine lv_iconst (v := 1) hx hb dX4_readSum_210 (by decide) ?_
                                have k_1 : (1 : Int32).toInt = 1 := by decide
                                exact retE_z hQ C S105 hr dX4_readSum_211 (z01 (by omega) (by omega)) (⟨⟨by omega, tk105⟩, Rs.ok (by rw [u2_1]; exact sumR_ok (by omega) hp93 y107) (by omega) ts105⟩)
                      · skip
                        refine lv_if_eq (tgt := 131) hx hb dX4_readSum_119 (by decide) (fun c114 => ?_) (fun c114 => ?_)
                        · have b114 : v90.toInt = (0 : Int32).toInt := i_eq.mp c114
                          refine lv_aload_n hx hb dX4_readSum_131 rfl (lv_at hl 1 rfl) ?_
                          refine q_grS (T := TX4) C S_2.1 ga0 0 kF_X4_39 dX4_readSum_132 rfl rfl (by decide) rfl (by decide) kSF_X4_tape (fun g115 => ?_)
                          rw [show fR D H_2 4 a0 0 = tp from (S_2.2.1.fR ga0 rfl (by decide) (by decide +kernel)).trans htp]
                          refine q_lds C ks_X4_124 dX4_readSum_135 (fun a116 ha116 wa116 => ?_)
                          refine callV_Pi C S_2.1 S_2.2.1.2.1 (c_X9_isWord_f l D G tp a116 7 w_windows T b_2 gtp ha116 (Wc.of wa116 kw_windows)) kV_X4_61 gtp (⟨trivial, u2_0⟩) dX4_readSum_137 hl.1 rfl rfl (by decide) cd_X9_isWord ⟨Nat.le_of_ble_eq_true rfl, Nat.le_of_ble_eq_true rfl, Nat.le_of_ble_eq_true rfl, Nat.le_of_ble_eq_true rfl, Nat.le_of_ble_eq_true rfl⟩ (fun v117 q117 => ?_)
                          obtain ⟨q117, fq117⟩ := q117
                          rcases fq117 with ⟨z117, y117⟩ | ⟨z117, y117⟩
                          · skip
                            refine lv_if_eq (tgt := 152) hx hb dX4_readSum_140 (by decide) (fun c118 => ?_) (fun c118 => ?_)
                            · have b118 : v117.toInt = (0 : Int32).toInt := i_eq.mp c118
                              exact absurd b118 (by omega)
                            · have b118 : ¬ v117.toInt = (0 : Int32).toInt := fun z9 => c118 (i_eq.mpr z9)
                              refine lv_aload_n hx hb dX4_readSum_143 rfl (lv_at hl 1 rfl) ?_
                              refine lv_bipush (v := -11) hx hb dX4_readSum_144 (by decide) ?_
                              have k_m11 : (-11 : Int32).toInt = -11 := by decide
                              refine callV_Ev C S_2 (c_X4_put l D G a0 (-11 : Int32) ga0) kV_X4_55 ga0 (trivial) (by decide +kernel) dX4_readSum_146 hl.1 rfl rfl (by decide) cd_X4_put ⟨Nat.le_of_ble_eq_true rfl, Nat.le_of_ble_eq_true rfl, Nat.le_of_ble_eq_true rfl, Nat.le_of_ble_eq_true rfl, Nat.le_of_ble_eq_true rfl⟩ (fun H119 L119 S119 K119 q119 => ?_)
                              obtain ⟨qa119, qb119, tq119⟩ := q119
                              have tk119 : Lw D s.heap H119 a0 := u2_2.trans tq119
                              have ts119 := u2_0.keep S_2.1 gtp K119 (by decide +kernel)
                              refine lv_goto (tgt := 181) hx hb dX4_readSum_149 (by decide) ?_
                              have hp120 : prt T b_2 = true := by simp [prt, hn6, y9, y36, y63, y90, y117]
                              refine lv_aload_n hx hb dX4_readSum_181 rfl (lv_at hl 1 rfl) ?_
                              refine q_grS (T := TX4) C S119.1 ga0 0 kF_X4_39 dX4_readSum_182 rfl rfl (by decide) rfl (by decide) kSF_X4_tape (fun g121 => ?_)
                              rw [show fR D H119 4 a0 0 = tp from (S119.2.1.fR ga0 rfl (by decide) (by decide +kernel)).trans htp]
                              refine callV_Ev C S119 (c_X9_next_f l D G tp T b_2 gtp) kV_X4_47 gtp (⟨trivial, ts119⟩) (by decide +kernel) dX4_readSum_185 hl.1 rfl rfl (by decide) cd_X9_next ⟨Nat.le_of_ble_eq_true rfl, Nat.le_of_ble_eq_true rfl, Nat.le_of_ble_eq_true rfl, Nat.le_of_ble_eq_true rfl, Nat.le_of_ble_eq_true rfl⟩ (fun H122 L122 S122 K122 q122 => ?_)
                              obtain ⟨q122, fq122⟩ := q122
                              have tk122 : Lw D s.heap H122 a0 := tk119.trans (Lw.keep S119.1 ga0 K122 (by decide +kernel) (by decide +kernel) (by decide +kernel))
                              refine lv_iload_n hx hb dX4_readSum_188 rfl (lv_at hl 0 rfl) ?_
                              refine lv_if_le (tgt := 198) hx hb dX4_readSum_189 (by decide) (fun c123 => ?_) (fun c123 => ?_)
                              · have b123 : x1_2.toInt ≤ (0 : Int32).toInt := i_le.mp c123
                                refine lv_aload_n hx hb dX4_readSum_198 rfl (lv_at hl 1 rfl) ?_
                                refine q_grS (T := TX4) C S122.1 ga0 0 kF_X4_39 dX4_readSum_199 rfl rfl (by decide) rfl (by decide) kSF_X4_tape (fun g124 => ?_)
                                rw [show fR D H122 4 a0 0 = tp from (S122.2.1.fR ga0 rfl (by decide) (by decide +kernel)).trans htp]
                                refine lv_bipush (v := 43) hx hb dX4_readSum_202 (by decide) ?_
                                have k_43 : (43 : Int32).toInt = 43 := by decide
                                refine callV_Pi C S122.1 S122.2.1.2.1 (c_X9_isSign_f l D G tp (43 : Int32) 43 T (nx T b_2) gtp (by omega) (by decide)) kV_X4_84 gtp (⟨trivial, fq122⟩) dX4_readSum_204 hl.1 rfl rfl (by decide) cd_X9_isSign ⟨Nat.le_of_ble_eq_true rfl, Nat.le_of_ble_eq_true rfl, Nat.le_of_ble_eq_true rfl, Nat.le_of_ble_eq_true rfl, Nat.le_of_ble_eq_true rfl⟩ (fun v125 q125 => ?_)
                                obtain ⟨q125, fq125⟩ := q125
                                rcases fq125 with ⟨z125, y125⟩ | ⟨z125, y125⟩
                                · skip
                                  refine lv_if_ne (tgt := 212) hx hb dX4_readSum_207 (by decide) (fun c126 => ?_) (fun c126 => ?_)
                                  · have b126 : ¬ v125.toInt = (0 : Int32).toInt := fun z9 => c126 (i_eq.mpr z9)
                                    refine lv_aload_n hx hb dX4_readSum_212 rfl (lv_at hl 1 rfl) ?_
                                    refine q_grS (T := TX4) C S122.1 ga0 0 kF_X4_39 dX4_readSum_213 rfl rfl (by decide) rfl (by decide) kSF_X4_tape (fun g127 => ?_)
                                    rw [show fR D H122 4 a0 0 = tp from (S122.2.1.fR ga0 rfl (by decide) (by decide +kernel)).trans htp]
                                    refine callV_Ev C S122 (c_X9_next_f l D G tp T (nx T b_2) gtp) kV_X4_47 gtp (⟨trivial, fq122⟩) (by decide +kernel) dX4_readSum_216 hl.1 rfl rfl (by decide) cd_X9_next ⟨Nat.le_of_ble_eq_true rfl, Nat.le_of_ble_eq_true rfl, Nat.le_of_ble_eq_true rfl, Nat.le_of_ble_eq_true rfl, Nat.le_of_ble_eq_true rfl⟩ (fun H128 L128 S128 K128 q128 => ?_)
                                    obtain ⟨q128, fq128⟩ := q128
                                    have tk128 : Lw D s.heap H128 a0 := tk122.trans (Lw.keep S122.1 ga0 K128 (by decide +kernel) (by decide +kernel) (by decide +kernel))
                                    obtain ⟨v129, ev129⟩ : ∃ y : Int32, y = x1_2 + (1) := ⟨_, rfl⟩
                                    have k_1 : (1 : Int32).toInt = 1 := by decide
                                    have f130 : v129.toInt = x1_2.toInt + (1) := by rw [ev129]; exact i_addc k_1 (by omega) (by omega)
                                    refine lv_iinc (v := v129) (lv' := [(1, .int v129), (0, .ref a0)]) hx hb dX4_readSum_219 hl (k := 0) rfl (by rw [ev129]; rfl) (by decide) rfl (fun ls hl => ?_)
                                    refine lv_goto (tgt := 2) hx hb dX4_readSum_222 (by decide) ?_
                                    exact ih2 v129 (nx T (nx T b_2)) H128 L128 ls S128 (by omega) fq128 (by rw [u2_1]; exact sumR_st (by omega) hp120 y125) tk128 (by omega) (lv_sub hl [0, 1] rfl)
                                  · have b126 : v125.toInt = (0 : Int32).toInt := i_eq.mp c126
                                    exact absurd b126 (by omega)
                                · skip
                                  refine lv_if_ne (tgt := 212) hx hb dX4_readSum_207 (by decide) (fun c131 => ?_) (fun c131 => ?_)
                                  · have b131 : ¬ v125.toInt = (0 : Int32).toInt := fun z9 => c131 (i_eq.mpr z9)
                                    exact absurd b131 (by omega)
                                  · have b131 : v125.toInt = (0 : Int32).toInt := i_eq.mp c131
                                    refine lv_iconst (v := 1) hx hb dX4_readSum_210 (by decide) ?_
                                    have k_1 : (1 : Int32).toInt = 1 := by decide
                                    exact retE_z hQ C S122 hr dX4_readSum_211 (z01 (by omega) (by omega)) (⟨⟨by omega, tk122⟩, Rs.ok (by rw [u2_1]; exact sumR_ok (by omega) hp120 y125) (by omega) fq122⟩)
                              · have b123 : ¬ x1_2.toInt ≤ (0 : Int32).toInt := fun z9 => c123 (i_le.mpr z9)
                                refine lv_aload_n hx hb dX4_readSum_192 rfl (lv_at hl 1 rfl) ?_
                                refine lv_bipush (v := -14) hx hb dX4_readSum_193 (by decide) ?_
                                have k_m14 : (-14 : Int32).toInt = -14 := by decide
                                refine callV_Ev C S122 (c_X4_put l D G a0 (-14 : Int32) ga0) kV_X4_55 ga0 (trivial) (by decide +kernel) dX4_readSum_195 hl.1 rfl rfl (by decide) cd_X4_put ⟨Nat.le_of_ble_eq_true rfl, Nat.le_of_ble_eq_true rfl, Nat.le_of_ble_eq_true rfl, Nat.le_of_ble_eq_true rfl, Nat.le_of_ble_eq_true rfl⟩ (fun H132 L132 S132 K132 q132 => ?_)
                                obtain ⟨qa132, qb132, tq132⟩ := q132
                                have tk132 : Lw D s.heap H132 a0 := tk122.trans tq132
                                have ts132 := fq122.keep S122.1 gtp K132 (by decide +kernel)
                                refine lv_aload_n hx hb dX4_readSum_198 rfl (lv_at hl 1 rfl) ?_
                                refine q_grS (T := TX4) C S132.1 ga0 0 kF_X4_39 dX4_readSum_199 rfl rfl (by decide) rfl (by decide) kSF_X4_tape (fun g133 => ?_)
                                rw [show fR D H132 4 a0 0 = tp from (S132.2.1.fR ga0 rfl (by decide) (by decide +kernel)).trans htp]
                                refine lv_bipush (v := 43) hx hb dX4_readSum_202 (by decide) ?_
                                have k_43 : (43 : Int32).toInt = 43 := by decide
                                refine callV_Pi C S132.1 S132.2.1.2.1 (c_X9_isSign_f l D G tp (43 : Int32) 43 T (nx T b_2) gtp (by omega) (by decide)) kV_X4_84 gtp (⟨trivial, ts132⟩) dX4_readSum_204 hl.1 rfl rfl (by decide) cd_X9_isSign ⟨Nat.le_of_ble_eq_true rfl, Nat.le_of_ble_eq_true rfl, Nat.le_of_ble_eq_true rfl, Nat.le_of_ble_eq_true rfl, Nat.le_of_ble_eq_true rfl⟩ (fun v134 q134 => ?_)
                                obtain ⟨q134, fq134⟩ := q134
                                rcases fq134 with ⟨z134, y134⟩ | ⟨z134, y134⟩
                                · skip
                                  refine lv_if_ne (tgt := 212) hx hb dX4_readSum_207 (by decide) (fun c135 => ?_) (fun c135 => ?_)
                                  · have b135 : ¬ v134.toInt = (0 : Int32).toInt := fun z9 => c135 (i_eq.mpr z9)
                                    refine lv_aload_n hx hb dX4_readSum_212 rfl (lv_at hl 1 rfl) ?_
                                    refine q_grS (T := TX4) C S132.1 ga0 0 kF_X4_39 dX4_readSum_213 rfl rfl (by decide) rfl (by decide) kSF_X4_tape (fun g136 => ?_)
                                    rw [show fR D H132 4 a0 0 = tp from (S132.2.1.fR ga0 rfl (by decide) (by decide +kernel)).trans htp]
                                    refine callV_Ev C S132 (c_X9_next_f l D G tp T (nx T b_2) gtp) kV_X4_47 gtp (⟨trivial, ts132⟩) (by decide +kernel) dX4_readSum_216 hl.1 rfl rfl (by decide) cd_X9_next ⟨Nat.le_of_ble_eq_true rfl, Nat.le_of_ble_eq_true rfl, Nat.le_of_ble_eq_true rfl, Nat.le_of_ble_eq_true rfl, Nat.le_of_ble_eq_true rfl⟩ (fun H137 L137 S137 K137 q137 => ?_)
                                    obtain ⟨q137, fq137⟩ := q137
                                    have tk137 : Lw D s.heap H137 a0 := tk132.trans (Lw.keep S132.1 ga0 K137 (by decide +kernel) (by decide +kernel) (by decide +kernel))
                                    obtain ⟨v138, ev138⟩ : ∃ y : Int32, y = x1_2 + (1) := ⟨_, rfl⟩
                                    have k_1 : (1 : Int32).toInt = 1 := by decide
                                    have f139 : v138.toInt = x1_2.toInt + (1) := by rw [ev138]; exact i_addc k_1 (by omega) (by omega)
                                    refine lv_iinc (v := v138) (lv' := [(1, .int v138), (0, .ref a0)]) hx hb dX4_readSum_219 hl (k := 0) rfl (by rw [ev138]; rfl) (by decide) rfl (fun ls hl => ?_)
                                    refine lv_goto (tgt := 2) hx hb dX4_readSum_222 (by decide) ?_
                                    exact ih2 v138 (nx T (nx T b_2)) H137 L137 ls S137 (by omega) fq137 (by rw [u2_1]; exact sumR_st (by omega) hp120 y134) tk137 (by omega) (lv_sub hl [0, 1] rfl)
                                  · have b135 : v134.toInt = (0 : Int32).toInt := i_eq.mp c135
                                    exact absurd b135 (by omega)
                                · skip
                                  refine lv_if_ne (tgt := 212) hx hb dX4_readSum_207 (by decide) (fun c140 => ?_) (fun c140 => ?_)
                                  · have b140 : ¬ v134.toInt = (0 : Int32).toInt := fun z9 => c140 (i_eq.mpr z9)
                                    exact absurd b140 (by omega)
                                  · have b140 : v134.toInt = (0 : Int32).toInt := i_eq.mp c140
                                    refine lv_iconst (v := 1) hx hb dX4_readSum_210 (by decide) ?_
                                    have k_1 : (1 : Int32).toInt = 1 := by decide
                                    exact retE_z hQ C S132 hr dX4_readSum_211 (z01 (by omega) (by omega)) (⟨⟨by omega, tk132⟩, Rs.ok (by rw [u2_1]; exact sumR_ok (by omega) hp120 y134) (by omega) ts132⟩)
                          · skip
                            refine lv_if_eq (tgt := 152) hx hb dX4_readSum_140 (by decide) (fun c141 => ?_) (fun c141 => ?_)
                            · have b141 : v117.toInt = (0 : Int32).toInt := i_eq.mp c141
                              refine lv_aload_n hx hb dX4_readSum_152 rfl (lv_at hl 1 rfl) ?_
                              refine q_grS (T := TX4) C S_2.1 ga0 0 kF_X4_39 dX4_readSum_153 rfl rfl (by decide) rfl (by decide) kSF_X4_tape (fun g142 => ?_)
                              rw [show fR D H_2 4 a0 0 = tp from (S_2.2.1.fR ga0 rfl (by decide) (by decide +kernel)).trans htp]
                              refine q_lds C ks_X4_126 dX4_readSum_156 (fun a143 ha143 wa143 => ?_)
                              refine callV_Pi C S_2.1 S_2.2.1.2.1 (c_X9_isWord_f l D G tp a143 7 w_quarter T b_2 gtp ha143 (Wc.of wa143 kw_quarter)) kV_X4_61 gtp (⟨trivial, u2_0⟩) dX4_readSum_158 hl.1 rfl rfl (by decide) cd_X9_isWord ⟨Nat.le_of_ble_eq_true rfl, Nat.le_of_ble_eq_true rfl, Nat.le_of_ble_eq_true rfl, Nat.le_of_ble_eq_true rfl, Nat.le_of_ble_eq_true rfl⟩ (fun v144 q144 => ?_)
                              obtain ⟨q144, fq144⟩ := q144
                              rcases fq144 with ⟨z144, y144⟩ | ⟨z144, y144⟩
                              · skip
                                refine lv_if_eq (tgt := 173) hx hb dX4_readSum_161 (by decide) (fun c145 => ?_) (fun c145 => ?_)
                                · have b145 : v144.toInt = (0 : Int32).toInt := i_eq.mp c145
                                  exact absurd b145 (by omega)
                                · have b145 : ¬ v144.toInt = (0 : Int32).toInt := fun z9 => c145 (i_eq.mpr z9)
                                  refine lv_aload_n hx hb dX4_readSum_164 rfl (lv_at hl 1 rfl) ?_
                                  refine lv_bipush (v := -12) hx hb dX4_readSum_165 (by decide) ?_
                                  have k_m12 : (-12 : Int32).toInt = -12 := by decide
                                  refine callV_Ev C S_2 (c_X4_put l D G a0 (-12 : Int32) ga0) kV_X4_55 ga0 (trivial) (by decide +kernel) dX4_readSum_167 hl.1 rfl rfl (by decide) cd_X4_put ⟨Nat.le_of_ble_eq_true rfl, Nat.le_of_ble_eq_true rfl, Nat.le_of_ble_eq_true rfl, Nat.le_of_ble_eq_true rfl, Nat.le_of_ble_eq_true rfl⟩ (fun H146 L146 S146 K146 q146 => ?_)
                                  obtain ⟨qa146, qb146, tq146⟩ := q146
                                  have tk146 : Lw D s.heap H146 a0 := u2_2.trans tq146
                                  have ts146 := u2_0.keep S_2.1 gtp K146 (by decide +kernel)
                                  refine lv_goto (tgt := 181) hx hb dX4_readSum_170 (by decide) ?_
                                  have hp147 : prt T b_2 = true := by simp [prt, hn6, y9, y36, y63, y90, y117, y144]
                                  refine lv_aload_n hx hb dX4_readSum_181 rfl (lv_at hl 1 rfl) ?_
                                  refine q_grS (T := TX4) C S146.1 ga0 0 kF_X4_39 dX4_readSum_182 rfl rfl (by decide) rfl (by decide) kSF_X4_tape (fun g148 => ?_)
                                  rw [show fR D H146 4 a0 0 = tp from (S146.2.1.fR ga0 rfl (by decide) (by decide +kernel)).trans htp]
                                  refine callV_Ev C S146 (c_X9_next_f l D G tp T b_2 gtp) kV_X4_47 gtp (⟨trivial, ts146⟩) (by decide +kernel) dX4_readSum_185 hl.1 rfl rfl (by decide) cd_X9_next ⟨Nat.le_of_ble_eq_true rfl, Nat.le_of_ble_eq_true rfl, Nat.le_of_ble_eq_true rfl, Nat.le_of_ble_eq_true rfl, Nat.le_of_ble_eq_true rfl⟩ (fun H149 L149 S149 K149 q149 => ?_)
                                  obtain ⟨q149, fq149⟩ := q149
                                  have tk149 : Lw D s.heap H149 a0 := tk146.trans (Lw.keep S146.1 ga0 K149 (by decide +kernel) (by decide +kernel) (by decide +kernel))
                                  refine lv_iload_n hx hb dX4_readSum_188 rfl (lv_at hl 0 rfl) ?_
                                  refine lv_if_le (tgt := 198) hx hb dX4_readSum_189 (by decide) (fun c150 => ?_) (fun c150 => ?_)
                                  · have b150 : x1_2.toInt ≤ (0 : Int32).toInt := i_le.mp c150
                                    refine lv_aload_n hx hb dX4_readSum_198 rfl (lv_at hl 1 rfl) ?_
                                    refine q_grS (T := TX4) C S149.1 ga0 0 kF_X4_39 dX4_readSum_199 rfl rfl (by decide) rfl (by decide) kSF_X4_tape (fun g151 => ?_)
                                    rw [show fR D H149 4 a0 0 = tp from (S149.2.1.fR ga0 rfl (by decide) (by decide +kernel)).trans htp]
                                    refine lv_bipush (v := 43) hx hb dX4_readSum_202 (by decide) ?_
                                    have k_43 : (43 : Int32).toInt = 43 := by decide
                                    refine callV_Pi C S149.1 S149.2.1.2.1 (c_X9_isSign_f l D G tp (43 : Int32) 43 T (nx T b_2) gtp (by omega) (by decide)) kV_X4_84 gtp (⟨trivial, fq149⟩) dX4_readSum_204 hl.1 rfl rfl (by decide) cd_X9_isSign ⟨Nat.le_of_ble_eq_true rfl, Nat.le_of_ble_eq_true rfl, Nat.le_of_ble_eq_true rfl, Nat.le_of_ble_eq_true rfl, Nat.le_of_ble_eq_true rfl⟩ (fun v152 q152 => ?_)
                                    obtain ⟨q152, fq152⟩ := q152
                                    rcases fq152 with ⟨z152, y152⟩ | ⟨z152, y152⟩
                                    · skip
                                      refine lv_if_ne (tgt := 212) hx hb dX4_readSum_207 (by decide) (fun c153 => ?_) (fun c153 => ?_)
                                      · have b153 : ¬ v152.toInt = (0 : Int32).toInt := fun z9 => c153 (i_eq.mpr z9)
                                        refine lv_aload_n hx hb dX4_readSum_212 rfl (lv_at hl 1 rfl) ?_
                                        refine q_grS (T := TX4) C S149.1 ga0 0 kF_X4_39 dX4_readSum_213 rfl rfl (by decide) rfl (by decide) kSF_X4_tape (fun g154 => ?_)
                                        rw [show fR D H149 4 a0 0 = tp from (S149.2.1.fR ga0 rfl (by decide) (by decide +kernel)).trans htp]
                                        refine callV_Ev C S149 (c_X9_next_f l D G tp T (nx T b_2) gtp) kV_X4_47 gtp (⟨trivial, fq149⟩) (by decide +kernel) dX4_readSum_216 hl.1 rfl rfl (by decide) cd_X9_next ⟨Nat.le_of_ble_eq_true rfl, Nat.le_of_ble_eq_true rfl, Nat.le_of_ble_eq_true rfl, Nat.le_of_ble_eq_true rfl, Nat.le_of_ble_eq_true rfl⟩ (fun H155 L155 S155 K155 q155 => ?_)
                                        obtain ⟨q155, fq155⟩ := q155
                                        have tk155 : Lw D s.heap H155 a0 := tk149.trans (Lw.keep S149.1 ga0 K155 (by decide +kernel) (by decide +kernel) (by decide +kernel))
                                        obtain ⟨v156, ev156⟩ : ∃ y : Int32, y = x1_2 + (1) := ⟨_, rfl⟩
                                        have k_1 : (1 : Int32).toInt = 1 := by decide
                                        have f157 : v156.toInt = x1_2.toInt + (1) := by rw [ev156]; exact i_addc k_1 (by omega) (by omega)
                                        refine lv_iinc (v := v156) (lv' := [(1, .int v156), (0, .ref a0)]) hx hb dX4_readSum_219 hl (k := 0) rfl (by rw [ev156]; rfl) (by decide) rfl (fun ls hl => ?_)
                                        refine lv_goto (tgt := 2) hx hb dX4_readSum_222 (by decide) ?_
                                        exact ih2 v156 (nx T (nx T b_2)) H155 L155 ls S155 (by omega) fq155 (by rw [u2_1]; exact sumR_st (by omega) hp147 y152) tk155 (by omega) (lv_sub hl [0, 1] rfl)
                                      · have b153 : v152.toInt = (0 : Int32).toInt := i_eq.mp c153
                                        exact absurd b153 (by omega)
                                    · skip
                                      refine lv_if_ne (tgt := 212) hx hb dX4_readSum_207 (by decide) (fun c158 => ?_) (fun c158 => ?_)
                                      · have b158 : ¬ v152.toInt = (0 : Int32).toInt := fun z9 => c158 (i_eq.mpr z9)
                                        exact absurd b158 (by omega)
                                      · have b158 : v152.toInt = (0 : Int32).toInt := i_eq.mp c158
                                        refine lv_iconst (v := 1) hx hb dX4_readSum_210 (by decide) ?_
                                        have k_1 : (1 : Int32).toInt = 1 := by decide
                                        exact retE_z hQ C S149 hr dX4_readSum_211 (z01 (by omega) (by omega)) (⟨⟨by omega, tk149⟩, Rs.ok (by rw [u2_1]; exact sumR_ok (by omega) hp147 y152) (by omega) fq149⟩)
                                  · have b150 : ¬ x1_2.toInt ≤ (0 : Int32).toInt := fun z9 => c150 (i_le.mpr z9)
                                    refine lv_aload_n hx hb dX4_readSum_192 rfl (lv_at hl 1 rfl) ?_
                                    refine lv_bipush (v := -14) hx hb dX4_readSum_193 (by decide) ?_
                                    have k_m14 : (-14 : Int32).toInt = -14 := by decide
                                    refine callV_Ev C S149 (c_X4_put l D G a0 (-14 : Int32) ga0) kV_X4_55 ga0 (trivial) (by decide +kernel) dX4_readSum_195 hl.1 rfl rfl (by decide) cd_X4_put ⟨Nat.le_of_ble_eq_true rfl, Nat.le_of_ble_eq_true rfl, Nat.le_of_ble_eq_true rfl, Nat.le_of_ble_eq_true rfl, Nat.le_of_ble_eq_true rfl⟩ (fun H159 L159 S159 K159 q159 => ?_)
                                    obtain ⟨qa159, qb159, tq159⟩ := q159
                                    have tk159 : Lw D s.heap H159 a0 := tk149.trans tq159
                                    have ts159 := fq149.keep S149.1 gtp K159 (by decide +kernel)
                                    refine lv_aload_n hx hb dX4_readSum_198 rfl (lv_at hl 1 rfl) ?_
                                    refine q_grS (T := TX4) C S159.1 ga0 0 kF_X4_39 dX4_readSum_199 rfl rfl (by decide) rfl (by decide) kSF_X4_tape (fun g160 => ?_)
                                    rw [show fR D H159 4 a0 0 = tp from (S159.2.1.fR ga0 rfl (by decide) (by decide +kernel)).trans htp]
                                    refine lv_bipush (v := 43) hx hb dX4_readSum_202 (by decide) ?_
                                    have k_43 : (43 : Int32).toInt = 43 := by decide
                                    refine callV_Pi C S159.1 S159.2.1.2.1 (c_X9_isSign_f l D G tp (43 : Int32) 43 T (nx T b_2) gtp (by omega) (by decide)) kV_X4_84 gtp (⟨trivial, ts159⟩) dX4_readSum_204 hl.1 rfl rfl (by decide) cd_X9_isSign ⟨Nat.le_of_ble_eq_true rfl, Nat.le_of_ble_eq_true rfl, Nat.le_of_ble_eq_true rfl, Nat.le_of_ble_eq_true rfl, Nat.le_of_ble_eq_true rfl⟩ (fun v161 q161 => ?_)
                                    obtain ⟨q161, fq161⟩ := q161
                                    rcases fq161 with ⟨z161, y161⟩ | ⟨z161, y161⟩
                                    · skip
                                      refine lv_if_ne (tgt := 212) hx hb dX4_readSum_207 (by decide) (fun c162 => ?_) (fun c162 => ?_)
                                      · have b162 : ¬ v161.toInt = (0 : Int32).toInt := fun z9 => c162 (i_eq.mpr z9)
                                        refine lv_aload_n hx hb dX4_readSum_212 rfl (lv_at hl 1 rfl) ?_
                                        refine q_grS (T := TX4) C S159.1 ga0 0 kF_X4_39 dX4_readSum_213 rfl rfl (by decide) rfl (by decide) kSF_X4_tape (fun g163 => ?_)
                                        rw [show fR D H159 4 a0 0 = tp from (S159.2.1.fR ga0 rfl (by decide) (by decide +kernel)).trans htp]
                                        refine callV_Ev C S159 (c_X9_next_f l D G tp T (nx T b_2) gtp) kV_X4_47 gtp (⟨trivial, ts159⟩) (by decide +kernel) dX4_readSum_216 hl.1 rfl rfl (by decide) cd_X9_next ⟨Nat.le_of_ble_eq_true rfl, Nat.le_of_ble_eq_true rfl, Nat.le_of_ble_eq_true rfl, Nat.le_of_ble_eq_true rfl, Nat.le_of_ble_eq_true rfl⟩ (fun H164 L164 S164 K164 q164 => ?_)
                                        obtain ⟨q164, fq164⟩ := q164
                                        have tk164 : Lw D s.heap H164 a0 := tk159.trans (Lw.keep S159.1 ga0 K164 (by decide +kernel) (by decide +kernel) (by decide +kernel))
                                        obtain ⟨v165, ev165⟩ : ∃ y : Int32, y = x1_2 + (1) := ⟨_, rfl⟩
                                        have k_1 : (1 : Int32).toInt = 1 := by decide
                                        have f166 : v165.toInt = x1_2.toInt + (1) := by rw [ev165]; exact i_addc k_1 (by omega) (by omega)
                                        refine lv_iinc (v := v165) (lv' := [(1, .int v165), (0, .ref a0)]) hx hb dX4_readSum_219 hl (k := 0) rfl (by rw [ev165]; rfl) (by decide) rfl (fun ls hl => ?_)
                                        refine lv_goto (tgt := 2) hx hb dX4_readSum_222 (by decide) ?_
                                        exact ih2 v165 (nx T (nx T b_2)) H164 L164 ls S164 (by omega) fq164 (by rw [u2_1]; exact sumR_st (by omega) hp147 y161) tk164 (by omega) (lv_sub hl [0, 1] rfl)
                                      · have b162 : v161.toInt = (0 : Int32).toInt := i_eq.mp c162
                                        exact absurd b162 (by omega)
                                    · skip
                                      refine lv_if_ne (tgt := 212) hx hb dX4_readSum_207 (by decide) (fun c167 => ?_) (fun c167 => ?_)
                                      · have b167 : ¬ v161.toInt = (0 : Int32).toInt := fun z9 => c167 (i_eq.mpr z9)
                                        exact absurd b167 (by omega)
                                      · have b167 : v161.toInt = (0 : Int32).toInt := i_eq.mp c167
                                        refine lv_iconst (v := 1) hx hb dX4_readSum_210 (by decide) ?_
                                        have k_1 : (1 : Int32).toInt = 1 := by decide
                                        exact retE_z hQ C S159 hr dX4_readSum_211 (z01 (by omega) (by omega)) (⟨⟨by omega, tk159⟩, Rs.ok (by rw [u2_1]; exact sumR_ok (by omega) hp147 y161) (by omega) ts159⟩)
                              · skip
                                refine lv_if_eq (tgt := 173) hx hb dX4_readSum_161 (by decide) (fun c168 => ?_) (fun c168 => ?_)
                                · have b168 : v144.toInt = (0 : Int32).toInt := i_eq.mp c168
                                  refine lv_aload_n hx hb dX4_readSum_173 rfl (lv_at hl 1 rfl) ?_
                                  refine q_grS (T := TX4) C S_2.1 ga0 0 kF_X4_39 dX4_readSum_174 rfl rfl (by decide) rfl (by decide) kSF_X4_tape (fun g169 => ?_)
                                  rw [show fR D H_2 4 a0 0 = tp from (S_2.2.1.fR ga0 rfl (by decide) (by decide +kernel)).trans htp]
                                  refine callV_Ei C S_2 (c_X9_refuse_f l D G tp T b_2 gtp) kV_X4_43 gtp (⟨trivial, u2_0⟩) (by decide +kernel) dX4_readSum_177 hl.1 rfl rfl (by decide) cd_X9_refuse ⟨Nat.le_of_ble_eq_true rfl, Nat.le_of_ble_eq_true rfl, Nat.le_of_ble_eq_true rfl, Nat.le_of_ble_eq_true rfl, Nat.le_of_ble_eq_true rfl⟩ (fun v170 H170 L170 S170 K170 q170 => ?_)
                                  obtain ⟨q170, fq170⟩ := q170
                                  have tk170 : Lw D s.heap H170 a0 := u2_2.trans (Lw.keep S_2.1 ga0 K170 (by decide +kernel) (by decide +kernel) (by decide +kernel))
                                  have z170 := fq170.1
                                  exact retE_z hQ C S170 hr dX4_readSum_180 (z01 (by omega) (by omega)) (⟨⟨by omega, tk170⟩, Rs.no (by rw [u2_1]; exact sumR_no (by omega) (by simp [prt, hn6, y9, y36, y63, y90, y117, y144])) (by omega) fq170.2⟩)
                                · have b168 : ¬ v144.toInt = (0 : Int32).toInt := fun z9 => c168 (i_eq.mpr z9)
                                  exact absurd b168 (by omega)
                            · have b141 : ¬ v117.toInt = (0 : Int32).toInt := fun z9 => c141 (i_eq.mpr z9)
                              exact absurd b141 (by omega)
                        · have b114 : ¬ v90.toInt = (0 : Int32).toInt := fun z9 => c114 (i_eq.mpr z9)
                          exact absurd b114 (by omega)
                    · have b87 : ¬ v63.toInt = (0 : Int32).toInt := fun z9 => c87 (i_eq.mpr z9)
                      exact absurd b87 (by omega)
                · have b60 : ¬ v36.toInt = (0 : Int32).toInt := fun z9 => c60 (i_eq.mpr z9)
                  exact absurd b60 (by omega)
            · have b33 : ¬ v9.toInt = (0 : Int32).toInt := fun z9 => c33 (i_eq.mpr z9)
              exact absurd b33 (by omega)
        · have b5 : (fI D H_2 9 tp 3).toInt = (2 : Int32).toInt := i_eq.mp c5
          refine lv_aload_n hx hb dX4_readSum_20 rfl (lv_at hl 1 rfl) ?_
          refine q_grS (T := TX4) C S_2.1 ga0 0 kF_X4_39 dX4_readSum_21 rfl rfl (by decide) rfl (by decide) kSF_X4_tape (fun g171 => ?_)
          rw [show fR D H_2 4 a0 0 = tp from (S_2.2.1.fR ga0 rfl (by decide) (by decide +kernel)).trans htp]
          refine q_gi (T := TX9) C S_2.1 gtp 6 kF_X4_113 dX4_readSum_24 rfl rfl (by decide) rfl (by decide) rfl ?_
          refine lv_sipush (v := 999) hx hb dX4_readSum_27 (by decide) ?_
          have k_999 : (999 : Int32).toInt = 999 := by decide
          refine lv_icmp_gt (tgt := 47) hx hb dX4_readSum_30 (by decide) (fun c172 => ?_) (fun c172 => ?_)
          · have b172 : (999 : Int32).toInt < (fI D H_2 9 tp 6).toInt := i_lt.mp c172
            have hn173 : ¬ (kd T b_2 = 2 ∧ nv T b_2 ≤ 999) := by intro z7; have z9 := u2_0.2.1; have z8 := u2_0.2.2.2.1 z7.1; omega
            refine lv_aload_n hx hb dX4_readSum_47 rfl (lv_at hl 1 rfl) ?_
            refine q_grS (T := TX4) C S_2.1 ga0 0 kF_X4_39 dX4_readSum_48 rfl rfl (by decide) rfl (by decide) kSF_X4_tape (fun g174 => ?_)
            rw [show fR D H_2 4 a0 0 = tp from (S_2.2.1.fR ga0 rfl (by decide) (by decide +kernel)).trans htp]
            refine q_lds C ks_X4_116 dX4_readSum_51 (fun a175 ha175 wa175 => ?_)
            refine callV_Pi C S_2.1 S_2.2.1.2.1 (c_X9_isWord_f l D G tp a175 5 w_house T b_2 gtp ha175 (Wc.of wa175 kw_house)) kV_X4_61 gtp (⟨trivial, u2_0⟩) dX4_readSum_53 hl.1 rfl rfl (by decide) cd_X9_isWord ⟨Nat.le_of_ble_eq_true rfl, Nat.le_of_ble_eq_true rfl, Nat.le_of_ble_eq_true rfl, Nat.le_of_ble_eq_true rfl, Nat.le_of_ble_eq_true rfl⟩ (fun v176 q176 => ?_)
            obtain ⟨q176, fq176⟩ := q176
            rcases fq176 with ⟨z176, y176⟩ | ⟨z176, y176⟩
            · skip
              have k_0 : (0 : Int32).toInt = 0 := by decide
              refine lv_if_eq (tgt := 68) hx hb dX4_readSum_56 (by decide) (fun c177 => ?_) (fun c177 => ?_)
              · have b177 : v176.toInt = (0 : Int32).toInt := i_eq.mp c177
                exact absurd b177 (by omega)
              · have b177 : ¬ v176.toInt = (0 : Int32).toInt := fun z9 => c177 (i_eq.mpr z9)
                refine lv_aload_n hx hb dX4_readSum_59 rfl (lv_at hl 1 rfl) ?_
                refine lv_bipush (v := -7) hx hb dX4_readSum_60 (by decide) ?_
                have k_m7 : (-7 : Int32).toInt = -7 := by decide
                refine callV_Ev C S_2 (c_X4_put l D G a0 (-7 : Int32) ga0) kV_X4_55 ga0 (trivial) (by decide +kernel) dX4_readSum_62 hl.1 rfl rfl (by decide) cd_X4_put ⟨Nat.le_of_ble_eq_true rfl, Nat.le_of_ble_eq_true rfl, Nat.le_of_ble_eq_true rfl, Nat.le_of_ble_eq_true rfl, Nat.le_of_ble_eq_true rfl⟩ (fun H178 L178 S178 K178 q178 => ?_)
                obtain ⟨qa178, qb178, tq178⟩ := q178
                have tk178 : Lw D s.heap H178 a0 := u2_2.trans tq178
                have ts178 := u2_0.keep S_2.1 gtp K178 (by decide +kernel)
                refine lv_goto (tgt := 181) hx hb dX4_readSum_65 (by decide) ?_
                have hp179 : prt T b_2 = true := by simp [prt, hn173, y176]
                refine lv_aload_n hx hb dX4_readSum_181 rfl (lv_at hl 1 rfl) ?_
                refine q_grS (T := TX4) C S178.1 ga0 0 kF_X4_39 dX4_readSum_182 rfl rfl (by decide) rfl (by decide) kSF_X4_tape (fun g180 => ?_)
                rw [show fR D H178 4 a0 0 = tp from (S178.2.1.fR ga0 rfl (by decide) (by decide +kernel)).trans htp]
                refine callV_Ev C S178 (c_X9_next_f l D G tp T b_2 gtp) kV_X4_47 gtp (⟨trivial, ts178⟩) (by decide +kernel) dX4_readSum_185 hl.1 rfl rfl (by decide) cd_X9_next ⟨Nat.le_of_ble_eq_true rfl, Nat.le_of_ble_eq_true rfl, Nat.le_of_ble_eq_true rfl, Nat.le_of_ble_eq_true rfl, Nat.le_of_ble_eq_true rfl⟩ (fun H181 L181 S181 K181 q181 => ?_)
                obtain ⟨q181, fq181⟩ := q181
                have tk181 : Lw D s.heap H181 a0 := tk178.trans (Lw.keep S178.1 ga0 K181 (by decide +kernel) (by decide +kernel) (by decide +kernel))
                refine lv_iload_n hx hb dX4_readSum_188 rfl (lv_at hl 0 rfl) ?_
                refine lv_if_le (tgt := 198) hx hb dX4_readSum_189 (by decide) (fun c182 => ?_) (fun c182 => ?_)
                · have b182 : x1_2.toInt ≤ (0 : Int32).toInt := i_le.mp c182
                  refine lv_aload_n hx hb dX4_readSum_198 rfl (lv_at hl 1 rfl) ?_
                  refine q_grS (T := TX4) C S181.1 ga0 0 kF_X4_39 dX4_readSum_199 rfl rfl (by decide) rfl (by decide) kSF_X4_tape (fun g183 => ?_)
                  rw [show fR D H181 4 a0 0 = tp from (S181.2.1.fR ga0 rfl (by decide) (by decide +kernel)).trans htp]
                  refine lv_bipush (v := 43) hx hb dX4_readSum_202 (by decide) ?_
                  have k_43 : (43 : Int32).toInt = 43 := by decide
                  refine callV_Pi C S181.1 S181.2.1.2.1 (c_X9_isSign_f l D G tp (43 : Int32) 43 T (nx T b_2) gtp (by omega) (by decide)) kV_X4_84 gtp (⟨trivial, fq181⟩) dX4_readSum_204 hl.1 rfl rfl (by decide) cd_X9_isSign ⟨Nat.le_of_ble_eq_true rfl, Nat.le_of_ble_eq_true rfl, Nat.le_of_ble_eq_true rfl, Nat.le_of_ble_eq_true rfl, Nat.le_of_ble_eq_true rfl⟩ (fun v184 q184 => ?_)
                  obtain ⟨q184, fq184⟩ := q184
                  rcases fq184 with ⟨z184, y184⟩ | ⟨z184, y184⟩
                  · skip
                    refine lv_if_ne (tgt := 212) hx hb dX4_readSum_207 (by decide) (fun c185 => ?_) (fun c185 => ?_)
                    · have b185 : ¬ v184.toInt = (0 : Int32).toInt := fun z9 => c185 (i_eq.mpr z9)
                      refine lv_aload_n hx hb dX4_readSum_212 rfl (lv_at hl 1 rfl) ?_
                      refine q_grS (T := TX4) C S181.1 ga0 0 kF_X4_39 dX4_readSum_213 rfl rfl (by decide) rfl (by decide) kSF_X4_tape (fun g186 => ?_)
                      rw [show fR D H181 4 a0 0 = tp from (S181.2.1.fR ga0 rfl (by decide) (by decide +kernel)).trans htp]
                      refine callV_Ev C S181 (c_X9_next_f l D G tp T (nx T b_2) gtp) kV_X4_47 gtp (⟨trivial, fq181⟩) (by decide +kernel) dX4_readSum_216 hl.1 rfl rfl (by decide) cd_X9_next ⟨Nat.le_of_ble_eq_true rfl, Nat.le_of_ble_eq_true rfl, Nat.le_of_ble_eq_true rfl, Nat.le_of_ble_eq_true rfl, Nat.le_of_ble_eq_true rfl⟩ (fun H187 L187 S187 K187 q187 => ?_)
                      obtain ⟨q187, fq187⟩ := q187
                      have tk187 : Lw D s.heap H187 a0 := tk181.trans (Lw.keep S181.1 ga0 K187 (by decide +kernel) (by decide +kernel) (by decide +kernel))
                      obtain ⟨v188, ev188⟩ : ∃ y : Int32, y = x1_2 + (1) := ⟨_, rfl⟩
                      have k_1 : (1 : Int32).toInt = 1 := by decide
                      have f189 : v188.toInt = x1_2.toInt + (1) := by rw [ev188]; exact i_addc k_1 (by omega) (by omega)
                      refine lv_iinc (v := v188) (lv' := [(1, .int v188), (0, .ref a0)]) hx hb dX4_readSum_219 hl (k := 0) rfl (by rw [ev188]; rfl) (by decide) rfl (fun ls hl => ?_)
                      refine lv_goto (tgt := 2) hx hb dX4_readSum_222 (by decide) ?_
                      exact ih2 v188 (nx T (nx T b_2)) H187 L187 ls S187 (by omega) fq187 (by rw [u2_1]; exact sumR_st (by omega) hp179 y184) tk187 (by omega) (lv_sub hl [0, 1] rfl)
                    · have b185 : v184.toInt = (0 : Int32).toInt := i_eq.mp c185
                      exact absurd b185 (by omega)
                  · skip
                    refine lv_if_ne (tgt := 212) hx hb dX4_readSum_207 (by decide) (fun c190 => ?_) (fun c190 => ?_)
                    · have b190 : ¬ v184.toInt = (0 : Int32).toInt := fun z9 => c190 (i_eq.mpr z9)
                      exact absurd b190 (by omega)
                    · have b190 : v184.toInt = (0 : Int32).toInt := i_eq.mp c190
                      refine lv_iconst (v := 1) hx hb dX4_readSum_210 (by decide) ?_
                      have k_1 : (1 : Int32).toInt = 1 := by decide
                      exact retE_z hQ C S181 hr dX4_readSum_211 (z01 (by omega) (by omega)) (⟨⟨by omega, tk181⟩, Rs.ok (by rw [u2_1]; exact sumR_ok (by omega) hp179 y184) (by omega) fq181⟩)
                · have b182 : ¬ x1_2.toInt ≤ (0 : Int32).toInt := fun z9 => c182 (i_le.mpr z9)
                  refine lv_aload_n hx hb dX4_readSum_192 rfl (lv_at hl 1 rfl) ?_
                  refine lv_bipush (v := -14) hx hb dX4_readSum_193 (by decide) ?_
                  have k_m14 : (-14 : Int32).toInt = -14 := by decide
                  refine callV_Ev C S181 (c_X4_put l D G a0 (-14 : Int32) ga0) kV_X4_55 ga0 (trivial) (by decide +kernel) dX4_readSum_195 hl.1 rfl rfl (by decide) cd_X4_put ⟨Nat.le_of_ble_eq_true rfl, Nat.le_of_ble_eq_true rfl, Nat.le_of_ble_eq_true rfl, Nat.le_of_ble_eq_true rfl, Nat.le_of_ble_eq_true rfl⟩ (fun H191 L191 S191 K191 q191 => ?_)
                  obtain ⟨qa191, qb191, tq191⟩ := q191
                  have tk191 : Lw D s.heap H191 a0 := tk181.trans tq191
                  have ts191 := fq181.keep S181.1 gtp K191 (by decide +kernel)
                  refine lv_aload_n hx hb dX4_readSum_198 rfl (lv_at hl 1 rfl) ?_
                  refine q_grS (T := TX4) C S191.1 ga0 0 kF_X4_39 dX4_readSum_199 rfl rfl (by decide) rfl (by decide) kSF_X4_tape (fun g192 => ?_)
                  rw [show fR D H191 4 a0 0 = tp from (S191.2.1.fR ga0 rfl (by decide) (by decide +kernel)).trans htp]
                  refine lv_bipush (v := 43) hx hb dX4_readSum_202 (by decide) ?_
                  have k_43 : (43 : Int32).toInt = 43 := by decide
                  refine callV_Pi C S191.1 S191.2.1.2.1 (c_X9_isSign_f l D G tp (43 : Int32) 43 T (nx T b_2) gtp (by omega) (by decide)) kV_X4_84 gtp (⟨trivial, ts191⟩) dX4_readSum_204 hl.1 rfl rfl (by decide) cd_X9_isSign ⟨Nat.le_of_ble_eq_true rfl, Nat.le_of_ble_eq_true rfl, Nat.le_of_ble_eq_true rfl, Nat.le_of_ble_eq_true rfl, Nat.le_of_ble_eq_true rfl⟩ (fun v193 q193 => ?_)
                  obtain ⟨q193, fq193⟩ := q193
                  rcases fq193 with ⟨z193, y193⟩ | ⟨z193, y193⟩
                  · skip
                    refine lv_if_ne (tgt := 212) hx hb dX4_readSum_207 (by decide) (fun c194 => ?_) (fun c194 => ?_)
                    · have b194 : ¬ v193.toInt = (0 : Int32).toInt := fun z9 => c194 (i_eq.mpr z9)
                      refine lv_aload_n hx hb dX4_readSum_212 rfl (lv_at hl 1 rfl) ?_
                      refine q_grS (T := TX4) C S191.1 ga0 0 kF_X4_39 dX4_readSum_213 rfl rfl (by decide) rfl (by decide) kSF_X4_tape (fun g195 => ?_)
                      rw [show fR D H191 4 a0 0 = tp from (S191.2.1.fR ga0 rfl (by decide) (by decide +kernel)).trans htp]
                      refine callV_Ev C S191 (c_X9_next_f l D G tp T (nx T b_2) gtp) kV_X4_47 gtp (⟨trivial, ts191⟩) (by decide +kernel) dX4_readSum_216 hl.1 rfl rfl (by decide) cd_X9_next ⟨Nat.le_of_ble_eq_true rfl, Nat.le_of_ble_eq_true rfl, Nat.le_of_ble_eq_true rfl, Nat.le_of_ble_eq_true rfl, Nat.le_of_ble_eq_true rfl⟩ (fun H196 L196 S196 K196 q196 => ?_)
                      obtain ⟨q196, fq196⟩ := q196
                      have tk196 : Lw D s.heap H196 a0 := tk191.trans (Lw.keep S191.1 ga0 K196 (by decide +kernel) (by decide +kernel) (by decide +kernel))
                      obtain ⟨v197, ev197⟩ : ∃ y : Int32, y = x1_2 + (1) := ⟨_, rfl⟩
                      have k_1 : (1 : Int32).toInt = 1 := by decide
                      have f198 : v197.toInt = x1_2.toInt + (1) := by rw [ev197]; exact i_addc k_1 (by omega) (by omega)
                      refine lv_iinc (v := v197) (lv' := [(1, .int v197), (0, .ref a0)]) hx hb dX4_readSum_219 hl (k := 0) rfl (by rw [ev197]; rfl) (by decide) rfl (fun ls hl => ?_)
                      refine lv_goto (tgt := 2) hx hb dX4_readSum_222 (by decide) ?_
                      exact ih2 v197 (nx T (nx T b_2)) H196 L196 ls S196 (by omega) fq196 (by rw [u2_1]; exact sumR_st (by omega) hp179 y193) tk196 (by omega) (lv_sub hl [0, 1] rfl)
                    · have b194 : v193.toInt = (0 : Int32).toInt := i_eq.mp c194
                      exact absurd b194 (by omega)
                  · skip
                    refine lv_if_ne (tgt := 212) hx hb dX4_readSum_207 (by decide) (fun c199 => ?_) (fun c199 => ?_)
                    · have b199 : ¬ v193.toInt = (0 : Int32).toInt := fun z9 => c199 (i_eq.mpr z9)
                      exact absurd b199 (by omega)
                    · have b199 : v193.toInt = (0 : Int32).toInt := i_eq.mp c199
                      refine lv_iconst (v := 1) hx hb dX4_readSum_210 (by decide) ?_
                      have k_1 : (1 : Int32).toInt = 1 := by decide
                      exact retE_z hQ C S191 hr dX4_readSum_211 (z01 (by omega) (by omega)) (⟨⟨by omega, tk191⟩, Rs.ok (by rw [u2_1]; exact sumR_ok (by omega) hp179 y193) (by omega) ts191⟩)
            · skip
              have k_0 : (0 : Int32).toInt = 0 := by decide
              refine lv_if_eq (tgt := 68) hx hb dX4_readSum_56 (by decide) (fun c200 => ?_) (fun c200 => ?_)
              · have b200 : v176.toInt = (0 : Int32).toInt := i_eq.mp c200
                refine lv_aload_n hx hb dX4_readSum_68 rfl (lv_at hl 1 rfl) ?_
                refine q_grS (T := TX4) C S_2.1 ga0 0 kF_X4_39 dX4_readSum_69 rfl rfl (by decide) rfl (by decide) kSF_X4_tape (fun g201 => ?_)
                rw [show fR D H_2 4 a0 0 = tp from (S_2.2.1.fR ga0 rfl (by decide) (by decide +kernel)).trans htp]
                refine q_lds C ks_X4_118 dX4_readSum_72 (fun a202 ha202 wa202 => ?_)
                refine callV_Pi C S_2.1 S_2.2.1.2.1 (c_X9_isWord_f l D G tp a202 4 w_flue T b_2 gtp ha202 (Wc.of wa202 kw_flue)) kV_X4_61 gtp (⟨trivial, u2_0⟩) dX4_readSum_74 hl.1 rfl rfl (by decide) cd_X9_isWord ⟨Nat.le_of_ble_eq_true rfl, Nat.le_of_ble_eq_true rfl, Nat.le_of_ble_eq_true rfl, Nat.le_of_ble_eq_true rfl, Nat.le_of_ble_eq_true rfl⟩ (fun v203 q203 => ?_)
                obtain ⟨q203, fq203⟩ := q203
                rcases fq203 with ⟨z203, y203⟩ | ⟨z203, y203⟩
                · skip
                  refine lv_if_eq (tgt := 89) hx hb dX4_readSum_77 (by decide) (fun c204 => ?_) (fun c204 => ?_)
                  · have b204 : v203.toInt = (0 : Int32).toInt := i_eq.mp c204
                    exact absurd b204 (by omega)
                  · have b204 : ¬ v203.toInt = (0 : Int32).toInt := fun z9 => c204 (i_eq.mpr z9)
                    refine lv_aload_n hx hb dX4_readSum_80 rfl (lv_at hl 1 rfl) ?_
                    refine lv_bipush (v := -8) hx hb dX4_readSum_81 (by decide) ?_
                    have k_m8 : (-8 : Int32).toInt = -8 := by decide
                    refine callV_Ev C S_2 (c_X4_put l D G a0 (-8 : Int32) ga0) kV_X4_55 ga0 (trivial) (by decide +kernel) dX4_readSum_83 hl.1 rfl rfl (by decide) cd_X4_put ⟨Nat.le_of_ble_eq_true rfl, Nat.le_of_ble_eq_true rfl, Nat.le_of_ble_eq_true rfl, Nat.le_of_ble_eq_true rfl, Nat.le_of_ble_eq_true rfl⟩ (fun H205 L205 S205 K205 q205 => ?_)
                    obtain ⟨qa205, qb205, tq205⟩ := q205
                    have tk205 : Lw D s.heap H205 a0 := u2_2.trans tq205
                    have ts205 := u2_0.keep S_2.1 gtp K205 (by decide +kernel)
                    refine lv_goto (tgt := 181) hx hb dX4_readSum_86 (by decide) ?_
                    have hp206 : prt T b_2 = true := by simp [prt, hn173, y176, y203]
                    refine lv_aload_n hx hb dX4_readSum_181 rfl (lv_at hl 1 rfl) ?_
                    refine q_grS (T := TX4) C S205.1 ga0 0 kF_X4_39 dX4_readSum_182 rfl rfl (by decide) rfl (by decide) kSF_X4_tape (fun g207 => ?_)
                    rw [show fR D H205 4 a0 0 = tp from (S205.2.1.fR ga0 rfl (by decide) (by decide +kernel)).trans htp]
                    refine callV_Ev C S205 (c_X9_next_f l D G tp T b_2 gtp) kV_X4_47 gtp (⟨trivial, ts205⟩) (by decide +kernel) dX4_readSum_185 hl.1 rfl rfl (by decide) cd_X9_next ⟨Nat.le_of_ble_eq_true rfl, Nat.le_of_ble_eq_true rfl, Nat.le_of_ble_eq_true rfl, Nat.le_of_ble_eq_true rfl, Nat.le_of_ble_eq_true rfl⟩ (fun H208 L208 S208 K208 q208 => ?_)
                    obtain ⟨q208, fq208⟩ := q208
                    have tk208 : Lw D s.heap H208 a0 := tk205.trans (Lw.keep S205.1 ga0 K208 (by decide +kernel) (by decide +kernel) (by decide +kernel))
                    refine lv_iload_n hx hb dX4_readSum_188 rfl (lv_at hl 0 rfl) ?_
                    refine lv_if_le (tgt := 198) hx hb dX4_readSum_189 (by decide) (fun c209 => ?_) (fun c209 => ?_)
                    · have b209 : x1_2.toInt ≤ (0 : Int32).toInt := i_le.mp c209
                      refine lv_aload_n hx hb dX4_readSum_198 rfl (lv_at hl 1 rfl) ?_
                      refine q_grS (T := TX4) C S208.1 ga0 0 kF_X4_39 dX4_readSum_199 rfl rfl (by decide) rfl (by decide) kSF_X4_tape (fun g210 => ?_)
                      rw [show fR D H208 4 a0 0 = tp from (S208.2.1.fR ga0 rfl (by decide) (by decide +kernel)).trans htp]
                      refine lv_bipush (v := 43) hx hb dX4_readSum_202 (by decide) ?_
                      have k_43 : (43 : Int32).toInt = 43 := by decide
                      refine callV_Pi C S208.1 S208.2.1.2.1 (c_X9_isSign_f l D G tp (43 : Int32) 43 T (nx T b_2) gtp (by omega) (by decide)) kV_X4_84 gtp (⟨trivial, fq208⟩) dX4_readSum_204 hl.1 rfl rfl (by decide) cd_X9_isSign ⟨Nat.le_of_ble_eq_true rfl, Nat.le_of_ble_eq_true rfl, Nat.le_of_ble_eq_true rfl, Nat.le_of_ble_eq_true rfl, Nat.le_of_ble_eq_true rfl⟩ (fun v211 q211 => ?_)
                      obtain ⟨q211, fq211⟩ := q211
                      rcases fq211 with ⟨z211, y211⟩ | ⟨z211, y211⟩
                      · skip
                        refine lv_if_ne (tgt := 212) hx hb dX4_readSum_207 (by decide) (fun c212 => ?_) (fun c212 => ?_)
                        · have b212 : ¬ v211.toInt = (0 : Int32).toInt := fun z9 => c212 (i_eq.mpr z9)
                          refine lv_aload_n hx hb dX4_readSum_212 rfl (lv_at hl 1 rfl) ?_
                          refine q_grS (T := TX4) C S208.1 ga0 0 kF_X4_39 dX4_readSum_213 rfl rfl (by decide) rfl (by decide) kSF_X4_tape (fun g213 => ?_)
                          rw [show fR D H208 4 a0 0 = tp from (S208.2.1.fR ga0 rfl (by decide) (by decide +kernel)).trans htp]
                          refine callV_Ev C S208 (c_X9_next_f l D G tp T (nx T b_2) gtp) kV_X4_47 gtp (⟨trivial, fq208⟩) (by decide +kernel) dX4_readSum_216 hl.1 rfl rfl (by decide) cd_X9_next ⟨Nat.le_of_ble_eq_true rfl, Nat.le_of_ble_eq_true rfl, Nat.le_of_ble_eq_true rfl, Nat.le_of_ble_eq_true rfl, Nat.le_of_ble_eq_true rfl⟩ (fun H214 L214 S214 K214 q214 => ?_)
                          obtain ⟨q214, fq214⟩ := q214
                          have tk214 : Lw D s.heap H214 a0 := tk208.trans (Lw.keep S208.1 ga0 K214 (by decide +kernel) (by decide +kernel) (by decide +kernel))
                          obtain ⟨v215, ev215⟩ : ∃ y : Int32, y = x1_2 + (1) := ⟨_, rfl⟩
                          have k_1 : (1 : Int32).toInt = 1 := by decide
                          have f216 : v215.toInt = x1_2.toInt + (1) := by rw [ev215]; exact i_addc k_1 (by omega) (by omega)
                          refine lv_iinc (v := v215) (lv' := [(1, .int v215), (0, .ref a0)]) hx hb dX4_readSum_219 hl (k := 0) rfl (by rw [ev215]; rfl) (by decide) rfl (fun ls hl => ?_)
                          refine lv_goto (tgt := 2) hx hb dX4_readSum_222 (by decide) ?_
                          exact ih2 v215 (nx T (nx T b_2)) H214 L214 ls S214 (by omega) fq214 (by rw [u2_1]; exact sumR_st (by omega) hp206 y211) tk214 (by omega) (lv_sub hl [0, 1] rfl)
                        · have b212 : v211.toInt = (0 : Int32).toInt := i_eq.mp c212
                          exact absurd b212 (by omega)
                      · skip
                        refine lv_if_ne (tgt := 212) hx hb dX4_readSum_207 (by decide) (fun c217 => ?_) (fun c217 => ?_)
                        · have b217 : ¬ v211.toInt = (0 : Int32).toInt := fun z9 => c217 (i_eq.mpr z9)
                          exact absurd b217 (by omega)
                        · have b217 : v211.toInt = (0 : Int32).toInt := i_eq.mp c217
                          refine lv_iconst (v := 1) hx hb dX4_readSum_210 (by decide) ?_
                          have k_1 : (1 : Int32).toInt = 1 := by decide
                          exact retE_z hQ C S208 hr dX4_readSum_211 (z01 (by omega) (by omega)) (⟨⟨by omega, tk208⟩, Rs.ok (by rw [u2_1]; exact sumR_ok (by omega) hp206 y211) (by omega) fq208⟩)
                    · have b209 : ¬ x1_2.toInt ≤ (0 : Int32).toInt := fun z9 => c209 (i_le.mpr z9)
                      refine lv_aload_n hx hb dX4_readSum_192 rfl (lv_at hl 1 rfl) ?_
                      refine lv_bipush (v := -14) hx hb dX4_readSum_193 (by decide) ?_
                      have k_m14 : (-14 : Int32).toInt = -14 := by decide
                      refine callV_Ev C S208 (c_X4_put l D G a0 (-14 : Int32) ga0) kV_X4_55 ga0 (trivial) (by decide +kernel) dX4_readSum_195 hl.1 rfl rfl (by decide) cd_X4_put ⟨Nat.le_of_ble_eq_true rfl, Nat.le_of_ble_eq_true rfl, Nat.le_of_ble_eq_true rfl, Nat.le_of_ble_eq_true rfl, Nat.le_of_ble_eq_true rfl⟩ (fun H218 L218 S218 K218 q218 => ?_)
                      obtain ⟨qa218, qb218, tq218⟩ := q218
                      have tk218 : Lw D s.heap H218 a0 := tk208.trans tq218
                      have ts218 := fq208.keep S208.1 gtp K218 (by decide +kernel)
                      refine lv_aload_n hx hb dX4_readSum_198 rfl (lv_at hl 1 rfl) ?_
                      refine q_grS (T := TX4) C S218.1 ga0 0 kF_X4_39 dX4_readSum_199 rfl rfl (by decide) rfl (by decide) kSF_X4_tape (fun g219 => ?_)
                      rw [show fR D H218 4 a0 0 = tp from (S218.2.1.fR ga0 rfl (by decide) (by decide +kernel)).trans htp]
                      refine lv_bipush (v := 43) hx hb dX4_readSum_202 (by decide) ?_
                      have k_43 : (43 : Int32).toInt = 43 := by decide
                      refine callV_Pi C S218.1 S218.2.1.2.1 (c_X9_isSign_f l D G tp (43 : Int32) 43 T (nx T b_2) gtp (by omega) (by decide)) kV_X4_84 gtp (⟨trivial, ts218⟩) dX4_readSum_204 hl.1 rfl rfl (by decide) cd_X9_isSign ⟨Nat.le_of_ble_eq_true rfl, Nat.le_of_ble_eq_true rfl, Nat.le_of_ble_eq_true rfl, Nat.le_of_ble_eq_true rfl, Nat.le_of_ble_eq_true rfl⟩ (fun v220 q220 => ?_)
                      obtain ⟨q220, fq220⟩ := q220
                      rcases fq220 with ⟨z220, y220⟩ | ⟨z220, y220⟩
                      · skip
                        refine lv_if_ne (tgt := 212) hx hb dX4_readSum_207 (by decide) (fun c221 => ?_) (fun c221 => ?_)
                        · have b221 : ¬ v220.toInt = (0 : Int32).toInt := fun z9 => c221 (i_eq.mpr z9)
                          refine lv_aload_n hx hb dX4_readSum_212 rfl (lv_at hl 1 rfl) ?_
                          refine q_grS (T := TX4) C S218.1 ga0 0 kF_X4_39 dX4_readSum_213 rfl rfl (by decide) rfl (by decide) kSF_X4_tape (fun g222 => ?_)
                          rw [show fR D H218 4 a0 0 = tp from (S218.2.1.fR ga0 rfl (by decide) (by decide +kernel)).trans htp]
                          refine callV_Ev C S218 (c_X9_next_f l D G tp T (nx T b_2) gtp) kV_X4_47 gtp (⟨trivial, ts218⟩) (by decide +kernel) dX4_readSum_216 hl.1 rfl rfl (by decide) cd_X9_next ⟨Nat.le_of_ble_eq_true rfl, Nat.le_of_ble_eq_true rfl, Nat.le_of_ble_eq_true rfl, Nat.le_of_ble_eq_true rfl, Nat.le_of_ble_eq_true rfl⟩ (fun H223 L223 S223 K223 q223 => ?_)
                          obtain ⟨q223, fq223⟩ := q223
                          have tk223 : Lw D s.heap H223 a0 := tk218.trans (Lw.keep S218.1 ga0 K223 (by decide +kernel) (by decide +kernel) (by decide +kernel))
                          obtain ⟨v224, ev224⟩ : ∃ y : Int32, y = x1_2 + (1) := ⟨_, rfl⟩
                          have k_1 : (1 : Int32).toInt = 1 := by decide
                          have f225 : v224.toInt = x1_2.toInt + (1) := by rw [ev224]; exact i_addc k_1 (by omega) (by omega)
                          refine lv_iinc (v := v224) (lv' := [(1, .int v224), (0, .ref a0)]) hx hb dX4_readSum_219 hl (k := 0) rfl (by rw [ev224]; rfl) (by decide) rfl (fun ls hl => ?_)
                          refine lv_goto (tgt := 2) hx hb dX4_readSum_222 (by decide) ?_
                          exact ih2 v224 (nx T (nx T b_2)) H223 L223 ls S223 (by omega) fq223 (by rw [u2_1]; exact sumR_st (by omega) hp206 y220) tk223 (by omega) (lv_sub hl [0, 1] rfl)
                        · have b221 : v220.toInt = (0 : Int32).toInt := i_eq.mp c221
                          exact absurd b221 (by omega)
                      · skip
                        refine lv_if_ne (tgt := 212) hx hb dX4_readSum_207 (by decide) (fun c226 => ?_) (fun c226 => ?_)
                        · have b226 : ¬ v220.toInt = (0 : Int32).toInt := fun z9 => c226 (i_eq.mpr z9)
                          exact absurd b226 (by omega)
                        · have b226 : v220.toInt = (0 : Int32).toInt := i_eq.mp c226
                          refine lv_iconst (v := 1) hx hb dX4_readSum_210 (by decide) ?_
                          have k_1 : (1 : Int32).toInt = 1 := by decide
                          exact retE_z hQ C S218 hr dX4_readSum_211 (z01 (by omega) (by omega)) (⟨⟨by omega, tk218⟩, Rs.ok (by rw [u2_1]; exact sumR_ok (by omega) hp206 y220) (by omega) ts218⟩)
                · skip
                  refine lv_if_eq (tgt := 89) hx hb dX4_readSum_77 (by decide) (fun c227 => ?_) (fun c227 => ?_)
                  · have b227 : v203.toInt = (0 : Int32).toInt := i_eq.mp c227
                    refine lv_aload_n hx hb dX4_readSum_89 rfl (lv_at hl 1 rfl) ?_
                    refine q_grS (T := TX4) C S_2.1 ga0 0 kF_X4_39 dX4_readSum_90 rfl rfl (by decide) rfl (by decide) kSF_X4_tape (fun g228 => ?_)
                    rw [show fR D H_2 4 a0 0 = tp from (S_2.2.1.fR ga0 rfl (by decide) (by decide +kernel)).trans htp]
                    refine q_lds C ks_X4_120 dX4_readSum_93 (fun a229 ha229 wa229 => ?_)
                    refine callV_Pi C S_2.1 S_2.2.1.2.1 (c_X9_isWord_f l D G tp a229 4 w_warm T b_2 gtp ha229 (Wc.of wa229 kw_warm)) kV_X4_61 gtp (⟨trivial, u2_0⟩) dX4_readSum_95 hl.1 rfl rfl (by decide) cd_X9_isWord ⟨Nat.le_of_ble_eq_true rfl, Nat.le_of_ble_eq_true rfl, Nat.le_of_ble_eq_true rfl, Nat.le_of_ble_eq_true rfl, Nat.le_of_ble_eq_true rfl⟩ (fun v230 q230 => ?_)
                    obtain ⟨q230, fq230⟩ := q230
                    rcases fq230 with ⟨z230, y230⟩ | ⟨z230, y230⟩
                    · skip
                      refine lv_if_eq (tgt := 110) hx hb dX4_readSum_98 (by decide) (fun c231 => ?_) (fun c231 => ?_)
                      · have b231 : v230.toInt = (0 : Int32).toInt := i_eq.mp c231
                        exact absurd b231 (by omega)
                      · have b231 : ¬ v230.toInt = (0 : Int32).toInt := fun z9 => c231 (i_eq.mpr z9)
                        refine lv_aload_n hx hb dX4_readSum_101 rfl (lv_at hl 1 rfl) ?_
                        refine lv_bipush (v := -9) hx hb dX4_readSum_102 (by decide) ?_
                        have k_m9 : (-9 : Int32).toInt = -9 := by decide
                        refine callV_Ev C S_2 (c_X4_put l D G a0 (-9 : Int32) ga0) kV_X4_55 ga0 (trivial) (by decide +kernel) dX4_readSum_104 hl.1 rfl rfl (by decide) cd_X4_put ⟨Nat.le_of_ble_eq_true rfl, Nat.le_of_ble_eq_true rfl, Nat.le_of_ble_eq_true rfl, Nat.le_of_ble_eq_true rfl, Nat.le_of_ble_eq_true rfl⟩ (fun H232 L232 S232 K232 q232 => ?_)
                        obtain ⟨qa232, qb232, tq232⟩ := q232
                        have tk232 : Lw D s.heap H232 a0 := u2_2.trans tq232
                        have ts232 := u2_0.keep S_2.1 gtp K232 (by decide +kernel)
                        refine lv_goto (tgt := 181) hx hb dX4_readSum_107 (by decide) ?_
                        have hp233 : prt T b_2 = true := by simp [prt, hn173, y176, y203, y230]
                        refine lv_aload_n hx hb dX4_readSum_181 rfl (lv_at hl 1 rfl) ?_
                        refine q_grS (T := TX4) C S232.1 ga0 0 kF_X4_39 dX4_readSum_182 rfl rfl (by decide) rfl (by decide) kSF_X4_tape (fun g234 => ?_)
                        rw [show fR D H232 4 a0 0 = tp from (S232.2.1.fR ga0 rfl (by decide) (by decide +kernel)).trans htp]
                        refine callV_Ev C S232 (c_X9_next_f l D G tp T b_2 gtp) kV_X4_47 gtp (⟨trivial, ts232⟩) (by decide +kernel) dX4_readSum_185 hl.1 rfl rfl (by decide) cd_X9_next ⟨Nat.le_of_ble_eq_true rfl, Nat.le_of_ble_eq_true rfl, Nat.le_of_ble_eq_true rfl, Nat.le_of_ble_eq_true rfl, Nat.le_of_ble_eq_true rfl⟩ (fun H235 L235 S235 K235 q235 => ?_)
                        obtain ⟨q235, fq235⟩ := q235
                        have tk235 : Lw D s.heap H235 a0 := tk232.trans (Lw.keep S232.1 ga0 K235 (by decide +kernel) (by decide +kernel) (by decide +kernel))
                        refine lv_iload_n hx hb dX4_readSum_188 rfl (lv_at hl 0 rfl) ?_
                        refine lv_if_le (tgt := 198) hx hb dX4_readSum_189 (by decide) (fun c236 => ?_) (fun c236 => ?_)
                        · have b236 : x1_2.toInt ≤ (0 : Int32).toInt := i_le.mp c236
                          refine lv_aload_n hx hb dX4_readSum_198 rfl (lv_at hl 1 rfl) ?_
                          refine q_grS (T := TX4) C S235.1 ga0 0 kF_X4_39 dX4_readSum_199 rfl rfl (by decide) rfl (by decide) kSF_X4_tape (fun g237 => ?_)
                          rw [show fR D H235 4 a0 0 = tp from (S235.2.1.fR ga0 rfl (by decide) (by decide +kernel)).trans htp]
                          refine lv_bipush (v := 43) hx hb dX4_readSum_202 (by decide) ?_
                          have k_43 : (43 : Int32).toInt = 43 := by decide
                          refine callV_Pi C S235.1 S235.2.1.2.1 (c_X9_isSign_f l D G tp (43 : Int32) 43 T (nx T b_2) gtp (by omega) (by decide)) kV_X4_84 gtp (⟨trivial, fq235⟩) dX4_readSum_204 hl.1 rfl rfl (by decide) cd_X9_isSign ⟨Nat.le_of_ble_eq_true rfl, Nat.le_of_ble_eq_true rfl, Nat.le_of_ble_eq_true rfl, Nat.le_of_ble_eq_true rfl, Nat.le_of_ble_eq_true rfl⟩ (fun v238 q238 => ?_)
                          obtain ⟨q238, fq238⟩ := q238
                          rcases fq238 with ⟨z238, y238⟩ | ⟨z238, y238⟩
                          · skip
                            refine lv_if_ne (tgt := 212) hx hb dX4_readSum_207 (by decide) (fun c239 => ?_) (fun c239 => ?_)
                            · have b239 : ¬ v238.toInt = (0 : Int32).toInt := fun z9 => c239 (i_eq.mpr z9)
                              refine lv_aload_n hx hb dX4_readSum_212 rfl (lv_at hl 1 rfl) ?_
                              refine q_grS (T := TX4) C S235.1 ga0 0 kF_X4_39 dX4_readSum_213 rfl rfl (by decide) rfl (by decide) kSF_X4_tape (fun g240 => ?_)
                              rw [show fR D H235 4 a0 0 = tp from (S235.2.1.fR ga0 rfl (by decide) (by decide +kernel)).trans htp]
                              refine callV_Ev C S235 (c_X9_next_f l D G tp T (nx T b_2) gtp) kV_X4_47 gtp (⟨trivial, fq235⟩) (by decide +kernel) dX4_readSum_216 hl.1 rfl rfl (by decide) cd_X9_next ⟨Nat.le_of_ble_eq_true rfl, Nat.le_of_ble_eq_true rfl, Nat.le_of_ble_eq_true rfl, Nat.le_of_ble_eq_true rfl, Nat.le_of_ble_eq_true rfl⟩ (fun H241 L241 S241 K241 q241 => ?_)
                              obtain ⟨q241, fq241⟩ := q241
                              have tk241 : Lw D s.heap H241 a0 := tk235.trans (Lw.keep S235.1 ga0 K241 (by decide +kernel) (by decide +kernel) (by decide +kernel))
                              obtain ⟨v242, ev242⟩ : ∃ y : Int32, y = x1_2 + (1) := ⟨_, rfl⟩
                              have k_1 : (1 : Int32).toInt = 1 := by decide
                              have f243 : v242.toInt = x1_2.toInt + (1) := by rw [ev242]; exact i_addc k_1 (by omega) (by omega)
                              refine lv_iinc (v := v242) (lv' := [(1, .int v242), (0, .ref a0)]) hx hb dX4_readSum_219 hl (k := 0) rfl (by rw [ev242]; rfl) (by decide) rfl (fun ls hl => ?_)
                              refine lv_goto (tgt := 2) hx hb dX4_readSum_222 (by decide) ?_
                              exact ih2 v242 (nx T (nx T b_2)) H241 L241 ls S241 (by omega) fq241 (by rw [u2_1]; exact sumR_st (by omega) hp233 y238) tk241 (by omega) (lv_sub hl [0, 1] rfl)
                            · have b239 : v238.toInt = (0 : Int32).toInt := i_eq.mp c239
                              exact absurd b239 (by omega)
                          · skip
                            refine lv_if_ne (tgt := 212) hx hb dX4_readSum_207 (by decide) (fun c244 => ?_) (fun c244 => ?_)
                            · have b244 : ¬ v238.toInt = (0 : Int32).toInt := fun z9 => c244 (i_eq.mpr z9)
                              exact absurd b244 (by omega)
                            · have b244 : v238.toInt = (0 : Int32).toInt := i_eq.mp c244
                              refine lv_iconst (v := 1) hx hb dX4_readSum_210 (by decide) ?_
                              have k_1 : (1 : Int32).toInt = 1 := by decide
                              exact retE_z hQ C S235 hr dX4_readSum_211 (z01 (by omega) (by omega)) (⟨⟨by omega, tk235⟩, Rs.ok (by rw [u2_1]; exact sumR_ok (by omega) hp233 y238) (by omega) fq235⟩)
                        · have b236 : ¬ x1_2.toInt ≤ (0 : Int32).toInt := fun z9 => c236 (i_le.mpr z9)
                          refine lv_aload_n hx hb dX4_readSum_192 rfl (lv_at hl 1 rfl) ?_
                          refine lv_bipush (v := -14) hx hb dX4_readSum_193 (by decide) ?_
                          have k_m14 : (-14 : Int32).toInt = -14 := by decide
                          refine callV_Ev C S235 (c_X4_put l D G a0 (-14 : Int32) ga0) kV_X4_55 ga0 (trivial) (by decide +kernel) dX4_readSum_195 hl.1 rfl rfl (by decide) cd_X4_put ⟨Nat.le_of_ble_eq_true rfl, Nat.le_of_ble_eq_true rfl, Nat.le_of_ble_eq_true rfl, Nat.le_of_ble_eq_true rfl, Nat.le_of_ble_eq_true rfl⟩ (fun H245 L245 S245 K245 q245 => ?_)
                          obtain ⟨qa245, qb245, tq245⟩ := q245
                          have tk245 : Lw D s.heap H245 a0 := tk235.trans tq245
                          have ts245 := fq235.keep S235.1 gtp K245 (by decide +kernel)
                          refine lv_aload_n hx hb dX4_readSum_198 rfl (lv_at hl 1 rfl) ?_
                          refine q_grS (T := TX4) C S245.1 ga0 0 kF_X4_39 dX4_readSum_199 rfl rfl (by decide) rfl (by decide) kSF_X4_tape (fun g246 => ?_)
                          rw [show fR D H245 4 a0 0 = tp from (S245.2.1.fR ga0 rfl (by decide) (by decide +kernel)).trans htp]
                          refine lv_bipush (v := 43) hx hb dX4_readSum_202 (by decide) ?_
                          have k_43 : (43 : Int32).toInt = 43 := by decide
                          refine callV_Pi C S245.1 S245.2.1.2.1 (c_X9_isSign_f l D G tp (43 : Int32) 43 T (nx T b_2) gtp (by omega) (by decide)) kV_X4_84 gtp (⟨trivial, ts245⟩) dX4_readSum_204 hl.1 rfl rfl (by decide) cd_X9_isSign ⟨Nat.le_of_ble_eq_true rfl, Nat.le_of_ble_eq_true rfl, Nat.le_of_ble_eq_true rfl, Nat.le_of_ble_eq_true rfl, Nat.le_of_ble_eq_true rfl⟩ (fun v247 q247 => ?_)
                          obtain ⟨q247, fq247⟩ := q247
                          rcases fq247 with ⟨z247, y247⟩ | ⟨z247, y247⟩
                          · skip
                            refine lv_if_ne (tgt := 212) hx hb dX4_readSum_207 (by decide) (fun c248 => ?_) (fun c248 => ?_)
                            · have b248 : ¬ v247.toInt = (0 : Int32).toInt := fun z9 => c248 (i_eq.mpr z9)
                              refine lv_aload_n hx hb dX4_readSum_212 rfl (lv_at hl 1 rfl) ?_
                              refine q_grS (T := TX4) C S245.1 ga0 0 kF_X4_39 dX4_readSum_213 rfl rfl (by decide) rfl (by decide) kSF_X4_tape (fun g249 => ?_)
                              rw [show fR D H245 4 a0 0 = tp from (S245.2.1.fR ga0 rfl (by decide) (by decide +kernel)).trans htp]
                              refine callV_Ev C S245 (c_X9_next_f l D G tp T (nx T b_2) gtp) kV_X4_47 gtp (⟨trivial, ts245⟩) (by decide +kernel) dX4_readSum_216 hl.1 rfl rfl (by decide) cd_X9_next ⟨Nat.le_of_ble_eq_true rfl, Nat.le_of_ble_eq_true rfl, Nat.le_of_ble_eq_true rfl, Nat.le_of_ble_eq_true rfl, Nat.le_of_ble_eq_true rfl⟩ (fun H250 L250 S250 K250 q250 => ?_)
                              obtain ⟨q250, fq250⟩ := q250
                              have tk250 : Lw D s.heap H250 a0 := tk245.trans (Lw.keep S245.1 ga0 K250 (by decide +kernel) (by decide +kernel) (by decide +kernel))
                              obtain ⟨v251, ev251⟩ : ∃ y : Int32, y = x1_2 + (1) := ⟨_, rfl⟩
                              have k_1 : (1 : Int32).toInt = 1 := by decide
                              have f252 : v251.toInt = x1_2.toInt + (1) := by rw [ev251]; exact i_addc k_1 (by omega) (by omega)
                              refine lv_iinc (v := v251) (lv' := [(1, .int v251), (0, .ref a0)]) hx hb dX4_readSum_219 hl (k := 0) rfl (by rw [ev251]; rfl) (by decide) rfl (fun ls hl => ?_)
                              refine lv_goto (tgt := 2) hx hb dX4_readSum_222 (by decide) ?_
                              exact ih2 v251 (nx T (nx T b_2)) H250 L250 ls S250 (by omega) fq250 (by rw [u2_1]; exact sumR_st (by omega) hp233 y247) tk250 (by omega) (lv_sub hl [0, 1] rfl)
                            · have b248 : v247.toInt = (0 : Int32).toInt := i_eq.mp c248
                              exact absurd b248 (by omega)
                          · skip
                            refine lv_if_ne (tgt := 212) hx hb dX4_readSum_207 (by decide) (fun c253 => ?_) (fun c253 => ?_)
                            · have b253 : ¬ v247.toInt = (0 : Int32).toInt := fun z9 => c253 (i_eq.mpr z9)
                              exact absurd b253 (by omega)
                            · have b253 : v247.toInt = (0 : Int32).toInt := i_eq.mp c253
                              refine lv_iconst (v := 1) hx hb dX4_readSum_210 (by decide) ?_
                              have k_1 : (1 : Int32).toInt = 1 := by decide
                              exact retE_z hQ C S245 hr dX4_readSum_211 (z01 (by omega) (by omega)) (⟨⟨by omega, tk245⟩, Rs.ok (by rw [u2_1]; exact sumR_ok (by omega) hp233 y247) (by omega) ts245⟩)
                    · skip
                      refine lv_if_eq (tgt := 110) hx hb dX4_readSum_98 (by decide) (fun c254 => ?_) (fun c254 => ?_)
                      · have b254 : v230.toInt = (0 : Int32).toInt := i_eq.mp c254
                        refine lv_aload_n hx hb dX4_readSum_110 rfl (lv_at hl 1 rfl) ?_
                        refine q_grS (T := TX4) C S_2.1 ga0 0 kF_X4_39 dX4_readSum_111 rfl rfl (by decide) rfl (by decide) kSF_X4_tape (fun g255 => ?_)
                        rw [show fR D H_2 4 a0 0 = tp from (S_2.2.1.fR ga0 rfl (by decide) (by decide +kernel)).trans htp]
                        refine q_lds C ks_X4_122 dX4_readSum_114 (fun a256 ha256 wa256 => ?_)
                        refine callV_Pi C S_2.1 S_2.2.1.2.1 (c_X9_isWord_f l D G tp a256 7 w_hearths T b_2 gtp ha256 (Wc.of wa256 kw_hearths)) kV_X4_61 gtp (⟨trivial, u2_0⟩) dX4_readSum_116 hl.1 rfl rfl (by decide) cd_X9_isWord ⟨Nat.le_of_ble_eq_true rfl, Nat.le_of_ble_eq_true rfl, Nat.le_of_ble_eq_true rfl, Nat.le_of_ble_eq_true rfl, Nat.le_of_ble_eq_true rfl⟩ (fun v257 q257 => ?_)
                        obtain ⟨q257, fq257⟩ := q257
                        rcases fq257 with ⟨z257, y257⟩ | ⟨z257, y257⟩
                        · skip
                          refine lv_if_eq (tgt := 131) hx hb dX4_readSum_119 (by decide) (fun c258 => ?_) (fun c258 => ?_)
                          · have b258 : v257.toInt = (0 : Int32).toInt := i_eq.mp c258
                            exact absurd b258 (by omega)
                          · have b258 : ¬ v257.toInt = (0 : Int32).toInt := fun z9 => c258 (i_eq.mpr z9)
                            refine lv_aload_n hx hb dX4_readSum_122 rfl (lv_at hl 1 rfl) ?_
                            refine lv_bipush (v := -10) hx hb dX4_readSum_123 (by decide) ?_
                            have k_m10 : (-10 : Int32).toInt = -10 := by decide
                            refine callV_Ev C S_2 (c_X4_put l D G a0 (-10 : Int32) ga0) kV_X4_55 ga0 (trivial) (by decide +kernel) dX4_readSum_125 hl.1 rfl rfl (by decide) cd_X4_put ⟨Nat.le_of_ble_eq_true rfl, Nat.le_of_ble_eq_true rfl, Nat.le_of_ble_eq_true rfl, Nat.le_of_ble_eq_true rfl, Nat.le_of_ble_eq_true rfl⟩ (fun H259 L259 S259 K259 q259 => ?_)
                            obtain ⟨qa259, qb259, tq259⟩ := q259
                            have tk259 : Lw D s.heap H259 a0 := u2_2.trans tq259
                            have ts259 := u2_0.keep S_2.1 gtp K259 (by decide +kernel)
                            refine lv_goto (tgt := 181) hx hb dX4_readSum_128 (by decide) ?_
                            have hp260 : prt T b_2 = true := by simp [prt, hn173, y176, y203, y230, y257]
                            refine lv_aload_n hx hb dX4_readSum_181 rfl (lv_at hl 1 rfl) ?_
                            refine q_grS (T := TX4) C S259.1 ga0 0 kF_X4_39 dX4_readSum_182 rfl rfl (by decide) rfl (by decide) kSF_X4_tape (fun g261 => ?_)
                            rw [show fR D H259 4 a0 0 = tp from (S259.2.1.fR ga0 rfl (by decide) (by decide +kernel)).trans htp]
                            refine callV_Ev C S259 (c_X9_next_f l D G tp T b_2 gtp) kV_X4_47 gtp (⟨trivial, ts259⟩) (by decide +kernel) dX4_readSum_185 hl.1 rfl rfl (by decide) cd_X9_next ⟨Nat.le_of_ble_eq_true rfl, Nat.le_of_ble_eq_true rfl, Nat.le_of_ble_eq_true rfl, Nat.le_of_ble_eq_true rfl, Nat.le_of_ble_eq_true rfl⟩ (fun H262 L262 S262 K262 q262 => ?_)
                            obtain ⟨q262, fq262⟩ := q262
                            have tk262 : Lw D s.heap H262 a0 := tk259.trans (Lw.keep S259.1 ga0 K262 (by decide +kernel) (by decide +kernel) (by decide +kernel))
                            refine lv_iload_n hx hb dX4_readSum_188 rfl (lv_at hl 0 rfl) ?_
                            refine lv_if_le (tgt := 198) hx hb dX4_readSum_189 (by decide) (fun c263 => ?_) (fun c263 => ?_)
                            · have b263 : x1_2.toInt ≤ (0 : Int32).toInt := i_le.mp c263
                              refine lv_aload_n hx hb dX4_readSum_198 rfl (lv_at hl 1 rfl) ?_
                              refine q_grS (T := TX4) C S262.1 ga0 0 kF_X4_39 dX4_readSum_199 rfl rfl (by decide) rfl (by decide) kSF_X4_tape (fun g264 => ?_)
                              rw [show fR D H262 4 a0 0 = tp from (S262.2.1.fR ga0 rfl (by decide) (by decide +kernel)).trans htp]
                              refine lv_bipush (v := 43) hx hb dX4_readSum_202 (by decide) ?_
                              have k_43 : (43 : Int32).toInt = 43 := by decide
                              refine callV_Pi C S262.1 S262.2.1.2.1 (c_X9_isSign_f l D G tp (43 : Int32) 43 T (nx T b_2) gtp (by omega) (by decide)) kV_X4_84 gtp (⟨trivial, fq262⟩) dX4_readSum_204 hl.1 rfl rfl (by decide) cd_X9_isSign ⟨Nat.le_of_ble_eq_true rfl, Nat.le_of_ble_eq_true rfl, Nat.le_of_ble_eq_true rfl, Nat.le_of_ble_eq_true rfl, Nat.le_of_ble_eq_true rfl⟩ (fun v265 q265 => ?_)
                              obtain ⟨q265, fq265⟩ := q265
                              rcases fq265 with ⟨z265, y265⟩ | ⟨z265, y265⟩
                              · skip
                                refine lv_if_ne (tgt := 212) hx hb dX4_readSum_207 (by decide) (fun c266 => ?_) (fun c266 => ?_)
                                · have b266 : ¬ v265.toInt = (0 : Int32).toInt := fun z9 => c266 (i_eq.mpr z9)
                                  refine lv_aload_n hx hb dX4_readSum_212 rfl (lv_at hl 1 rfl) ?_
                                  refine q_grS (T := TX4) C S262.1 ga0 0 kF_X4_39 dX4_readSum_213 rfl rfl (by decide) rfl (by decide) kSF_X4_tape (fun g267 => ?_)
                                  rw [show fR D H262 4 a0 0 = tp from (S262.2.1.fR ga0 rfl (by decide) (by decide +kernel)).trans htp]
                                  refine callV_Ev C S262 (c_X9_next_f l D G tp T (nx T b_2) gtp) kV_X4_47 gtp (⟨trivial, fq262⟩) (by decide +kernel) dX4_readSum_216 hl.1 rfl rfl (by decide) cd_X9_next ⟨Nat.le_of_ble_eq_true rfl, Nat.le_of_ble_eq_true rfl, Nat.le_of_ble_eq_true rfl, Nat.le_of_ble_eq_true rfl, Nat.le_of_ble_eq_true rfl⟩ (fun H268 L268 S268 K268 q268 => ?_)
                                  obtain ⟨q268, fq268⟩ := q268
                                  have tk268 : Lw D s.heap H268 a0 := tk262.trans (Lw.keep S262.1 ga0 K268 (by decide +kernel) (by decide +kernel) (by decide +kernel))
                                  obtain ⟨v269, ev269⟩ : ∃ y : Int32, y = x1_2 + (1) := ⟨_, rfl⟩
                                  have k_1 : (1 : Int32).toInt = 1 := by decide
                                  have f270 : v269.toInt = x1_2.toInt + (1) := by rw [ev269]; exact i_addc k_1 (by omega) (by omega)
                                  refine lv_iinc (v := v269) (lv' := [(1, .int v269), (0, .ref a0)]) hx hb dX4_readSum_219 hl (k := 0) rfl (by rw [ev269]; rfl) (by decide) rfl (fun ls hl => ?_)
                                  refine lv_goto (tgt := 2) hx hb dX4_readSum_222 (by decide) ?_
                                  exact ih2 v269 (nx T (nx T b_2)) H268 L268 ls S268 (by omega) fq268 (by rw [u2_1]; exact sumR_st (by omega) hp260 y265) tk268 (by omega) (lv_sub hl [0, 1] rfl)
                                · have b266 : v265.toInt = (0 : Int32).toInt := i_eq.mp c266
                                  exact absurd b266 (by omega)
                              · skip
                                refine lv_if_ne (tgt := 212) hx hb dX4_readSum_207 (by decide) (fun c271 => ?_) (fun c271 => ?_)
                                · have b271 : ¬ v265.toInt = (0 : Int32).toInt := fun z9 => c271 (i_eq.mpr z9)
                                  exact absurd b271 (by omega)
                                · have b271 : v265.toInt = (0 : Int32).toInt := i_eq.mp c271
                                  refine lv_iconst (v := 1) hx hb dX4_readSum_210 (by decide) ?_
                                  have k_1 : (1 : Int32).toInt = 1 := by decide
                                  exact retE_z hQ C S262 hr dX4_readSum_211 (z01 (by omega) (by omega)) (⟨⟨by omega, tk262⟩, Rs.ok (by rw [u2_1]; exact sumR_ok (by omega) hp260 y265) (by omega) fq262⟩)
                            · have b263 : ¬ x1_2.toInt ≤ (0 : Int32).toInt := fun z9 => c263 (i_le.mpr z9)
                              refine lv_aload_n hx hb dX4_readSum_192 rfl (lv_at hl 1 rfl) ?_
                              refine lv_bipush (v := -14) hx hb dX4_readSum_193 (by decide) ?_
                              have k_m14 : (-14 : Int32).toInt = -14 := by decide
                              refine callV_Ev C S262 (c_X4_put l D G a0 (-14 : Int32) ga0) kV_X4_55 ga0 (trivial) (by decide +kernel) dX4_readSum_195 hl.1 rfl rfl (by decide) cd_X4_put ⟨Nat.le_of_ble_eq_true rfl, Nat.le_of_ble_eq_true rfl, Nat.le_of_ble_eq_true rfl, Nat.le_of_ble_eq_true rfl, Nat.le_of_ble_eq_true rfl⟩ (fun H272 L272 S272 K272 q272 => ?_)
                              obtain ⟨qa272, qb272, tq272⟩ := q272
                              have tk272 : Lw D s.heap H272 a0 := tk262.trans tq272
                              have ts272 := fq262.keep S262.1 gtp K272 (by decide +kernel)
                              refine lv_aload_n hx hb dX4_readSum_198 rfl (lv_at hl 1 rfl) ?_
                              refine q_grS (T := TX4) C S272.1 ga0 0 kF_X4_39 dX4_readSum_199 rfl rfl (by decide) rfl (by decide) kSF_X4_tape (fun g273 => ?_)
                              rw [show fR D H272 4 a0 0 = tp from (S272.2.1.fR ga0 rfl (by decide) (by decide +kernel)).trans htp]
                              refine lv_bipush (v := 43) hx hb dX4_readSum_202 (by decide) ?_
                              have k_43 : (43 : Int32).toInt = 43 := by decide
                              refine callV_Pi C S272.1 S272.2.1.2.1 (c_X9_isSign_f l D G tp (43 : Int32) 43 T (nx T b_2) gtp (by omega) (by decide)) kV_X4_84 gtp (⟨trivial, ts272⟩) dX4_readSum_204 hl.1 rfl rfl (by decide) cd_X9_isSign ⟨Nat.le_of_ble_eq_true rfl, Nat.le_of_ble_eq_true rfl, Nat.le_of_ble_eq_true rfl, Nat.le_of_ble_eq_true rfl, Nat.le_of_ble_eq_true rfl⟩ (fun v274 q274 => ?_)
                              obtain ⟨q274, fq274⟩ := q274
                              rcases fq274 with ⟨z274, y274⟩ | ⟨z274, y274⟩
                              · skip
                                refine lv_if_ne (tgt := 212) hx hb dX4_readSum_207 (by decide) (fun c275 => ?_) (fun c275 => ?_)
                                · have b275 : ¬ v274.toInt = (0 : Int32).toInt := fun z9 => c275 (i_eq.mpr z9)
                                  refine lv_aload_n hx hb dX4_readSum_212 rfl (lv_at hl 1 rfl) ?_
                                  refine q_grS (T := TX4) C S272.1 ga0 0 kF_X4_39 dX4_readSum_213 rfl rfl (by decide) rfl (by decide) kSF_X4_tape (fun g276 => ?_)
                                  rw [show fR D H272 4 a0 0 = tp from (S272.2.1.fR ga0 rfl (by decide) (by decide +kernel)).trans htp]
                                  refine callV_Ev C S272 (c_X9_next_f l D G tp T (nx T b_2) gtp) kV_X4_47 gtp (⟨trivial, ts272⟩) (by decide +kernel) dX4_readSum_216 hl.1 rfl rfl (by decide) cd_X9_next ⟨Nat.le_of_ble_eq_true rfl, Nat.le_of_ble_eq_true rfl, Nat.le_of_ble_eq_true rfl, Nat.le_of_ble_eq_true rfl, Nat.le_of_ble_eq_true rfl⟩ (fun H277 L277 S277 K277 q277 => ?_)
                                  obtain ⟨q277, fq277⟩ := q277
                                  have tk277 : Lw D s.heap H277 a0 := tk272.trans (Lw.keep S272.1 ga0 K277 (by decide +kernel) (by decide +kernel) (by decide +kernel))
                                  obtain ⟨v278, ev278⟩ : ∃ y : Int32, y = x1_2 + (1) := ⟨_, rfl⟩
                                  have k_1 : (1 : Int32).toInt = 1 := by decide
                                  have f279 : v278.toInt = x1_2.toInt + (1) := by rw [ev278]; exact i_addc k_1 (by omega) (by omega)
                                  refine lv_iinc (v := v278) (lv' := [(1, .int v278), (0, .ref a0)]) hx hb dX4_readSum_219 hl (k := 0) rfl (by rw [ev278]; rfl) (by decide) rfl (fun ls hl => ?_)
                                  refine lv_goto (tgt := 2) hx hb dX4_readSum_222 (by decide) ?_
                                  exact ih2 v278 (nx T (nx T b_2)) H277 L277 ls S277 (by omega) fq277 (by rw [u2_1]; exact sumR_st (by omega) hp260 y274) tk277 (by omega) (lv_sub hl [0, 1] rfl)
                                · have b275 : v274.toInt = (0 : Int32).toInt := i_eq.mp c275
                                  exact absurd b275 (by omega)
                              · skip
                                refine lv_if_ne (tgt := 212) hx hb dX4_readSum_207 (by decide) (fun c280 => ?_) (fun c280 => ?_)
                                · have b280 : ¬ v274.toInt = (0 : Int32).toInt := fun z9 => c280 (i_eq.mpr z9)
                                  exact absurd b280 (by omega)
                                · have b280 : v274.toInt = (0 : Int32).toInt := i_eq.mp c280
                                  refine lv_iconst (v := 1) hx hb dX4_readSum_210 (by decide) ?_
                                  have k_1 : (1 : Int32).toInt = 1 := by decide
                                  exact retE_z hQ C S272 hr dX4_readSum_211 (z01 (by omega) (by omega)) (⟨⟨by omega, tk272⟩, Rs.ok (by rw [u2_1]; exact sumR_ok (by omega) hp260 y274) (by omega) ts272⟩)
                        · skip
                          refine lv_if_eq (tgt := 131) hx hb dX4_readSum_119 (by decide) (fun c281 => ?_) (fun c281 => ?_)
                          · have b281 : v257.toInt = (0 : Int32).toInt := i_eq.mp c281
                            refine lv_aload_n hx hb dX4_readSum_131 rfl (lv_at hl 1 rfl) ?_
                            refine q_grS (T := TX4) C S_2.1 ga0 0 kF_X4_39 dX4_readSum_132 rfl rfl (by decide) rfl (by decide) kSF_X4_tape (fun g282 => ?_)
                            rw [show fR D H_2 4 a0 0 = tp from (S_2.2.1.fR ga0 rfl (by decide) (by decide +kernel)).trans htp]
                            refine q_lds C ks_X4_124 dX4_readSum_135 (fun a283 ha283 wa283 => ?_)
                            refine callV_Pi C S_2.1 S_2.2.1.2.1 (c_X9_isWord_f l D G tp a283 7 w_windows T b_2 gtp ha283 (Wc.of wa283 kw_windows)) kV_X4_61 gtp (⟨trivial, u2_0⟩) dX4_readSum_137 hl.1 rfl rfl (by decide) cd_X9_isWord ⟨Nat.le_of_ble_eq_true rfl, Nat.le_of_ble_eq_true rfl, Nat.le_of_ble_eq_true rfl, Nat.le_of_ble_eq_true rfl, Nat.le_of_ble_eq_true rfl⟩ (fun v284 q284 => ?_)
                            obtain ⟨q284, fq284⟩ := q284
                            rcases fq284 with ⟨z284, y284⟩ | ⟨z284, y284⟩
                            · skip
                              refine lv_if_eq (tgt := 152) hx hb dX4_readSum_140 (by decide) (fun c285 => ?_) (fun c285 => ?_)
                              · have b285 : v284.toInt = (0 : Int32).toInt := i_eq.mp c285
                                exact absurd b285 (by omega)
                              · have b285 : ¬ v284.toInt = (0 : Int32).toInt := fun z9 => c285 (i_eq.mpr z9)
                                refine lv_aload_n hx hb dX4_readSum_143 rfl (lv_at hl 1 rfl) ?_
                                refine lv_bipush (v := -11) hx hb dX4_readSum_144 (by decide) ?_
                                have k_m11 : (-11 : Int32).toInt = -11 := by decide
                                refine callV_Ev C S_2 (c_X4_put l D G a0 (-11 : Int32) ga0) kV_X4_55 ga0 (trivial) (by decide +kernel) dX4_readSum_146 hl.1 rfl rfl (by decide) cd_X4_put ⟨Nat.le_of_ble_eq_true rfl, Nat.le_of_ble_eq_true rfl, Nat.le_of_ble_eq_true rfl, Nat.le_of_ble_eq_true rfl, Nat.le_of_ble_eq_true rfl⟩ (fun H286 L286 S286 K286 q286 => ?_)
                                obtain ⟨qa286, qb286, tq286⟩ := q286
                                have tk286 : Lw D s.heap H286 a0 := u2_2.trans tq286
                                have ts286 := u2_0.keep S_2.1 gtp K286 (by decide +kernel)
                                refine lv_goto (tgt := 181) hx hb dX4_readSum_149 (by decide) ?_
                                have hp287 : prt T b_2 = true := by simp [prt, hn173, y176, y203, y230, y257, y284]
                                refine lv_aload_n hx hb dX4_readSum_181 rfl (lv_at hl 1 rfl) ?_
                                refine q_grS (T := TX4) C S286.1 ga0 0 kF_X4_39 dX4_readSum_182 rfl rfl (by decide) rfl (by decide) kSF_X4_tape (fun g288 => ?_)
                                rw [show fR D H286 4 a0 0 = tp from (S286.2.1.fR ga0 rfl (by decide) (by decide +kernel)).trans htp]
                                refine callV_Ev C S286 (c_X9_next_f l D G tp T b_2 gtp) kV_X4_47 gtp (⟨trivial, ts286⟩) (by decide +kernel) dX4_readSum_185 hl.1 rfl rfl (by decide) cd_X9_next ⟨Nat.le_of_ble_eq_true rfl, Nat.le_of_ble_eq_true rfl, Nat.le_of_ble_eq_true rfl, Nat.le_of_ble_eq_true rfl, Nat.le_of_ble_eq_true rfl⟩ (fun H289 L289 S289 K289 q289 => ?_)
                                obtain ⟨q289, fq289⟩ := q289
                                have tk289 : Lw D s.heap H289 a0 := tk286.trans (Lw.keep S286.1 ga0 K289 (by decide +kernel) (by decide +kernel) (by decide +kernel))
                                refine lv_iload_n hx hb dX4_readSum_188 rfl (lv_at hl 0 rfl) ?_
                                refine lv_if_le (tgt := 198) hx hb dX4_readSum_189 (by decide) (fun c290 => ?_) (fun c290 => ?_)
                                · have b290 : x1_2.toInt ≤ (0 : Int32).toInt := i_le.mp c290
                                  refine lv_aload_n hx hb dX4_readSum_198 rfl (lv_at hl 1 rfl) ?_
                                  refine q_grS (T := TX4) C S289.1 ga0 0 kF_X4_39 dX4_readSum_199 rfl rfl (by decide) rfl (by decide) kSF_X4_tape (fun g291 => ?_)
                                  rw [show fR D H289 4 a0 0 = tp from (S289.2.1.fR ga0 rfl (by decide) (by decide +kernel)).trans htp]
                                  refine lv_bipush (v := 43) hx hb dX4_readSum_202 (by decide) ?_
                                  have k_43 : (43 : Int32).toInt = 43 := by decide
                                  refine callV_Pi C S289.1 S289.2.1.2.1 (c_X9_isSign_f l D G tp (43 : Int32) 43 T (nx T b_2) gtp (by omega) (by decide)) kV_X4_84 gtp (⟨trivial, fq289⟩) dX4_readSum_204 hl.1 rfl rfl (by decide) cd_X9_isSign ⟨Nat.le_of_ble_eq_true rfl, Nat.le_of_ble_eq_true rfl, Nat.le_of_ble_eq_true rfl, Nat.le_of_ble_eq_true rfl, Nat.le_of_ble_eq_true rfl⟩ (fun v292 q292 => ?_)
                                  obtain ⟨q292, fq292⟩ := q292
                                  rcases fq292 with ⟨z292, y292⟩ | ⟨z292, y292⟩
                                  · skip
                                    refine lv_if_ne (tgt := 212) hx hb dX4_readSum_207 (by decide) (fun c293 => ?_) (fun c293 => ?_)
                                    · have b293 : ¬ v292.toInt = (0 : Int32).toInt := fun z9 => c293 (i_eq.mpr z9)
                                      refine lv_aload_n hx hb dX4_readSum_212 rfl (lv_at hl 1 rfl) ?_
                                      refine q_grS (T := TX4) C S289.1 ga0 0 kF_X4_39 dX4_readSum_213 rfl rfl (by decide) rfl (by decide) kSF_X4_tape (fun g294 => ?_)
                                      rw [show fR D H289 4 a0 0 = tp from (S289.2.1.fR ga0 rfl (by decide) (by decide +kernel)).trans htp]
                                      refine callV_Ev C S289 (c_X9_next_f l D G tp T (nx T b_2) gtp) kV_X4_47 gtp (⟨trivial, fq289⟩) (by decide +kernel) dX4_readSum_216 hl.1 rfl rfl (by decide) cd_X9_next ⟨Nat.le_of_ble_eq_true rfl, Nat.le_of_ble_eq_true rfl, Nat.le_of_ble_eq_true rfl, Nat.le_of_ble_eq_true rfl, Nat.le_of_ble_eq_true rfl⟩ (fun H295 L295 S295 K295 q295 => ?_)
                                      obtain ⟨q295, fq295⟩ := q295
                                      have tk295 : Lw D s.heap H295 a0 := tk289.trans (Lw.keep S289.1 ga0 K295 (by decide +kernel) (by decide +kernel) (by decide +kernel))
                                      obtain ⟨v296, ev296⟩ : ∃ y : Int32, y = x1_2 + (1) := ⟨_, rfl⟩
                                      have k_1 : (1 : Int32).toInt = 1 := by decide
                                      have f297 : v296.toInt = x1_2.toInt + (1) := by rw [ev296]; exact i_addc k_1 (by omega) (by omega)
                                      refine lv_iinc (v := v296) (lv' := [(1, .int v296), (0, .ref a0)]) hx hb dX4_readSum_219 hl (k := 0) rfl (by rw [ev296]; rfl) (by decide) rfl (fun ls hl => ?_)
                                      refine lv_goto (tgt := 2) hx hb dX4_readSum_222 (by decide) ?_
                                      exact ih2 v296 (nx T (nx T b_2)) H295 L295 ls S295 (by omega) fq295 (by rw [u2_1]; exact sumR_st (by omega) hp287 y292) tk295 (by omega) (lv_sub hl [0, 1] rfl)
                                    · have b293 : v292.toInt = (0 : Int32).toInt := i_eq.mp c293
                                      exact absurd b293 (by omega)
                                  · skip
                                    refine lv_if_ne (tgt := 212) hx hb dX4_readSum_207 (by decide) (fun c298 => ?_) (fun c298 => ?_)
                                    · have b298 : ¬ v292.toInt = (0 : Int32).toInt := fun z9 => c298 (i_eq.mpr z9)
                                      exact absurd b298 (by omega)
                                    · have b298 : v292.toInt = (0 : Int32).toInt := i_eq.mp c298
                                      refine lv_iconst (v := 1) hx hb dX4_readSum_210 (by decide) ?_
                                      have k_1 : (1 : Int32).toInt = 1 := by decide
                                      exact retE_z hQ C S289 hr dX4_readSum_211 (z01 (by omega) (by omega)) (⟨⟨by omega, tk289⟩, Rs.ok (by rw [u2_1]; exact sumR_ok (by omega) hp287 y292) (by omega) fq289⟩)
                                · have b290 : ¬ x1_2.toInt ≤ (0 : Int32).toInt := fun z9 => c290 (i_le.mpr z9)
                                  refine lv_aload_n hx hb dX4_readSum_192 rfl (lv_at hl 1 rfl) ?_
                                  refine lv_bipush (v := -14) hx hb dX4_readSum_193 (by decide) ?_
                                  have k_m14 : (-14 : Int32).toInt = -14 := by decide
                                  refine callV_Ev C S289 (c_X4_put l D G a0 (-14 : Int32) ga0) kV_X4_55 ga0 (trivial) (by decide +kernel) dX4_readSum_195 hl.1 rfl rfl (by decide) cd_X4_put ⟨Nat.le_of_ble_eq_true rfl, Nat.le_of_ble_eq_true rfl, Nat.le_of_ble_eq_true rfl, Nat.le_of_ble_eq_true rfl, Nat.le_of_ble_eq_true rfl⟩ (fun H299 L299 S299 K299 q299 => ?_)
                                  obtain ⟨qa299, qb299, tq299⟩ := q299
                                  have tk299 : Lw D s.heap H299 a0 := tk289.trans tq299
                                  have ts299 := fq289.keep S289.1 gtp K299 (by decide +kernel)
                                  refine lv_aload_n hx hb dX4_readSum_198 rfl (lv_at hl 1 rfl) ?_
                                  refine q_grS (T := TX4) C S299.1 ga0 0 kF_X4_39 dX4_readSum_199 rfl rfl (by decide) rfl (by decide) kSF_X4_tape (fun g300 => ?_)
                                  rw [show fR D H299 4 a0 0 = tp from (S299.2.1.fR ga0 rfl (by decide) (by decide +kernel)).trans htp]
                                  refine lv_bipush (v := 43) hx hb dX4_readSum_202 (by decide) ?_
                                  have k_43 : (43 : Int32).toInt = 43 := by decide
                                  refine callV_Pi C S299.1 S299.2.1.2.1 (c_X9_isSign_f l D G tp (43 : Int32) 43 T (nx T b_2) gtp (by omega) (by decide)) kV_X4_84 gtp (⟨trivial, ts299⟩) dX4_readSum_204 hl.1 rfl rfl (by decide) cd_X9_isSign ⟨Nat.le_of_ble_eq_true rfl, Nat.le_of_ble_eq_true rfl, Nat.le_of_ble_eq_true rfl, Nat.le_of_ble_eq_true rfl, Nat.le_of_ble_eq_true rfl⟩ (fun v301 q301 => ?_)
                                  obtain ⟨q301, fq301⟩ := q301
                                  rcases fq301 with ⟨z301, y301⟩ | ⟨z301, y301⟩
                                  · skip
                                    refine lv_if_ne (tgt := 212) hx hb dX4_readSum_207 (by decide) (fun c302 => ?_) (fun c302 => ?_)
                                    · have b302 : ¬ v301.toInt = (0 : Int32).toInt := fun z9 => c302 (i_eq.mpr z9)
                                      refine lv_aload_n hx hb dX4_readSum_212 rfl (lv_at hl 1 rfl) ?_
                                      refine q_grS (T := TX4) C S299.1 ga0 0 kF_X4_39 dX4_readSum_213 rfl rfl (by decide) rfl (by decide) kSF_X4_tape (fun g303 => ?_)
                                      rw [show fR D H299 4 a0 0 = tp from (S299.2.1.fR ga0 rfl (by decide) (by decide +kernel)).trans htp]
                                      refine callV_Ev C S299 (c_X9_next_f l D G tp T (nx T b_2) gtp) kV_X4_47 gtp (⟨trivial, ts299⟩) (by decide +kernel) dX4_readSum_216 hl.1 rfl rfl (by decide) cd_X9_next ⟨Nat.le_of_ble_eq_true rfl, Nat.le_of_ble_eq_true rfl, Nat.le_of_ble_eq_true rfl, Nat.le_of_ble_eq_true rfl, Nat.le_of_ble_eq_true rfl⟩ (fun H304 L304 S304 K304 q304 => ?_)
                                      obtain ⟨q304, fq304⟩ := q304
                                      have tk304 : Lw D s.heap H304 a0 := tk299.trans (Lw.keep S299.1 ga0 K304 (by decide +kernel) (by decide +kernel) (by decide +kernel))
                                      obtain ⟨v305, ev305⟩ : ∃ y : Int32, y = x1_2 + (1) := ⟨_, rfl⟩
                                      have k_1 : (1 : Int32).toInt = 1 := by decide
                                      have f306 : v305.toInt = x1_2.toInt + (1) := by rw [ev305]; exact i_addc k_1 (by omega) (by omega)
                                      refine lv_iinc (v := v305) (lv' := [(1, .int v305), (0, .ref a0)]) hx hb dX4_readSum_219 hl (k := 0) rfl (by rw [ev305]; rfl) (by decide) rfl (fun ls hl => ?_)
                                      refine lv_goto (tgt := 2) hx hb dX4_readSum_222 (by decide) ?_
                                      exact ih2 v305 (nx T (nx T b_2)) H304 L304 ls S304 (by omega) fq304 (by rw [u2_1]; exact sumR_st (by omega) hp287 y301) tk304 (by omega) (lv_sub hl [0, 1] rfl)
                                    · have b302 : v301.toInt = (0 : Int32).toInt := i_eq.mp c302
                                      exact absurd b302 (by omega)
                                  · skip
                                    refine lv_if_ne (tgt := 212) hx hb dX4_readSum_207 (by decide) (fun c307 => ?_) (fun c307 => ?_)
                                    · have b307 : ¬ v301.toInt = (0 : Int32).toInt := fun z9 => c307 (i_eq.mpr z9)
                                      exact absurd b307 (by omega)
                                    · have b307 : v301.toInt = (0 : Int32).toInt := i_eq.mp c307
                                      refine lv_iconst (v := 1) hx hb dX4_readSum_210 (by decide) ?_
                                      have k_1 : (1 : Int32).toInt = 1 := by decide
                                      exact retE_z hQ C S299 hr dX4_readSum_211 (z01 (by omega) (by omega)) (⟨⟨by omega, tk299⟩, Rs.ok (by rw [u2_1]; exact sumR_ok (by omega) hp287 y301) (by omega) ts299⟩)
                            · skip
                              refine lv_if_eq (tgt := 152) hx hb dX4_readSum_140 (by decide) (fun c308 => ?_) (fun c308 => ?_)
                              · have b308 : v284.toInt = (0 : Int32).toInt := i_eq.mp c308
                                refine lv_aload_n hx hb dX4_readSum_152 rfl (lv_at hl 1 rfl) ?_
                                refine q_grS (T := TX4) C S_2.1 ga0 0 kF_X4_39 dX4_readSum_153 rfl rfl (by decide) rfl (by decide) kSF_X4_tape (fun g309 => ?_)
                                rw [show fR D H_2 4 a0 0 = tp from (S_2.2.1.fR ga0 rfl (by decide) (by decide +kernel)).trans htp]
                                refine q_lds C ks_X4_126 dX4_readSum_156 (fun a310 ha310 wa310 => ?_)
                                refine callV_Pi C S_2.1 S_2.2.1.2.1 (c_X9_isWord_f l D G tp a310 7 w_quarter T b_2 gtp ha310 (Wc.of wa310 kw_quarter)) kV_X4_61 gtp (⟨trivial, u2_0⟩) dX4_readSum_158 hl.1 rfl rfl (by decide) cd_X9_isWord ⟨Nat.le_of_ble_eq_true rfl, Nat.le_of_ble_eq_true rfl, Nat.le_of_ble_eq_true rfl, Nat.le_of_ble_eq_true rfl, Nat.le_of_ble_eq_true rfl⟩ (fun v311 q311 => ?_)
                                obtain ⟨q311, fq311⟩ := q311
                                rcases fq311 with ⟨z311, y311⟩ | ⟨z311, y311⟩
                                · skip
                                  refine lv_if_eq (tgt := 173) hx hb dX4_readSum_161 (by decide) (fun c312 => ?_) (fun c312 => ?_)
                                  · have b312 : v311.toInt = (0 : Int32).toInt := i_eq.mp c312
                                    exact absurd b312 (by omega)
                                  · have b312 : ¬ v311.toInt = (0 : Int32).toInt := fun z9 => c312 (i_eq.mpr z9)
                                    refine lv_aload_n hx hb dX4_readSum_164 rfl (lv_at hl 1 rfl) ?_
                                    refine lv_bipush (v := -12) hx hb dX4_readSum_165 (by decide) ?_
                                    have k_m12 : (-12 : Int32).toInt = -12 := by decide
                                    refine callV_Ev C S_2 (c_X4_put l D G a0 (-12 : Int32) ga0) kV_X4_55 ga0 (trivial) (by decide +kernel) dX4_readSum_167 hl.1 rfl rfl (by decide) cd_X4_put ⟨Nat.le_of_ble_eq_true rfl, Nat.le_of_ble_eq_true rfl, Nat.le_of_ble_eq_true rfl, Nat.le_of_ble_eq_true rfl, Nat.le_of_ble_eq_true rfl⟩ (fun H313 L313 S313 K313 q313 => ?_)
                                    obtain ⟨qa313, qb313, tq313⟩ := q313
                                    have tk313 : Lw D s.heap H313 a0 := u2_2.trans tq313
                                    have ts313 := u2_0.keep S_2.1 gtp K313 (by decide +kernel)
                                    refine lv_goto (tgt := 181) hx hb dX4_readSum_170 (by decide) ?_
                                    have hp314 : prt T b_2 = true := by simp [prt, hn173, y176, y203, y230, y257, y284, y311]
                                    refine lv_aload_n hx hb dX4_readSum_181 rfl (lv_at hl 1 rfl) ?_
                                    refine q_grS (T := TX4) C S313.1 ga0 0 kF_X4_39 dX4_readSum_182 rfl rfl (by decide) rfl (by decide) kSF_X4_tape (fun g315 => ?_)
                                    rw [show fR D H313 4 a0 0 = tp from (S313.2.1.fR ga0 rfl (by decide) (by decide +kernel)).trans htp]
                                    refine callV_Ev C S313 (c_X9_next_f l D G tp T b_2 gtp) kV_X4_47 gtp (⟨trivial, ts313⟩) (by decide +kernel) dX4_readSum_185 hl.1 rfl rfl (by decide) cd_X9_next ⟨Nat.le_of_ble_eq_true rfl, Nat.le_of_ble_eq_true rfl, Nat.le_of_ble_eq_true rfl, Nat.le_of_ble_eq_true rfl, Nat.le_of_ble_eq_true rfl⟩ (fun H316 L316 S316 K316 q316 => ?_)
                                    obtain ⟨q316, fq316⟩ := q316
                                    have tk316 : Lw D s.heap H316 a0 := tk313.trans (Lw.keep S313.1 ga0 K316 (by decide +kernel) (by decide +kernel) (by decide +kernel))
                                    refine lv_iload_n hx hb dX4_readSum_188 rfl (lv_at hl 0 rfl) ?_
                                    refine lv_if_le (tgt := 198) hx hb dX4_readSum_189 (by decide) (fun c317 => ?_) (fun c317 => ?_)
                                    · have b317 : x1_2.toInt ≤ (0 : Int32).toInt := i_le.mp c317
                                      refine lv_aload_n hx hb dX4_readSum_198 rfl (lv_at hl 1 rfl) ?_
                                      refine q_grS (T := TX4) C S316.1 ga0 0 kF_X4_39 dX4_readSum_199 rfl rfl (by decide) rfl (by decide) kSF_X4_tape (fun g318 => ?_)
                                      rw [show fR D H316 4 a0 0 = tp from (S316.2.1.fR ga0 rfl (by decide) (by decide +kernel)).trans htp]
                                      refine lv_bipush (v := 43) hx hb dX4_readSum_202 (by decide) ?_
                                      have k_43 : (43 : Int32).toInt = 43 := by decide
                                      refine callV_Pi C S316.1 S316.2.1.2.1 (c_X9_isSign_f l D G tp (43 : Int32) 43 T (nx T b_2) gtp (by omega) (by decide)) kV_X4_84 gtp (⟨trivial, fq316⟩) dX4_readSum_204 hl.1 rfl rfl (by decide) cd_X9_isSign ⟨Nat.le_of_ble_eq_true rfl, Nat.le_of_ble_eq_true rfl, Nat.le_of_ble_eq_true rfl, Nat.le_of_ble_eq_true rfl, Nat.le_of_ble_eq_true rfl⟩ (fun v319 q319 => ?_)
                                      obtain ⟨q319, fq319⟩ := q319
                                      rcases fq319 with ⟨z319, y319⟩ | ⟨z319, y319⟩
                                      · skip
                                        refine lv_if_ne (tgt := 212) hx hb dX4_readSum_207 (by decide) (fun c320 => ?_) (fun c320 => ?_)
                                        · have b320 : ¬ v319.toInt = (0 : Int32).toInt := fun z9 => c320 (i_eq.mpr z9)
                                          refine lv_aload_n hx hb dX4_readSum_212 rfl (lv_at hl 1 rfl) ?_
                                          refine q_grS (T := TX4) C S316.1 ga0 0 kF_X4_39 dX4_readSum_213 rfl rfl (by decide) rfl (by decide) kSF_X4_tape (fun g321 => ?_)
                                          rw [show fR D H316 4 a0 0 = tp from (S316.2.1.fR ga0 rfl (by decide) (by decide +kernel)).trans htp]
                                          refine callV_Ev C S316 (c_X9_next_f l D G tp T (nx T b_2) gtp) kV_X4_47 gtp (⟨trivial, fq316⟩) (by decide +kernel) dX4_readSum_216 hl.1 rfl rfl (by decide) cd_X9_next ⟨Nat.le_of_ble_eq_true rfl, Nat.le_of_ble_eq_true rfl, Nat.le_of_ble_eq_true rfl, Nat.le_of_ble_eq_true rfl, Nat.le_of_ble_eq_true rfl⟩ (fun H322 L322 S322 K322 q322 => ?_)
                                          obtain ⟨q322, fq322⟩ := q322
                                          have tk322 : Lw D s.heap H322 a0 := tk316.trans (Lw.keep S316.1 ga0 K322 (by decide +kernel) (by decide +kernel) (by decide +kernel))
                                          obtain ⟨v323, ev323⟩ : ∃ y : Int32, y = x1_2 + (1) := ⟨_, rfl⟩
                                          have k_1 : (1 : Int32).toInt = 1 := by decide
                                          have f324 : v323.toInt = x1_2.toInt + (1) := by rw [ev323]; exact i_addc k_1 (by omega) (by omega)
                                          refine lv_iinc (v := v323) (lv' := [(1, .int v323), (0, .ref a0)]) hx hb dX4_readSum_219 hl (k := 0) rfl (by rw [ev323]; rfl) (by decide) rfl (fun ls hl => ?_)
                                          refine lv_goto (tgt := 2) hx hb dX4_readSum_222 (by decide) ?_
                                          exact ih2 v323 (nx T (nx T b_2)) H322 L322 ls S322 (by omega) fq322 (by rw [u2_1]; exact sumR_st (by omega) hp314 y319) tk322 (by omega) (lv_sub hl [0, 1] rfl)
                                        · have b320 : v319.toInt = (0 : Int32).toInt := i_eq.mp c320
                                          exact absurd b320 (by omega)
                                      · skip
                                        refine lv_if_ne (tgt := 212) hx hb dX4_readSum_207 (by decide) (fun c325 => ?_) (fun c325 => ?_)
                                        · have b325 : ¬ v319.toInt = (0 : Int32).toInt := fun z9 => c325 (i_eq.mpr z9)
                                          exact absurd b325 (by omega)
                                        · have b325 : v319.toInt = (0 : Int32).toInt := i_eq.mp c325
                                          refine lv_iconst (v := 1) hx hb dX4_readSum_210 (by decide) ?_
                                          have k_1 : (1 : Int32).toInt = 1 := by decide
                                          exact retE_z hQ C S316 hr dX4_readSum_211 (z01 (by omega) (by omega)) (⟨⟨by omega, tk316⟩, Rs.ok (by rw [u2_1]; exact sumR_ok (by omega) hp314 y319) (by omega) fq316⟩)
                                    · have b317 : ¬ x1_2.toInt ≤ (0 : Int32).toInt := fun z9 => c317 (i_le.mpr z9)
                                      refine lv_aload_n hx hb dX4_readSum_192 rfl (lv_at hl 1 rfl) ?_
                                      refine lv_bipush (v := -14) hx hb dX4_readSum_193 (by decide) ?_
                                      have k_m14 : (-14 : Int32).toInt = -14 := by decide
                                      refine callV_Ev C S316 (c_X4_put l D G a0 (-14 : Int32) ga0) kV_X4_55 ga0 (trivial) (by decide +kernel) dX4_readSum_195 hl.1 rfl rfl (by decide) cd_X4_put ⟨Nat.le_of_ble_eq_true rfl, Nat.le_of_ble_eq_true rfl, Nat.le_of_ble_eq_true rfl, Nat.le_of_ble_eq_true rfl, Nat.le_of_ble_eq_true rfl⟩ (fun H326 L326 S326 K326 q326 => ?_)
                                      obtain ⟨qa326, qb326, tq326⟩ := q326
                                      have tk326 : Lw D s.heap H326 a0 := tk316.trans tq326
                                      have ts326 := fq316.keep S316.1 gtp K326 (by decide +kernel)
                                      refine lv_aload_n hx hb dX4_readSum_198 rfl (lv_at hl 1 rfl) ?_
                                      refine q_grS (T := TX4) C S326.1 ga0 0 kF_X4_39 dX4_readSum_199 rfl rfl (by decide) rfl (by decide) kSF_X4_tape (fun g327 => ?_)
                                      rw [show fR D H326 4 a0 0 = tp from (S326.2.1.fR ga0 rfl (by decide) (by decide +kernel)).trans htp]
                                      refine lv_bipush (v := 43) hx hb dX4_readSum_202 (by decide) ?_
                                      have k_43 : (43 : Int32).toInt = 43 := by decide
                                      refine callV_Pi C S326.1 S326.2.1.2.1 (c_X9_isSign_f l D G tp (43 : Int32) 43 T (nx T b_2) gtp (by omega) (by decide)) kV_X4_84 gtp (⟨trivial, ts326⟩) dX4_readSum_204 hl.1 rfl rfl (by decide) cd_X9_isSign ⟨Nat.le_of_ble_eq_true rfl, Nat.le_of_ble_eq_true rfl, Nat.le_of_ble_eq_true rfl, Nat.le_of_ble_eq_true rfl, Nat.le_of_ble_eq_true rfl⟩ (fun v328 q328 => ?_)
                                      obtain ⟨q328, fq328⟩ := q328
                                      rcases fq328 with ⟨z328, y328⟩ | ⟨z328, y328⟩
                                      · skip
                                        refine lv_if_ne (tgt := 212) hx hb dX4_readSum_207 (by decide) (fun c329 => ?_) (fun c329 => ?_)
                                        · have b329 : ¬ v328.toInt = (0 : Int32).toInt := fun z9 => c329 (i_eq.mpr z9)
                                          refine lv_aload_n hx hb dX4_readSum_212 rfl (lv_at hl 1 rfl) ?_
                                          refine q_grS (T := TX4) C S326.1 ga0 0 kF_X4_39 dX4_readSum_213 rfl rfl (by decide) rfl (by decide) kSF_X4_tape (fun g330 => ?_)
                                          rw [show fR D H326 4 a0 0 = tp from (S326.2.1.fR ga0 rfl (by decide) (by decide +kernel)).trans htp]
                                          refine callV_Ev C S326 (c_X9_next_f l D G tp T (nx T b_2) gtp) kV_X4_47 gtp (⟨trivial, ts326⟩) (by decide +kernel) dX4_readSum_216 hl.1 rfl rfl (by decide) cd_X9_next ⟨Nat.le_of_ble_eq_true rfl, Nat.le_of_ble_eq_true rfl, Nat.le_of_ble_eq_true rfl, Nat.le_of_ble_eq_true rfl, Nat.le_of_ble_eq_true rfl⟩ (fun H331 L331 S331 K331 q331 => ?_)
                                          obtain ⟨q331, fq331⟩ := q331
                                          have tk331 : Lw D s.heap H331 a0 := tk326.trans (Lw.keep S326.1 ga0 K331 (by decide +kernel) (by decide +kernel) (by decide +kernel))
                                          obtain ⟨v332, ev332⟩ : ∃ y : Int32, y = x1_2 + (1) := ⟨_, rfl⟩
                                          have k_1 : (1 : Int32).toInt = 1 := by decide
                                          have f333 : v332.toInt = x1_2.toInt + (1) := by rw [ev332]; exact i_addc k_1 (by omega) (by omega)
                                          refine lv_iinc (v := v332) (lv' := [(1, .int v332), (0, .ref a0)]) hx hb dX4_readSum_219 hl (k := 0) rfl (by rw [ev332]; rfl) (by decide) rfl (fun ls hl => ?_)
                                          refine lv_goto (tgt := 2) hx hb dX4_readSum_222 (by decide) ?_
                                          exact ih2 v332 (nx T (nx T b_2)) H331 L331 ls S331 (by omega) fq331 (by rw [u2_1]; exact sumR_st (by omega) hp314 y328) tk331 (by omega) (lv_sub hl [0, 1] rfl)
                                        · have b329 : v328.toInt = (0 : Int32).toInt := i_eq.mp c329
                                          exact absurd b329 (by omega)
                                      · skip
                                        refine lv_if_ne (tgt := 212) hx hb dX4_readSum_207 (by decide) (fun c334 => ?_) (fun c334 => ?_)
                                        · have b334 : ¬ v328.toInt = (0 : Int32).toInt := fun z9 => c334 (i_eq.mpr z9)
                                          exact absurd b334 (by omega)
                                        · have b334 : v328.toInt = (0 : Int32).toInt := i_eq.mp c334
                                          refine lv_iconst (v := 1) hx hb dX4_readSum_210 (by decide) ?_
                                          have k_1 : (1 : Int32).toInt = 1 := by decide
                                          exact retE_z hQ C S326 hr dX4_readSum_211 (z01 (by omega) (by omega)) (⟨⟨by omega, tk326⟩, Rs.ok (by rw [u2_1]; exact sumR_ok (by omega) hp314 y328) (by omega) ts326⟩)
                                · skip
                                  refine lv_if_eq (tgt := 173) hx hb dX4_readSum_161 (by decide) (fun c335 => ?_) (fun c335 => ?_)
                                  · have b335 : v311.toInt = (0 : Int32).toInt := i_eq.mp c335
                                    refine lv_aload_n hx hb dX4_readSum_173 rfl (lv_at hl 1 rfl) ?_
                                    refine q_grS (T := TX4) C S_2.1 ga0 0 kF_X4_39 dX4_readSum_174 rfl rfl (by decide) rfl (by decide) kSF_X4_tape (fun g336 => ?_)
                                    rw [show fR D H_2 4 a0 0 = tp from (S_2.2.1.fR ga0 rfl (by decide) (by decide +kernel)).trans htp]
                                    refine callV_Ei C S_2 (c_X9_refuse_f l D G tp T b_2 gtp) kV_X4_43 gtp (⟨trivial, u2_0⟩) (by decide +kernel) dX4_readSum_177 hl.1 rfl rfl (by decide) cd_X9_refuse ⟨Nat.le_of_ble_eq_true rfl, Nat.le_of_ble_eq_true rfl, Nat.le_of_ble_eq_true rfl, Nat.le_of_ble_eq_true rfl, Nat.le_of_ble_eq_true rfl⟩ (fun v337 H337 L337 S337 K337 q337 => ?_)
                                    obtain ⟨q337, fq337⟩ := q337
                                    have tk337 : Lw D s.heap H337 a0 := u2_2.trans (Lw.keep S_2.1 ga0 K337 (by decide +kernel) (by decide +kernel) (by decide +kernel))
                                    have z337 := fq337.1
                                    exact retE_z hQ C S337 hr dX4_readSum_180 (z01 (by omega) (by omega)) (⟨⟨by omega, tk337⟩, Rs.no (by rw [u2_1]; exact sumR_no (by omega) (by simp [prt, hn173, y176, y203, y230, y257, y284, y311])) (by omega) fq337.2⟩)
                                  · have b335 : ¬ v311.toInt = (0 : Int32).toInt := fun z9 => c335 (i_eq.mpr z9)
                                    exact absurd b335 (by omega)
                              · have b308 : ¬ v284.toInt = (0 : Int32).toInt := fun z9 => c308 (i_eq.mpr z9)
                                exact absurd b308 (by omega)
                          · have b281 : ¬ v257.toInt = (0 : Int32).toInt := fun z9 => c281 (i_eq.mpr z9)
                            exact absurd b281 (by omega)
                      · have b254 : ¬ v230.toInt = (0 : Int32).toInt := fun z9 => c254 (i_eq.mpr z9)
                        exact absurd b254 (by omega)
                  · have b227 : ¬ v203.toInt = (0 : Int32).toInt := fun z9 => c227 (i_eq.mpr z9)
                    exact absurd b227 (by omega)
              · have b200 : ¬ v176.toInt = (0 : Int32).toInt := fun z9 => c200 (i_eq.mpr z9)
                exact absurd b200 (by omega)
          · have b172 : ¬ (999 : Int32).toInt < (fI D H_2 9 tp 6).toInt := fun z9 => c172 (i_lt.mpr z9)
            have hn338 : kd T b_2 = 2 ∧ nv T b_2 ≤ 999 := by have z9 := u2_0.2.1; have z8 := u2_0.2.2.2.1 (by omega); exact ⟨by omega, by omega⟩
            refine lv_aload_n hx hb dX4_readSum_33 rfl (lv_at hl 1 rfl) ?_
            refine lv_aload_n hx hb dX4_readSum_34 rfl (lv_at hl 1 rfl) ?_
            refine q_grS (T := TX4) C S_2.1 ga0 0 kF_X4_39 dX4_readSum_35 rfl rfl (by decide) rfl (by decide) kSF_X4_tape (fun g339 => ?_)
            rw [show fR D H_2 4 a0 0 = tp from (S_2.2.1.fR ga0 rfl (by decide) (by decide +kernel)).trans htp]
            refine q_gi (T := TX9) C S_2.1 gtp 6 kF_X4_113 dX4_readSum_38 rfl rfl (by decide) rfl (by decide) rfl ?_
            refine callV_Ev C S_2 (c_X4_put l D G a0 (fI D H_2 9 tp 6) ga0) kV_X4_55 ga0 (trivial) (by decide +kernel) dX4_readSum_41 hl.1 rfl rfl (by decide) cd_X4_put ⟨Nat.le_of_ble_eq_true rfl, Nat.le_of_ble_eq_true rfl, Nat.le_of_ble_eq_true rfl, Nat.le_of_ble_eq_true rfl, Nat.le_of_ble_eq_true rfl⟩ (fun H340 L340 S340 K340 q340 => ?_)
            obtain ⟨qa340, qb340, tq340⟩ := q340
            have tk340 : Lw D s.heap H340 a0 := u2_2.trans tq340
            have ts340 := u2_0.keep S_2.1 gtp K340 (by decide +kernel)
            refine lv_goto (tgt := 181) hx hb dX4_readSum_44 (by decide) ?_
            have hp341 : prt T b_2 = true := by simp [prt, hn338]
            refine lv_aload_n hx hb dX4_readSum_181 rfl (lv_at hl 1 rfl) ?_
            refine q_grS (T := TX4) C S340.1 ga0 0 kF_X4_39 dX4_readSum_182 rfl rfl (by decide) rfl (by decide) kSF_X4_tape (fun g342 => ?_)
            rw [show fR D H340 4 a0 0 = tp from (S340.2.1.fR ga0 rfl (by decide) (by decide +kernel)).trans htp]
            refine callV_Ev C S340 (c_X9_next_f l D G tp T b_2 gtp) kV_X4_47 gtp (⟨trivial, ts340⟩) (by decide +kernel) dX4_readSum_185 hl.1 rfl rfl (by decide) cd_X9_next ⟨Nat.le_of_ble_eq_true rfl, Nat.le_of_ble_eq_true rfl, Nat.le_of_ble_eq_true rfl, Nat.le_of_ble_eq_true rfl, Nat.le_of_ble_eq_true rfl⟩ (fun H343 L343 S343 K343 q343 => ?_)
            obtain ⟨q343, fq343⟩ := q343
            have tk343 : Lw D s.heap H343 a0 := tk340.trans (Lw.keep S340.1 ga0 K343 (by decide +kernel) (by decide +kernel) (by decide +kernel))
            refine lv_iload_n hx hb dX4_readSum_188 rfl (lv_at hl 0 rfl) ?_
            have k_0 : (0 : Int32).toInt = 0 := by decide
            refine lv_if_le (tgt := 198) hx hb dX4_readSum_189 (by decide) (fun c344 => ?_) (fun c344 => ?_)
            · have b344 : x1_2.toInt ≤ (0 : Int32).toInt := i_le.mp c344
              refine lv_aload_n hx hb dX4_readSum_198 rfl (lv_at hl 1 rfl) ?_
              refine q_grS (T := TX4) C S343.1 ga0 0 kF_X4_39 dX4_readSum_199 rfl rfl (by decide) rfl (by decide) kSF_X4_tape (fun g345 => ?_)
              rw [show fR D H343 4 a0 0 = tp from (S343.2.1.fR ga0 rfl (by decide) (by decide +kernel)).trans htp]
              refine lv_bipush (v := 43) hx hb dX4_readSum_202 (by decide) ?_
              have k_43 : (43 : Int32).toInt = 43 := by decide
              refine callV_Pi C S343.1 S343.2.1.2.1 (c_X9_isSign_f l D G tp (43 : Int32) 43 T (nx T b_2) gtp (by omega) (by decide)) kV_X4_84 gtp (⟨trivial, fq343⟩) dX4_readSum_204 hl.1 rfl rfl (by decide) cd_X9_isSign ⟨Nat.le_of_ble_eq_true rfl, Nat.le_of_ble_eq_true rfl, Nat.le_of_ble_eq_true rfl, Nat.le_of_ble_eq_true rfl, Nat.le_of_ble_eq_true rfl⟩ (fun v346 q346 => ?_)
              obtain ⟨q346, fq346⟩ := q346
              rcases fq346 with ⟨z346, y346⟩ | ⟨z346, y346⟩
              · skip
                refine lv_if_ne (tgt := 212) hx hb dX4_readSum_207 (by decide) (fun c347 => ?_) (fun c347 => ?_)
                · have b347 : ¬ v346.toInt = (0 : Int32).toInt := fun z9 => c347 (i_eq.mpr z9)
                  refine lv_aload_n hx hb dX4_readSum_212 rfl (lv_at hl 1 rfl) ?_
                  refine q_grS (T := TX4) C S343.1 ga0 0 kF_X4_39 dX4_readSum_213 rfl rfl (by decide) rfl (by decide) kSF_X4_tape (fun g348 => ?_)
                  rw [show fR D H343 4 a0 0 = tp from (S343.2.1.fR ga0 rfl (by decide) (by decide +kernel)).trans htp]
                  refine callV_Ev C S343 (c_X9_next_f l D G tp T (nx T b_2) gtp) kV_X4_47 gtp (⟨trivial, fq343⟩) (by decide +kernel) dX4_readSum_216 hl.1 rfl rfl (by decide) cd_X9_next ⟨Nat.le_of_ble_eq_true rfl, Nat.le_of_ble_eq_true rfl, Nat.le_of_ble_eq_true rfl, Nat.le_of_ble_eq_true rfl, Nat.le_of_ble_eq_true rfl⟩ (fun H349 L349 S349 K349 q349 => ?_)
                  obtain ⟨q349, fq349⟩ := q349
                  have tk349 : Lw D s.heap H349 a0 := tk343.trans (Lw.keep S343.1 ga0 K349 (by decide +kernel) (by decide +kernel) (by decide +kernel))
                  obtain ⟨v350, ev350⟩ : ∃ y : Int32, y = x1_2 + (1) := ⟨_, rfl⟩
                  have k_1 : (1 : Int32).toInt = 1 := by decide
                  have f351 : v350.toInt = x1_2.toInt + (1) := by rw [ev350]; exact i_addc k_1 (by omega) (by omega)
                  refine lv_iinc (v := v350) (lv' := [(1, .int v350), (0, .ref a0)]) hx hb dX4_readSum_219 hl (k := 0) rfl (by rw [ev350]; rfl) (by decide) rfl (fun ls hl => ?_)
                  refine lv_goto (tgt := 2) hx hb dX4_readSum_222 (by decide) ?_
                  exact ih2 v350 (nx T (nx T b_2)) H349 L349 ls S349 (by omega) fq349 (by rw [u2_1]; exact sumR_st (by omega) hp341 y346) tk349 (by omega) (lv_sub hl [0, 1] rfl)
                · have b347 : v346.toInt = (0 : Int32).toInt := i_eq.mp c347
                  exact absurd b347 (by omega)
              · skip
                refine lv_if_ne (tgt := 212) hx hb dX4_readSum_207 (by decide) (fun c352 => ?_) (fun c352 => ?_)
                · have b352 : ¬ v346.toInt = (0 : Int32).toInt := fun z9 => c352 (i_eq.mpr z9)
                  exact absurd b352 (by omega)
                · have b352 : v346.toInt = (0 : Int32).toInt := i_eq.mp c352
                  refine lv_iconst (v := 1) hx hb dX4_readSum_210 (by decide) ?_
                  have k_1 : (1 : Int32).toInt = 1 := by decide
                  exact retE_z hQ C S343 hr dX4_readSum_211 (z01 (by omega) (by omega)) (⟨⟨by omega, tk343⟩, Rs.ok (by rw [u2_1]; exact sumR_ok (by omega) hp341 y346) (by omega) fq343⟩)
            · have b344 : ¬ x1_2.toInt ≤ (0 : Int32).toInt := fun z9 => c344 (i_le.mpr z9)
              refine lv_aload_n hx hb dX4_readSum_192 rfl (lv_at hl 1 rfl) ?_
              refine lv_bipush (v := -14) hx hb dX4_readSum_193 (by decide) ?_
              have k_m14 : (-14 : Int32).toInt = -14 := by decide
              refine callV_Ev C S343 (c_X4_put l D G a0 (-14 : Int32) ga0) kV_X4_55 ga0 (trivial) (by decide +kernel) dX4_readSum_195 hl.1 rfl rfl (by decide) cd_X4_put ⟨Nat.le_of_ble_eq_true rfl, Nat.le_of_ble_eq_true rfl, Nat.le_of_ble_eq_true rfl, Nat.le_of_ble_eq_true rfl, Nat.le_of_ble_eq_true rfl⟩ (fun H353 L353 S353 K353 q353 => ?_)
              obtain ⟨qa353, qb353, tq353⟩ := q353
              have tk353 : Lw D s.heap H353 a0 := tk343.trans tq353
              have ts353 := fq343.keep S343.1 gtp K353 (by decide +kernel)
              refine lv_aload_n hx hb dX4_readSum_198 rfl (lv_at hl 1 rfl) ?_
              refine q_grS (T := TX4) C S353.1 ga0 0 kF_X4_39 dX4_readSum_199 rfl rfl (by decide) rfl (by decide) kSF_X4_tape (fun g354 => ?_)
              rw [show fR D H353 4 a0 0 = tp from (S353.2.1.fR ga0 rfl (by decide) (by decide +kernel)).trans htp]
              refine lv_bipush (v := 43) hx hb dX4_readSum_202 (by decide) ?_
              have k_43 : (43 : Int32).toInt = 43 := by decide
              refine callV_Pi C S353.1 S353.2.1.2.1 (c_X9_isSign_f l D G tp (43 : Int32) 43 T (nx T b_2) gtp (by omega) (by decide)) kV_X4_84 gtp (⟨trivial, ts353⟩) dX4_readSum_204 hl.1 rfl rfl (by decide) cd_X9_isSign ⟨Nat.le_of_ble_eq_true rfl, Nat.le_of_ble_eq_true rfl, Nat.le_of_ble_eq_true rfl, Nat.le_of_ble_eq_true rfl, Nat.le_of_ble_eq_true rfl⟩ (fun v355 q355 => ?_)
              obtain ⟨q355, fq355⟩ := q355
              rcases fq355 with ⟨z355, y355⟩ | ⟨z355, y355⟩
              · skip
                refine lv_if_ne (tgt := 212) hx hb dX4_readSum_207 (by decide) (fun c356 => ?_) (fun c356 => ?_)
                · have b356 : ¬ v355.toInt = (0 : Int32).toInt := fun z9 => c356 (i_eq.mpr z9)
                  refine lv_aload_n hx hb dX4_readSum_212 rfl (lv_at hl 1 rfl) ?_
                  refine q_grS (T := TX4) C S353.1 ga0 0 kF_X4_39 dX4_readSum_213 rfl rfl (by decide) rfl (by decide) kSF_X4_tape (fun g357 => ?_)
                  rw [show fR D H353 4 a0 0 = tp from (S353.2.1.fR ga0 rfl (by decide) (by decide +kernel)).trans htp]
                  refine callV_Ev C S353 (c_X9_next_f l D G tp T (nx T b_2) gtp) kV_X4_47 gtp (⟨trivial, ts353⟩) (by decide +kernel) dX4_readSum_216 hl.1 rfl rfl (by decide) cd_X9_next ⟨Nat.le_of_ble_eq_true rfl, Nat.le_of_ble_eq_true rfl, Nat.le_of_ble_eq_true rfl, Nat.le_of_ble_eq_true rfl, Nat.le_of_ble_eq_true rfl⟩ (fun H358 L358 S358 K358 q358 => ?_)
                  obtain ⟨q358, fq358⟩ := q358
                  have tk358 : Lw D s.heap H358 a0 := tk353.trans (Lw.keep S353.1 ga0 K358 (by decide +kernel) (by decide +kernel) (by decide +kernel))
                  obtain ⟨v359, ev359⟩ : ∃ y : Int32, y = x1_2 + (1) := ⟨_, rfl⟩
                  have k_1 : (1 : Int32).toInt = 1 := by decide
                  have f360 : v359.toInt = x1_2.toInt + (1) := by rw [ev359]; exact i_addc k_1 (by omega) (by omega)
                  refine lv_iinc (v := v359) (lv' := [(1, .int v359), (0, .ref a0)]) hx hb dX4_readSum_219 hl (k := 0) rfl (by rw [ev359]; rfl) (by decide) rfl (fun ls hl => ?_)
                  refine lv_goto (tgt := 2) hx hb dX4_readSum_222 (by decide) ?_
                  exact ih2 v359 (nx T (nx T b_2)) H358 L358 ls S358 (by omega) fq358 (by rw [u2_1]; exact sumR_st (by omega) hp341 y355) tk358 (by omega) (lv_sub hl [0, 1] rfl)
                · have b356 : v355.toInt = (0 : Int32).toInt := i_eq.mp c356
                  exact absurd b356 (by omega)
              · skip
                refine lv_if_ne (tgt := 212) hx hb dX4_readSum_207 (by decide) (fun c361 => ?_) (fun c361 => ?_)
                · have b361 : ¬ v355.toInt = (0 : Int32).toInt := fun z9 => c361 (i_eq.mpr z9)
                  exact absurd b361 (by omega)
                · have b361 : v355.toInt = (0 : Int32).toInt := i_eq.mp c361
                  refine lv_iconst (v := 1) hx hb dX4_readSum_210 (by decide) ?_
                  have k_1 : (1 : Int32).toInt = 1 := by decide
                  exact retE_z hQ C S353 hr dX4_readSum_211 (z01 (by omega) (by omega)) (⟨⟨by omega, tk353⟩, Rs.ok (by rw [u2_1]; exact sumR_ok (by omega) hp341 y355) (by omega) ts353⟩)
  have k_0 : (0 : Int32).toInt = 0 := by decide
  exact Lp2 401 (0 : Int32) b s.heap [] ls S (by omega) ts0 (congrArg (fun n9 => sumR T n9 b) (show 400 = 400 - (0 : Int32).toInt.toNat by decide)) tk0  (by omega) (lv_sub hl [0, 1] rfl)

set_option maxRecDepth 100000 in
set_option maxHeartbeats 4000000 in
theorem c_X4_readComparison (l : Launch) (D : DD) (G : Nat → Nat) (a0 : Nat) (tp : Nat) (T : Tx) (b : Nat) (ga0 : G a0 = 21) : CE l D G yX4_readComparison cX4_readComparison 2 (some .boolean) 6 [.ref a0] (fun H => (True) ∧ (fR D H 4 a0 0 = tp ∧ TS D H tp T b)) [(2, 3), (2, 4), (2, 5), (2, 6), (2, 2), (22, 0), (21, 3)] (xI (fun H r H1 => ((0 ≤ r.toInt ∧ r.toInt ≤ 1) ∧ (Lw D H H1 a0)) ∧ (Rs D H1 tp T (cmpF T b) r))) := by
  refine enter (by decide) (Nat.le_of_ble_eq_true rfl) ?_
  intro p e s m args below meth c ls Q hA hQ C hr hO hpre hl
  have hx := C.1
  have hb := C.2.1
  have S : Sd D G [(2, 3), (2, 4), (2, 5), (2, 6), (2, 2), (22, 0), (21, 3)] s.heap s.heap [] := Sd.start hO
  have hl : lv_has ls 2 [(0, .ref a0)] := hl
  obtain ⟨hpre, hf⟩ := hpre
  obtain ⟨htp, ts0⟩ := hf
  have gtp : G tp = 2 := by rw [← htp]; exact hO.rol ga0 rfl (by decide) rfl
  have hT : T.2 ≤ 400 := ts0.le hO gtp
  have tk0 : Lw D s.heap s.heap a0 := Lw.refl
  refine lv_aload_n hx hb dX4_readComparison_0 rfl (lv_at hl 0 rfl) ?_
  refine callV_Ei C S (c_X4_readSum l D G a0 tp T b ga0) kV_X4_107 ga0 (⟨trivial, ⟨htp, ts0⟩⟩) (by decide +kernel) dX4_readComparison_1 hl.1 rfl rfl (by decide) cd_X4_readSum ⟨Nat.le_of_ble_eq_true rfl, Nat.le_of_ble_eq_true rfl, Nat.le_of_ble_eq_true rfl, Nat.le_of_ble_eq_true rfl, Nat.le_of_ble_eq_true rfl⟩ (fun v1 H1 L1 S1 K1 q1 => ?_)
  obtain ⟨q1, fq1⟩ := q1
  obtain ⟨q1, tq1⟩ := q1
  have tk1 : Lw D s.heap H1 a0 := tk0.trans tq1
  rcases fq1 with ⟨c1, y1, z1, ts1⟩ | ⟨e1, y1, z1, wr1⟩
  · skip
    have k_0 : (0 : Int32).toInt = 0 := by decide
    refine lv_if_ne (tgt := 9) hx hb dX4_readComparison_4 (by decide) (fun c2 => ?_) (fun c2 => ?_)
    · have b2 : ¬ v1.toInt = (0 : Int32).toInt := fun z9 => c2 (i_eq.mpr z9)
      refine lv_aload_n hx hb dX4_readComparison_9 rfl (lv_at hl 0 rfl) ?_
      refine q_grS (T := TX4) C S1.1 ga0 0 kF_X4_39 dX4_readComparison_10 rfl rfl (by decide) rfl (by decide) kSF_X4_tape (fun g3 => ?_)
      rw [show fR D H1 4 a0 0 = tp from (S1.2.1.fR ga0 rfl (by decide) (by decide +kernel)).trans htp]
      refine lv_bipush (v := 60) hx hb dX4_readComparison_13 (by decide) ?_
      have k_60 : (60 : Int32).toInt = 60 := by decide
      refine callV_Pi C S1.1 S1.2.1.2.1 (c_X9_isSign_f l D G tp (60 : Int32) 60 T c1 gtp (by omega) (by decide)) kV_X4_84 gtp (⟨trivial, ts1⟩) dX4_readComparison_15 hl.1 rfl rfl (by decide) cd_X9_isSign ⟨Nat.le_of_ble_eq_true rfl, Nat.le_of_ble_eq_true rfl, Nat.le_of_ble_eq_true rfl, Nat.le_of_ble_eq_true rfl, Nat.le_of_ble_eq_true rfl⟩ (fun v4 q4 => ?_)
      obtain ⟨q4, fq4⟩ := q4
      rcases fq4 with ⟨z4, y4⟩ | ⟨z4, y4⟩
      · skip
        refine lv_istore_n (lv' := [(1, .int v4), (0, .ref a0)]) hx hb dX4_readComparison_18 rfl hl (by decide) rfl (fun ls hl => ?_)
        refine lv_iload_n hx hb dX4_readComparison_19 rfl (lv_at hl 0 rfl) ?_
        refine lv_if_ne (tgt := 43) hx hb dX4_readComparison_20 (by decide) (fun c5 => ?_) (fun c5 => ?_)
        · have b5 : ¬ v4.toInt = (0 : Int32).toInt := fun z9 => c5 (i_eq.mpr z9)
          refine lv_aload_n hx hb dX4_readComparison_43 rfl (lv_at hl 1 rfl) ?_
          refine q_grS (T := TX4) C S1.1 ga0 0 kF_X4_39 dX4_readComparison_44 rfl rfl (by decide) rfl (by decide) kSF_X4_tape (fun g6 => ?_)
          rw [show fR D H1 4 a0 0 = tp from (S1.2.1.fR ga0 rfl (by decide) (by decide +kernel)).trans htp]
          refine callV_Ev C S1 (c_X9_next_f l D G tp T c1 gtp) kV_X4_47 gtp (⟨trivial, ts1⟩) (by decide +kernel) dX4_readComparison_47 hl.1 rfl rfl (by decide) cd_X9_next ⟨Nat.le_of_ble_eq_true rfl, Nat.le_of_ble_eq_true rfl, Nat.le_of_ble_eq_true rfl, Nat.le_of_ble_eq_true rfl, Nat.le_of_ble_eq_true rfl⟩ (fun H7 L7 S7 K7 q7 => ?_)
          obtain ⟨q7, fq7⟩ := q7
          have tk7 : Lw D s.heap H7 a0 := tk1.trans (Lw.keep S1.1 ga0 K7 (by decide +kernel) (by decide +kernel) (by decide +kernel))
          refine lv_aload_n hx hb dX4_readComparison_50 rfl (lv_at hl 1 rfl) ?_
          refine callV_Ei C S7 (c_X4_readSum l D G a0 tp T (nx T c1) ga0) kV_X4_107 ga0 (⟨trivial, ⟨(S7.2.1.fR ga0 rfl (by decide) (by decide +kernel)).trans htp, fq7⟩⟩) (by decide +kernel) dX4_readComparison_51 hl.1 rfl rfl (by decide) cd_X4_readSum ⟨Nat.le_of_ble_eq_true rfl, Nat.le_of_ble_eq_true rfl, Nat.le_of_ble_eq_true rfl, Nat.le_of_ble_eq_true rfl, Nat.le_of_ble_eq_true rfl⟩ (fun v8 H8 L8 S8 K8 q8 => ?_)
          obtain ⟨q8, fq8⟩ := q8
          obtain ⟨q8, tq8⟩ := q8
          have tk8 : Lw D s.heap H8 a0 := tk7.trans tq8
          rcases fq8 with ⟨c8, y8, z8, ts8⟩ | ⟨e8, y8, z8, wr8⟩
          · skip
            refine lv_if_ne (tgt := 59) hx hb dX4_readComparison_54 (by decide) (fun c9 => ?_) (fun c9 => ?_)
            · have b9 : ¬ v8.toInt = (0 : Int32).toInt := fun z9 => c9 (i_eq.mpr z9)
              refine lv_aload_n hx hb dX4_readComparison_59 rfl (lv_at hl 1 rfl) ?_
              refine lv_iload_n hx hb dX4_readComparison_60 rfl (lv_at hl 0 rfl) ?_
              refine lv_if_eq (tgt := 69) hx hb dX4_readComparison_61 (by decide) (fun c10 => ?_) (fun c10 => ?_)
              · have b10 : v4.toInt = (0 : Int32).toInt := i_eq.mp c10
                exact absurd b10 (by omega)
              · have b10 : ¬ v4.toInt = (0 : Int32).toInt := fun z9 => c10 (i_eq.mpr z9)
                refine lv_bipush (v := -15) hx hb dX4_readComparison_64 (by decide) ?_
                refine lv_goto (tgt := 71) hx hb dX4_readComparison_66 (by decide) ?_
                have k_m15 : (-15 : Int32).toInt = -15 := by decide
                refine callV_Ev C S8 (c_X4_put l D G a0 (-15 : Int32) ga0) kV_X4_55 ga0 (trivial) (by decide +kernel) dX4_readComparison_71 hl.1 rfl rfl (by decide) cd_X4_put ⟨Nat.le_of_ble_eq_true rfl, Nat.le_of_ble_eq_true rfl, Nat.le_of_ble_eq_true rfl, Nat.le_of_ble_eq_true rfl, Nat.le_of_ble_eq_true rfl⟩ (fun H11 L11 S11 K11 q11 => ?_)
                obtain ⟨qa11, qb11, tq11⟩ := q11
                have tk11 : Lw D s.heap H11 a0 := tk8.trans tq11
                have ts11 := ts8.keep S8.1 gtp K11 (by decide +kernel)
                refine lv_iconst (v := 1) hx hb dX4_readComparison_74 (by decide) ?_
                have k_1 : (1 : Int32).toInt = 1 := by decide
                exact retE_z hQ C S11 hr dX4_readComparison_75 (z01 (by omega) (by omega)) (⟨⟨by omega, tk11⟩, Rs.ok (by simp [cmpF, y1, y4, y8]) (by omega) ts11⟩)
            · have b9 : v8.toInt = (0 : Int32).toInt := i_eq.mp c9
              exact absurd b9 (by omega)
          · skip
            refine lv_if_ne (tgt := 59) hx hb dX4_readComparison_54 (by decide) (fun c12 => ?_) (fun c12 => ?_)
            · have b12 : ¬ v8.toInt = (0 : Int32).toInt := fun z9 => c12 (i_eq.mpr z9)
              exact absurd b12 (by omega)
            · have b12 : v8.toInt = (0 : Int32).toInt := i_eq.mp c12
              refine lv_iconst (v := 0) hx hb dX4_readComparison_57 (by decide) ?_
              exact retE_z hQ C S8 hr dX4_readComparison_58 (z01 (by omega) (by omega)) (⟨⟨by omega, tk8⟩, Rs.no (by simp [cmpF, y1, y4, y8]) (by omega) wr8⟩)
        · have b5 : v4.toInt = (0 : Int32).toInt := i_eq.mp c5
          exact absurd b5 (by omega)
      · skip
        refine lv_istore_n (lv' := [(1, .int v4), (0, .ref a0)]) hx hb dX4_readComparison_18 rfl hl (by decide) rfl (fun ls hl => ?_)
        refine lv_iload_n hx hb dX4_readComparison_19 rfl (lv_at hl 0 rfl) ?_
        refine lv_if_ne (tgt := 43) hx hb dX4_readComparison_20 (by decide) (fun c13 => ?_) (fun c13 => ?_)
        · have b13 : ¬ v4.toInt = (0 : Int32).toInt := fun z9 => c13 (i_eq.mpr z9)
          exact absurd b13 (by omega)
        · have b13 : v4.toInt = (0 : Int32).toInt := i_eq.mp c13
          refine lv_aload_n hx hb dX4_readComparison_23 rfl (lv_at hl 1 rfl) ?_
          refine q_grS (T := TX4) C S1.1 ga0 0 kF_X4_39 dX4_readComparison_24 rfl rfl (by decide) rfl (by decide) kSF_X4_tape (fun g14 => ?_)
          rw [show fR D H1 4 a0 0 = tp from (S1.2.1.fR ga0 rfl (by decide) (by decide +kernel)).trans htp]
          refine lv_bipush (v := 62) hx hb dX4_readComparison_27 (by decide) ?_
          have k_62 : (62 : Int32).toInt = 62 := by decide
          refine callV_Pi C S1.1 S1.2.1.2.1 (c_X9_isSign_f l D G tp (62 : Int32) 62 T c1 gtp (by omega) (by decide)) kV_X4_84 gtp (⟨trivial, ts1⟩) dX4_readComparison_29 hl.1 rfl rfl (by decide) cd_X9_isSign ⟨Nat.le_of_ble_eq_true rfl, Nat.le_of_ble_eq_true rfl, Nat.le_of_ble_eq_true rfl, Nat.le_of_ble_eq_true rfl, Nat.le_of_ble_eq_true rfl⟩ (fun v15 q15 => ?_)
          obtain ⟨q15, fq15⟩ := q15
          rcases fq15 with ⟨z15, y15⟩ | ⟨z15, y15⟩
          · skip
            refine lv_if_ne (tgt := 43) hx hb dX4_readComparison_32 (by decide) (fun c16 => ?_) (fun c16 => ?_)
            · have b16 : ¬ v15.toInt = (0 : Int32).toInt := fun z9 => c16 (i_eq.mpr z9)
              refine lv_aload_n hx hb dX4_readComparison_43 rfl (lv_at hl 1 rfl) ?_
              refine q_grS (T := TX4) C S1.1 ga0 0 kF_X4_39 dX4_readComparison_44 rfl rfl (by decide) rfl (by decide) kSF_X4_tape (fun g17 => ?_)
              rw [show fR D H1 4 a0 0 = tp from (S1.2.1.fR ga0 rfl (by decide) (by decide +kernel)).trans htp]
              refine callV_Ev C S1 (c_X9_next_f l D G tp T c1 gtp) kV_X4_47 gtp (⟨trivial, ts1⟩) (by decide +kernel) dX4_readComparison_47 hl.1 rfl rfl (by decide) cd_X9_next ⟨Nat.le_of_ble_eq_true rfl, Nat.le_of_ble_eq_true rfl, Nat.le_of_ble_eq_true rfl, Nat.le_of_ble_eq_true rfl, Nat.le_of_ble_eq_true rfl⟩ (fun H18 L18 S18 K18 q18 => ?_)
              obtain ⟨q18, fq18⟩ := q18
              have tk18 : Lw D s.heap H18 a0 := tk1.trans (Lw.keep S1.1 ga0 K18 (by decide +kernel) (by decide +kernel) (by decide +kernel))
              refine lv_aload_n hx hb dX4_readComparison_50 rfl (lv_at hl 1 rfl) ?_
              refine callV_Ei C S18 (c_X4_readSum l D G a0 tp T (nx T c1) ga0) kV_X4_107 ga0 (⟨trivial, ⟨(S18.2.1.fR ga0 rfl (by decide) (by decide +kernel)).trans htp, fq18⟩⟩) (by decide +kernel) dX4_readComparison_51 hl.1 rfl rfl (by decide) cd_X4_readSum ⟨Nat.le_of_ble_eq_true rfl, Nat.le_of_ble_eq_true rfl, Nat.le_of_ble_eq_true rfl, Nat.le_of_ble_eq_true rfl, Nat.le_of_ble_eq_true rfl⟩ (fun v19 H19 L19 S19 K19 q19 => ?_)
              obtain ⟨q19, fq19⟩ := q19
              obtain ⟨q19, tq19⟩ := q19
              have tk19 : Lw D s.heap H19 a0 := tk18.trans tq19
              rcases fq19 with ⟨c19, y19, z19, ts19⟩ | ⟨e19, y19, z19, wr19⟩
              · skip
                refine lv_if_ne (tgt := 59) hx hb dX4_readComparison_54 (by decide) (fun c20 => ?_) (fun c20 => ?_)
                · have b20 : ¬ v19.toInt = (0 : Int32).toInt := fun z9 => c20 (i_eq.mpr z9)
                  refine lv_aload_n hx hb dX4_readComparison_59 rfl (lv_at hl 1 rfl) ?_
                  refine lv_iload_n hx hb dX4_readComparison_60 rfl (lv_at hl 0 rfl) ?_
                  refine lv_if_eq (tgt := 69) hx hb dX4_readComparison_61 (by decide) (fun c21 => ?_) (fun c21 => ?_)
                  · have b21 : v4.toInt = (0 : Int32).toInt := i_eq.mp c21
                    refine lv_bipush (v := -16) hx hb dX4_readComparison_69 (by decide) ?_
                    have k_m16 : (-16 : Int32).toInt = -16 := by decide
                    refine callV_Ev C S19 (c_X4_put l D G a0 (-16 : Int32) ga0) kV_X4_55 ga0 (trivial) (by decide +kernel) dX4_readComparison_71 hl.1 rfl rfl (by decide) cd_X4_put ⟨Nat.le_of_ble_eq_true rfl, Nat.le_of_ble_eq_true rfl, Nat.le_of_ble_eq_true rfl, Nat.le_of_ble_eq_true rfl, Nat.le_of_ble_eq_true rfl⟩ (fun H22 L22 S22 K22 q22 => ?_)
                    obtain ⟨qa22, qb22, tq22⟩ := q22
                    have tk22 : Lw D s.heap H22 a0 := tk19.trans tq22
                    have ts22 := ts19.keep S19.1 gtp K22 (by decide +kernel)
                    refine lv_iconst (v := 1) hx hb dX4_readComparison_74 (by decide) ?_
                    have k_1 : (1 : Int32).toInt = 1 := by decide
                    exact retE_z hQ C S22 hr dX4_readComparison_75 (z01 (by omega) (by omega)) (⟨⟨by omega, tk22⟩, Rs.ok (by simp [cmpF, y1, y4, y15, y19]) (by omega) ts22⟩)
                  · have b21 : ¬ v4.toInt = (0 : Int32).toInt := fun z9 => c21 (i_eq.mpr z9)
                    exact absurd b21 (by omega)
                · have b20 : v19.toInt = (0 : Int32).toInt := i_eq.mp c20
                  exact absurd b20 (by omega)
              · skip
                refine lv_if_ne (tgt := 59) hx hb dX4_readComparison_54 (by decide) (fun c23 => ?_) (fun c23 => ?_)
                · have b23 : ¬ v19.toInt = (0 : Int32).toInt := fun z9 => c23 (i_eq.mpr z9)
                  exact absurd b23 (by omega)
                · have b23 : v19.toInt = (0 : Int32).toInt := i_eq.mp c23
                  refine lv_iconst (v := 0) hx hb dX4_readComparison_57 (by decide) ?_
                  exact retE_z hQ C S19 hr dX4_readComparison_58 (z01 (by omega) (by omega)) (⟨⟨by omega, tk19⟩, Rs.no (by simp [cmpF, y1, y4, y15, y19]) (by omega) wr19⟩)
            · have b16 : v15.toInt = (0 : Int32).toInt := i_eq.mp c16
              exact absurd b16 (by omega)
          · skip
            refine lv_if_ne (tgt := 43) hx hb dX4_readComparison_32 (by decide) (fun c24 => ?_) (fun c24 => ?_)
            · have b24 : ¬ v15.toInt = (0 : Int32).toInt := fun z9 => c24 (i_eq.mpr z9)
              exact absurd b24 (by omega)
            · have b24 : v15.toInt = (0 : Int32).toInt := i_eq.mp c24
              refine lv_aload_n hx hb dX4_readComparison_35 rfl (lv_at hl 1 rfl) ?_
              refine q_grS (T := TX4) C S1.1 ga0 0 kF_X4_39 dX4_readComparison_36 rfl rfl (by decide) rfl (by decide) kSF_X4_tape (fun g25 => ?_)
              rw [show fR D H1 4 a0 0 = tp from (S1.2.1.fR ga0 rfl (by decide) (by decide +kernel)).trans htp]
              refine callV_Ei C S1 (c_X9_refuse_f l D G tp T c1 gtp) kV_X4_43 gtp (⟨trivial, ts1⟩) (by decide +kernel) dX4_readComparison_39 hl.1 rfl rfl (by decide) cd_X9_refuse ⟨Nat.le_of_ble_eq_true rfl, Nat.le_of_ble_eq_true rfl, Nat.le_of_ble_eq_true rfl, Nat.le_of_ble_eq_true rfl, Nat.le_of_ble_eq_true rfl⟩ (fun v26 H26 L26 S26 K26 q26 => ?_)
              obtain ⟨q26, fq26⟩ := q26
              have tk26 : Lw D s.heap H26 a0 := tk1.trans (Lw.keep S1.1 ga0 K26 (by decide +kernel) (by decide +kernel) (by decide +kernel))
              have z26 := fq26.1
              exact retE_z hQ C S26 hr dX4_readComparison_42 (z01 (by omega) (by omega)) (⟨⟨by omega, tk26⟩, Rs.no (by simp [cmpF, y1, y4, y15]) (by omega) fq26.2⟩)
    · have b2 : v1.toInt = (0 : Int32).toInt := i_eq.mp c2
      exact absurd b2 (by omega)
  · skip
    have k_0 : (0 : Int32).toInt = 0 := by decide
    refine lv_if_ne (tgt := 9) hx hb dX4_readComparison_4 (by decide) (fun c27 => ?_) (fun c27 => ?_)
    · have b27 : ¬ v1.toInt = (0 : Int32).toInt := fun z9 => c27 (i_eq.mpr z9)
      exact absurd b27 (by omega)
    · have b27 : v1.toInt = (0 : Int32).toInt := i_eq.mp c27
      refine lv_iconst (v := 0) hx hb dX4_readComparison_7 (by decide) ?_
      exact retE_z hQ C S1 hr dX4_readComparison_8 (z01 (by omega) (by omega)) (⟨⟨by omega, tk1⟩, Rs.no (by simp [cmpF, y1]) (by omega) wr1⟩)

set_option maxRecDepth 100000 in
set_option maxHeartbeats 4000000 in
theorem c_X4_readAtom_d6 (l : Launch) (D : DD) (G : Nat → Nat) (a0 : Nat) (x1 : Int32) (tp : Nat) (T : Tx) (b : Nat) (ga0 : G a0 = 21) (ix1 : 6 ≤ x1.toInt ∧ x1.toInt ≤ 6) : CE l D G yX4_readAtom cX4_readAtom 4 (some .boolean) 7 [.ref a0, .int x1] (fun H => (True) ∧ (fR D H 4 a0 0 = tp ∧ TS D H tp T b)) [(2, 3), (2, 4), (2, 5), (2, 6), (2, 2), (22, 0), (21, 3)] (xI (fun H r H1 => ((0 ≤ r.toInt ∧ r.toInt ≤ 1) ∧ (Lw D H H1 a0)) ∧ (Rs D H1 tp T (atm T 0 b) r))) := by
  refine enter (by decide) (Nat.le_of_ble_eq_true rfl) ?_
  intro p e s m args below meth c ls Q hA hQ C hr hO hpre hl
  have hx := C.1
  have hb := C.2.1
  have S : Sd D G [(2, 3), (2, 4), (2, 5), (2, 6), (2, 2), (22, 0), (21, 3)] s.heap s.heap [] := Sd.start hO
  have hl : lv_has ls 4 [(0, .ref a0), (1, .int x1)] := hl
  obtain ⟨hpre, hf⟩ := hpre
  obtain ⟨htp, ts0⟩ := hf
  have gtp : G tp = 2 := by rw [← htp]; exact hO.rol ga0 rfl (by decide) rfl
  have hT : T.2 ≤ 400 := ts0.le hO gtp
  have tk0 : Lw D s.heap s.heap a0 := Lw.refl
  refine lv_aload_n hx hb dX4_readAtom_0 rfl (lv_at hl 0 rfl) ?_
  refine q_grS (T := TX4) C S.1 ga0 0 kF_X4_39 dX4_readAtom_1 rfl rfl (by decide) rfl (by decide) kSF_X4_tape (fun g1 => ?_)
  rw [show fR D s.heap 4 a0 0 = tp from htp]
  refine q_lds C ks_X4_82 dX4_readAtom_4 (fun a2 ha2 wa2 => ?_)
  refine callV_Pi C S.1 S.2.1.2.1 (c_X9_isWord_f l D G tp a2 3 w_not T b gtp ha2 (Wc.of wa2 kw_not)) kV_X4_61 gtp (⟨trivial, ts0⟩) dX4_readAtom_6 hl.1 rfl rfl (by decide) cd_X9_isWord ⟨Nat.le_of_ble_eq_true rfl, Nat.le_of_ble_eq_true rfl, Nat.le_of_ble_eq_true rfl, Nat.le_of_ble_eq_true rfl, Nat.le_of_ble_eq_true rfl⟩ (fun v3 q3 => ?_)
  obtain ⟨q3, fq3⟩ := q3
  rcases fq3 with ⟨z3, y3⟩ | ⟨z3, y3⟩
  · skip
    refine lv_istore_n (lv' := [(2, .int v3), (0, .ref a0), (1, .int x1)]) hx hb dX4_readAtom_9 rfl hl (by decide) rfl (fun ls hl => ?_)
    refine lv_iload_n hx hb dX4_readAtom_10 rfl (lv_at hl 0 rfl) ?_
    have k_0 : (0 : Int32).toInt = 0 := by decide
    refine lv_if_ne (tgt := 26) hx hb dX4_readAtom_11 (by decide) (fun c4 => ?_) (fun c4 => ?_)
    · have b4 : ¬ v3.toInt = (0 : Int32).toInt := fun z9 => c4 (i_eq.mpr z9)
      refine lv_iload_n hx hb dX4_readAtom_26 rfl (lv_at hl 2 rfl) ?_
      refine lv_bipush (v := 6) hx hb dX4_readAtom_27 (by decide) ?_
      have k_6 : (6 : Int32).toInt = 6 := by decide
      refine lv_icmp_lt (tgt := 40) hx hb dX4_readAtom_29 (by decide) (fun c5 => ?_) (fun c5 => ?_)
      · have b5 : x1.toInt < (6 : Int32).toInt := i_lt.mp c5
        exact absurd b5 (by omega)
      · have b5 : ¬ x1.toInt < (6 : Int32).toInt := fun z9 => c5 (i_lt.mpr z9)
        refine lv_aload_n hx hb dX4_readAtom_32 rfl (lv_at hl 1 rfl) ?_
        refine q_grS (T := TX4) C S.1 ga0 0 kF_X4_39 dX4_readAtom_33 rfl rfl (by decide) rfl (by decide) kSF_X4_tape (fun g6 => ?_)
        rw [show fR D s.heap 4 a0 0 = tp from htp]
        refine callV_Ei C S (c_X9_refuse_f l D G tp T b gtp) kV_X4_43 gtp (⟨trivial, ts0⟩) (by decide +kernel) dX4_readAtom_36 hl.1 rfl rfl (by decide) cd_X9_refuse ⟨Nat.le_of_ble_eq_true rfl, Nat.le_of_ble_eq_true rfl, Nat.le_of_ble_eq_true rfl, Nat.le_of_ble_eq_true rfl, Nat.le_of_ble_eq_true rfl⟩ (fun v7 H7 L7 S7 K7 q7 => ?_)
        obtain ⟨q7, fq7⟩ := q7
        have tk7 : Lw D s.heap H7 a0 := tk0.trans (Lw.keep S.1 ga0 K7 (by decide +kernel) (by decide +kernel) (by decide +kernel))
        have z7 := fq7.1
        exact retE_z hQ C S7 hr dX4_readAtom_39 (z01 (by omega) (by omega)) (⟨⟨by omega, tk7⟩, Rs.no (by rw [atm_z]; simp [clo, tlF, y3]) (by omega) fq7.2⟩)
    · have b4 : v3.toInt = (0 : Int32).toInt := i_eq.mp c4
      exact absurd b4 (by omega)
  · skip
    refine lv_istore_n (lv' := [(2, .int v3), (0, .ref a0), (1, .int x1)]) hx hb dX4_readAtom_9 rfl hl (by decide) rfl (fun ls hl => ?_)
    refine lv_iload_n hx hb dX4_readAtom_10 rfl (lv_at hl 0 rfl) ?_
    have k_0 : (0 : Int32).toInt = 0 := by decide
    refine lv_if_ne (tgt := 26) hx hb dX4_readAtom_11 (by decide) (fun c8 => ?_) (fun c8 => ?_)
    · have b8 : ¬ v3.toInt = (0 : Int32).toInt := fun z9 => c8 (i_eq.mpr z9)
      exact absurd b8 (by omega)
    · have b8 : v3.toInt = (0 : Int32).toInt := i_eq.mp c8
      refine lv_aload_n hx hb dX4_readAtom_14 rfl (lv_at hl 1 rfl) ?_
      refine q_grS (T := TX4) C S.1 ga0 0 kF_X4_39 dX4_readAtom_15 rfl rfl (by decide) rfl (by decide) kSF_X4_tape (fun g9 => ?_)
      rw [show fR D s.heap 4 a0 0 = tp from htp]
      refine lv_bipush (v := 40) hx hb dX4_readAtom_18 (by decide) ?_
      have k_40 : (40 : Int32).toInt = 40 := by decide
      refine callV_Pi C S.1 S.2.1.2.1 (c_X9_isSign_f l D G tp (40 : Int32) 40 T b gtp (by omega) (by decide)) kV_X4_84 gtp (⟨trivial, ts0⟩) dX4_readAtom_20 hl.1 rfl rfl (by decide) cd_X9_isSign ⟨Nat.le_of_ble_eq_true rfl, Nat.le_of_ble_eq_true rfl, Nat.le_of_ble_eq_true rfl, Nat.le_of_ble_eq_true rfl, Nat.le_of_ble_eq_true rfl⟩ (fun v10 q10 => ?_)
      obtain ⟨q10, fq10⟩ := q10
      rcases fq10 with ⟨z10, y10⟩ | ⟨z10, y10⟩
      · skip
        refine lv_if_eq (tgt := 99) hx hb dX4_readAtom_23 (by decide) (fun c11 => ?_) (fun c11 => ?_)
        · have b11 : v10.toInt = (0 : Int32).toInt := i_eq.mp c11
          exact absurd b11 (by omega)
        · have b11 : ¬ v10.toInt = (0 : Int32).toInt := fun z9 => c11 (i_eq.mpr z9)
          refine lv_iload_n hx hb dX4_readAtom_26 rfl (lv_at hl 2 rfl) ?_
          refine lv_bipush (v := 6) hx hb dX4_readAtom_27 (by decide) ?_
          have k_6 : (6 : Int32).toInt = 6 := by decide
          refine lv_icmp_lt (tgt := 40) hx hb dX4_readAtom_29 (by decide) (fun c12 => ?_) (fun c12 => ?_)
          · have b12 : x1.toInt < (6 : Int32).toInt := i_lt.mp c12
            exact absurd b12 (by omega)
          · have b12 : ¬ x1.toInt < (6 : Int32).toInt := fun z9 => c12 (i_lt.mpr z9)
            refine lv_aload_n hx hb dX4_readAtom_32 rfl (lv_at hl 1 rfl) ?_
            refine q_grS (T := TX4) C S.1 ga0 0 kF_X4_39 dX4_readAtom_33 rfl rfl (by decide) rfl (by decide) kSF_X4_tape (fun g13 => ?_)
            rw [show fR D s.heap 4 a0 0 = tp from htp]
            refine callV_Ei C S (c_X9_refuse_f l D G tp T b gtp) kV_X4_43 gtp (⟨trivial, ts0⟩) (by decide +kernel) dX4_readAtom_36 hl.1 rfl rfl (by decide) cd_X9_refuse ⟨Nat.le_of_ble_eq_true rfl, Nat.le_of_ble_eq_true rfl, Nat.le_of_ble_eq_true rfl, Nat.le_of_ble_eq_true rfl, Nat.le_of_ble_eq_true rfl⟩ (fun v14 H14 L14 S14 K14 q14 => ?_)
            obtain ⟨q14, fq14⟩ := q14
            have tk14 : Lw D s.heap H14 a0 := tk0.trans (Lw.keep S.1 ga0 K14 (by decide +kernel) (by decide +kernel) (by decide +kernel))
            have z14 := fq14.1
            exact retE_z hQ C S14 hr dX4_readAtom_39 (z01 (by omega) (by omega)) (⟨⟨by omega, tk14⟩, Rs.no (by rw [atm_z]; simp [clo, tlF, y3, y10]) (by omega) fq14.2⟩)
      · skip
        refine lv_if_eq (tgt := 99) hx hb dX4_readAtom_23 (by decide) (fun c15 => ?_) (fun c15 => ?_)
        · have b15 : v10.toInt = (0 : Int32).toInt := i_eq.mp c15
          refine lv_aload_n hx hb dX4_readAtom_99 rfl (lv_at hl 1 rfl) ?_
          refine callV_Pi C S.1 S.2.1.2.1 (c_X4_presentTruth l D G a0 tp T b ga0) kV_X4_91 ga0 (⟨trivial, ⟨htp, ts0⟩⟩) dX4_readAtom_100 hl.1 rfl rfl (by decide) cd_X4_presentTruth ⟨Nat.le_of_ble_eq_true rfl, Nat.le_of_ble_eq_true rfl, Nat.le_of_ble_eq_true rfl, Nat.le_of_ble_eq_true rfl, Nat.le_of_ble_eq_true rfl⟩ (fun v16 q16 => ?_)
          obtain ⟨q16, fq16⟩ := q16
          refine lv_istore_n (lv' := [(3, .int v16), (2, .int v3), (0, .ref a0), (1, .int x1)]) hx hb dX4_readAtom_103 rfl hl (by decide) rfl (fun ls hl => ?_)
          refine lv_iload_n hx hb dX4_readAtom_104 rfl (lv_at hl 0 rfl) ?_
          refine lv_iconst (v := -1) hx hb dX4_readAtom_105 (by decide) ?_
          have k_m1 : (-1 : Int32).toInt = -1 := by decide
          refine lv_icmp_ne (tgt := 114) hx hb dX4_readAtom_106 (by decide) (fun c17 => ?_) (fun c17 => ?_)
          · have b17 : ¬ v16.toInt = (-1 : Int32).toInt := fun z9 => c17 (i_eq.mpr z9)
            have yt18 : ¬ tru T b = -1 := by omega
            refine lv_aload_n hx hb dX4_readAtom_114 rfl (lv_at hl 2 rfl) ?_
            refine lv_iload_n hx hb dX4_readAtom_115 rfl (lv_at hl 0 rfl) ?_
            refine callV_Ev C S (c_X4_put l D G a0 v16 ga0) kV_X4_55 ga0 (trivial) (by decide +kernel) dX4_readAtom_116 hl.1 rfl rfl (by decide) cd_X4_put ⟨Nat.le_of_ble_eq_true rfl, Nat.le_of_ble_eq_true rfl, Nat.le_of_ble_eq_true rfl, Nat.le_of_ble_eq_true rfl, Nat.le_of_ble_eq_true rfl⟩ (fun H19 L19 S19 K19 q19 => ?_)
            obtain ⟨qa19, qb19, tq19⟩ := q19
            have tk19 : Lw D s.heap H19 a0 := tk0.trans tq19
            have ts19 := ts0.keep S.1 gtp K19 (by decide +kernel)
            refine lv_aload_n hx hb dX4_readAtom_119 rfl (lv_at hl 2 rfl) ?_
            refine q_grS (T := TX4) C S19.1 ga0 0 kF_X4_39 dX4_readAtom_120 rfl rfl (by decide) rfl (by decide) kSF_X4_tape (fun g20 => ?_)
            rw [show fR D H19 4 a0 0 = tp from (S19.2.1.fR ga0 rfl (by decide) (by decide +kernel)).trans htp]
            refine callV_Ev C S19 (c_X9_next_f l D G tp T b gtp) kV_X4_47 gtp (⟨trivial, ts19⟩) (by decide +kernel) dX4_readAtom_123 hl.1 rfl rfl (by decide) cd_X9_next ⟨Nat.le_of_ble_eq_true rfl, Nat.le_of_ble_eq_true rfl, Nat.le_of_ble_eq_true rfl, Nat.le_of_ble_eq_true rfl, Nat.le_of_ble_eq_true rfl⟩ (fun H21 L21 S21 K21 q21 => ?_)
            obtain ⟨q21, fq21⟩ := q21
            have tk21 : Lw D s.heap H21 a0 := tk19.trans (Lw.keep S19.1 ga0 K21 (by decide +kernel) (by decide +kernel) (by decide +kernel))
            refine lv_iconst (v := 1) hx hb dX4_readAtom_126 (by decide) ?_
            have k_1 : (1 : Int32).toInt = 1 := by decide
            exact retE_z hQ C S21 hr dX4_readAtom_127 (z01 (by omega) (by omega)) (⟨⟨by omega, tk21⟩, Rs.ok (by rw [atm_z]; simp [clo, tlF, y3, y10, yt18]) (by omega) fq21⟩)
          · have b17 : v16.toInt = (-1 : Int32).toInt := i_eq.mp c17
            have yt22 : tru T b = -1 := by omega
            refine lv_aload_n hx hb dX4_readAtom_109 rfl (lv_at hl 2 rfl) ?_
            refine callV_Ei C S (c_X4_readComparison l D G a0 tp T b ga0) kV_X4_94 ga0 (⟨trivial, ⟨htp, ts0⟩⟩) (by decide +kernel) dX4_readAtom_110 hl.1 rfl rfl (by decide) cd_X4_readComparison ⟨Nat.le_of_ble_eq_true rfl, Nat.le_of_ble_eq_true rfl, Nat.le_of_ble_eq_true rfl, Nat.le_of_ble_eq_true rfl, Nat.le_of_ble_eq_true rfl⟩ (fun v23 H23 L23 S23 K23 q23 => ?_)
            obtain ⟨q23, fq23⟩ := q23
            obtain ⟨q23, tq23⟩ := q23
            have tk23 : Lw D s.heap H23 a0 := tk0.trans tq23
            rcases fq23 with ⟨c23, y23, z23, ts23⟩ | ⟨e23, y23, z23, wr23⟩
            · skip
              exact retE_z hQ C S23 hr dX4_readAtom_113 (z01 (by omega) (by omega)) (⟨⟨by omega, tk23⟩, Rs.ok (by rw [atm_z]; simp [clo, tlF, y3, y10, yt22, y23]) (by omega) ts23⟩)
            · skip
              exact retE_z hQ C S23 hr dX4_readAtom_113 (z01 (by omega) (by omega)) (⟨⟨by omega, tk23⟩, Rs.no (by rw [atm_z]; simp [clo, tlF, y3, y10, yt22, y23]) (by omega) wr23⟩)
        · have b15 : ¬ v10.toInt = (0 : Int32).toInt := fun z9 => c15 (i_eq.mpr z9)
          exact absurd b15 (by omega)

set_option maxRecDepth 100000 in
set_option maxHeartbeats 4000000 in
theorem c_X4_readCondition_d6 (l : Launch) (D : DD) (G : Nat → Nat) (a0 : Nat) (x1 : Int32) (tp : Nat) (T : Tx) (b : Nat) (ga0 : G a0 = 21) (ix1 : 6 ≤ x1.toInt ∧ x1.toInt ≤ 6) : CE l D G yX4_readCondition cX4_readCondition 5 (some .boolean) 8 [.ref a0, .int x1] (fun H => (True) ∧ (fR D H 4 a0 0 = tp ∧ TS D H tp T b)) [(2, 3), (2, 4), (2, 5), (2, 6), (2, 2), (22, 0), (21, 3)] (xI (fun H r H1 => ((0 ≤ r.toInt ∧ r.toInt ≤ 1) ∧ (Lw D H H1 a0)) ∧ (Rs D H1 tp T (conF T (atm T 0) b) r))) := by
  refine enter (by decide) (Nat.le_of_ble_eq_true rfl) ?_
  intro p e s m args below meth c ls Q hA hQ C hr hO hpre hl
  have hx := C.1
  have hb := C.2.1
  have S : Sd D G [(2, 3), (2, 4), (2, 5), (2, 6), (2, 2), (22, 0), (21, 3)] s.heap s.heap [] := Sd.start hO
  have hl : lv_has ls 5 [(0, .ref a0), (1, .int x1)] := hl
  obtain ⟨hpre, hf⟩ := hpre
  obtain ⟨htp, ts0⟩ := hf
  have gtp : G tp = 2 := by rw [← htp]; exact hO.rol ga0 rfl (by decide) rfl
  have hT : T.2 ≤ 400 := ts0.le hO gtp
  have tk0 : Lw D s.heap s.heap a0 := Lw.refl
  refine lv_iconst (v := 0) hx hb dX4_readCondition_0 (by decide) ?_
  refine lv_istore_n (lv' := [(2, .int (0 : Int32)), (0, .ref a0), (1, .int x1)]) hx hb dX4_readCondition_1 rfl hl (by decide) rfl (fun ls hl => ?_)
  refine lv_iconst (v := 0) hx hb dX4_readCondition_2 (by decide) ?_
  refine lv_istore_n (lv' := [(3, .int (0 : Int32)), (2, .int (0 : Int32)), (0, .ref a0), (1, .int x1)]) hx hb dX4_readCondition_3 rfl hl (by decide) rfl (fun ls hl => ?_)
  refine lv_iconst (v := 0) hx hb dX4_readCondition_4 (by decide) ?_
  refine lv_istore (lv' := [(4, .int (0 : Int32)), (3, .int (0 : Int32)), (2, .int (0 : Int32)), (0, .ref a0), (1, .int x1)]) hx hb dX4_readCondition_5 hl (by decide) rfl (fun ls hl => ?_)
  have Lp7 : ∀ (n : Nat) (x4_7 : Int32) (x3_7 : Int32) (x2_7 : Int32) (b_7 : Nat) (H_7 : Heap) (L_7 : List Loc) (ls : Array Slot), (Sd D G [(2, 3), (2, 4), (2, 5), (2, 6), (2, 2), (22, 0), (21, 3)] s.heap H_7 L_7) → (0 ≤ x4_7.toInt ∧ x4_7.toInt ≤ 400) → (0 ≤ x3_7.toInt ∧ x3_7.toInt ≤ 1) → (0 ≤ x2_7.toInt ∧ x2_7.toInt ≤ 1) → (TS D H_7 tp T b_7) → (conF T (atm T 0) b = conR T (atm T 0) (400 - x4_7.toInt.toNat) b_7) → (Lw D s.heap H_7 a0) → 401 - x4_7.toInt ≤ (n : Int) → lv_has ls 5 [(4, .int x4_7), (3, .int x3_7), (2, .int x2_7), (0, .ref a0), (1, .int x1)] → W p l e (rmU 8 0 0) s m args below meth c H_7 L_7 0 0 Q (F0 m 7 ls []) := by
    intro n
    induction n with
    | zero =>
      intro x4_7 x3_7 x2_7 b_7 H_7 L_7 ls S_7 j7_0 j7_1 j7_2 u7_0 u7_1 u7_2 hn hl
      exact absurd hn (by omega)
    | succ n ih7 =>
      intro x4_7 x3_7 x2_7 b_7 H_7 L_7 ls S_7 j7_0 j7_1 j7_2 u7_0 u7_1 u7_2 hn hl
      refine lv_iload hx hb dX4_readCondition_7 (lv_at hl 0 rfl) ?_
      refine lv_sipush (v := 400) hx hb dX4_readCondition_9 (by decide) ?_
      have k_400 : (400 : Int32).toInt = 400 := by decide
      refine lv_icmp_ge (tgt := 88) hx hb dX4_readCondition_12 (by decide) (fun c1 => ?_) (fun c1 => ?_)
      · have b1 : (400 : Int32).toInt ≤ x4_7.toInt := i_le.mp c1
        refine lv_aload_n hx hb dX4_readCondition_88 rfl (lv_at hl 3 rfl) ?_
        refine q_grS (T := TX4) C S_7.1 ga0 0 kF_X4_39 dX4_readCondition_89 rfl rfl (by decide) rfl (by decide) kSF_X4_tape (fun g2 => ?_)
        rw [show fR D H_7 4 a0 0 = tp from (S_7.2.1.fR ga0 rfl (by decide) (by decide +kernel)).trans htp]
        refine callV_Ei C S_7 (c_X9_refuse_f l D G tp T b_7 gtp) kV_X4_43 gtp (⟨trivial, u7_0⟩) (by decide +kernel) dX4_readCondition_92 hl.1 rfl rfl (by decide) cd_X9_refuse ⟨Nat.le_of_ble_eq_true rfl, Nat.le_of_ble_eq_true rfl, Nat.le_of_ble_eq_true rfl, Nat.le_of_ble_eq_true rfl, Nat.le_of_ble_eq_true rfl⟩ (fun v3 H3 L3 S3 K3 q3 => ?_)
        obtain ⟨q3, fq3⟩ := q3
        have tk3 : Lw D s.heap H3 a0 := u7_2.trans (Lw.keep S_7.1 ga0 K3 (by decide +kernel) (by decide +kernel) (by decide +kernel))
        have z3 := fq3.1
        exact retE_z hQ C S3 hr dX4_readCondition_95 (z01 (by omega) (by omega)) (⟨⟨by omega, tk3⟩, Rs.no (by rw [u7_1, show 400 - x4_7.toInt.toNat = 0 by omega]; rfl) (by omega) fq3.2⟩)
      · have b1 : ¬ (400 : Int32).toInt ≤ x4_7.toInt := fun z9 => c1 (i_le.mpr z9)
        refine lv_aload_n hx hb dX4_readCondition_15 rfl (lv_at hl 3 rfl) ?_
        refine lv_iload_n hx hb dX4_readCondition_16 rfl (lv_at hl 4 rfl) ?_
        refine callV_Ei C S_7 (c_X4_readAtom_d6 l D G a0 x1 tp T b_7 ga0 (by omega)) kV_X4_75 ga0 (⟨trivial, ⟨(S_7.2.1.fR ga0 rfl (by decide) (by decide +kernel)).trans htp, u7_0⟩⟩) (by decide +kernel) dX4_readCondition_17 hl.1 rfl rfl (by decide) cd_X4_readAtom ⟨Nat.le_of_ble_eq_true rfl, Nat.le_of_ble_eq_true rfl, Nat.le_of_ble_eq_true rfl, Nat.le_of_ble_eq_true rfl, Nat.le_of_ble_eq_true rfl⟩ (fun v4 H4 L4 S4 K4 q4 => ?_)
        obtain ⟨q4, fq4⟩ := q4
        obtain ⟨q4, tq4⟩ := q4
        have tk4 : Lw D s.heap H4 a0 := u7_2.trans tq4
        rcases fq4 with ⟨c4, y4, z4, ts4⟩ | ⟨e4, y4, z4, wr4⟩
        · skip
          have k_0 : (0 : Int32).toInt = 0 := by decide
          refine lv_if_ne (tgt := 25) hx hb dX4_readCondition_20 (by decide) (fun c5 => ?_) (fun c5 => ?_)
          · have b5 : ¬ v4.toInt = (0 : Int32).toInt := fun z9 => c5 (i_eq.mpr z9)
            refine lv_iload_n hx hb dX4_readCondition_25 rfl (lv_at hl 1 rfl) ?_
            refine lv_if_eq (tgt := 35) hx hb dX4_readCondition_26 (by decide) (fun c6 => ?_) (fun c6 => ?_)
            · have b6 : x3_7.toInt = (0 : Int32).toInt := i_eq.mp c6
              refine lv_aload_n hx hb dX4_readCondition_35 rfl (lv_at hl 3 rfl) ?_
              refine q_grS (T := TX4) C S4.1 ga0 0 kF_X4_39 dX4_readCondition_36 rfl rfl (by decide) rfl (by decide) kSF_X4_tape (fun g7 => ?_)
              rw [show fR D H4 4 a0 0 = tp from (S4.2.1.fR ga0 rfl (by decide) (by decide +kernel)).trans htp]
              refine q_lds C ks_X4_78 dX4_readCondition_39 (fun a8 ha8 wa8 => ?_)
              refine callV_Pi C S4.1 S4.2.1.2.1 (c_X9_isWord_f l D G tp a8 3 w_and T c4 gtp ha8 (Wc.of wa8 kw_and)) kV_X4_61 gtp (⟨trivial, ts4⟩) dX4_readCondition_41 hl.1 rfl rfl (by decide) cd_X9_isWord ⟨Nat.le_of_ble_eq_true rfl, Nat.le_of_ble_eq_true rfl, Nat.le_of_ble_eq_true rfl, Nat.le_of_ble_eq_true rfl, Nat.le_of_ble_eq_true rfl⟩ (fun v9 q9 => ?_)
              obtain ⟨q9, fq9⟩ := q9
              rcases fq9 with ⟨z9, y9⟩ | ⟨z9, y9⟩
              · skip
                refine lv_istore_n (lv' := [(3, .int v9), (4, .int x4_7), (2, .int x2_7), (0, .ref a0), (1, .int x1)]) hx hb dX4_readCondition_44 rfl hl (by decide) rfl (fun ls hl => ?_)
                refine lv_iload_n hx hb dX4_readCondition_45 rfl (lv_at hl 0 rfl) ?_
                refine lv_if_ne (tgt := 75) hx hb dX4_readCondition_46 (by decide) (fun c10 => ?_) (fun c10 => ?_)
                · have b10 : ¬ v9.toInt = (0 : Int32).toInt := fun z9 => c10 (i_eq.mpr z9)
                  refine lv_aload_n hx hb dX4_readCondition_75 rfl (lv_at hl 3 rfl) ?_
                  refine q_grS (T := TX4) C S4.1 ga0 0 kF_X4_39 dX4_readCondition_76 rfl rfl (by decide) rfl (by decide) kSF_X4_tape (fun g11 => ?_)
                  rw [show fR D H4 4 a0 0 = tp from (S4.2.1.fR ga0 rfl (by decide) (by decide +kernel)).trans htp]
                  refine callV_Ev C S4 (c_X9_next_f l D G tp T c4 gtp) kV_X4_47 gtp (⟨trivial, ts4⟩) (by decide +kernel) dX4_readCondition_79 hl.1 rfl rfl (by decide) cd_X9_next ⟨Nat.le_of_ble_eq_true rfl, Nat.le_of_ble_eq_true rfl, Nat.le_of_ble_eq_true rfl, Nat.le_of_ble_eq_true rfl, Nat.le_of_ble_eq_true rfl⟩ (fun H12 L12 S12 K12 q12 => ?_)
                  obtain ⟨q12, fq12⟩ := q12
                  have tk12 : Lw D s.heap H12 a0 := tk4.trans (Lw.keep S4.1 ga0 K12 (by decide +kernel) (by decide +kernel) (by decide +kernel))
                  obtain ⟨v13, ev13⟩ : ∃ y : Int32, y = x4_7 + (1) := ⟨_, rfl⟩
                  have k_1 : (1 : Int32).toInt = 1 := by decide
                  have f14 : v13.toInt = x4_7.toInt + (1) := by rw [ev13]; exact i_addc k_1 (by omega) (by omega)
                  refine lv_iinc (v := v13) (lv' := [(4, .int v13), (3, .int v9), (2, .int x2_7), (0, .ref a0), (1, .int x1)]) hx hb dX4_readCondition_82 hl (k := 1) rfl (by rw [ev13]; rfl) (by decide) rfl (fun ls hl => ?_)
                  refine lv_goto (tgt := 7) hx hb dX4_readCondition_85 (by decide) ?_
                  exact ih7 v13 v9 x2_7 (nx T c4) H12 L12 ls S12 (by omega) (by omega) (by omega) fq12 (by rw [u7_1]; exact conR_st (by omega) y4 (by simp [y4, y9])) tk12 (by omega) (lv_sub hl [0, 1, 2, 3, 4] rfl)
                · have b10 : v9.toInt = (0 : Int32).toInt := i_eq.mp c10
                  exact absurd b10 (by omega)
              · skip
                refine lv_istore_n (lv' := [(3, .int v9), (4, .int x4_7), (2, .int x2_7), (0, .ref a0), (1, .int x1)]) hx hb dX4_readCondition_44 rfl hl (by decide) rfl (fun ls hl => ?_)
                refine lv_iload_n hx hb dX4_readCondition_45 rfl (lv_at hl 0 rfl) ?_
                refine lv_if_ne (tgt := 75) hx hb dX4_readCondition_46 (by decide) (fun c15 => ?_) (fun c15 => ?_)
                · have b15 : ¬ v9.toInt = (0 : Int32).toInt := fun z9 => c15 (i_eq.mpr z9)
                  exact absurd b15 (by omega)
                · have b15 : v9.toInt = (0 : Int32).toInt := i_eq.mp c15
                  refine lv_iload_n hx hb dX4_readCondition_49 rfl (lv_at hl 2 rfl) ?_
                  refine lv_if_eq (tgt := 59) hx hb dX4_readCondition_50 (by decide) (fun c16 => ?_) (fun c16 => ?_)
                  · have b16 : x2_7.toInt = (0 : Int32).toInt := i_eq.mp c16
                    refine lv_aload_n hx hb dX4_readCondition_59 rfl (lv_at hl 3 rfl) ?_
                    refine q_grS (T := TX4) C S4.1 ga0 0 kF_X4_39 dX4_readCondition_60 rfl rfl (by decide) rfl (by decide) kSF_X4_tape (fun g17 => ?_)
                    rw [show fR D H4 4 a0 0 = tp from (S4.2.1.fR ga0 rfl (by decide) (by decide +kernel)).trans htp]
                    refine q_lds C ks_X4_80 dX4_readCondition_63 (fun a18 ha18 wa18 => ?_)
                    refine callV_Pi C S4.1 S4.2.1.2.1 (c_X9_isWord_f l D G tp a18 2 w_or T c4 gtp ha18 (Wc.of wa18 kw_or)) kV_X4_61 gtp (⟨trivial, ts4⟩) dX4_readCondition_65 hl.1 rfl rfl (by decide) cd_X9_isWord ⟨Nat.le_of_ble_eq_true rfl, Nat.le_of_ble_eq_true rfl, Nat.le_of_ble_eq_true rfl, Nat.le_of_ble_eq_true rfl, Nat.le_of_ble_eq_true rfl⟩ (fun v19 q19 => ?_)
                    obtain ⟨q19, fq19⟩ := q19
                    rcases fq19 with ⟨z19, y19⟩ | ⟨z19, y19⟩
                    · skip
                      refine lv_istore_n (lv' := [(2, .int v19), (3, .int v9), (4, .int x4_7), (0, .ref a0), (1, .int x1)]) hx hb dX4_readCondition_68 rfl hl (by decide) rfl (fun ls hl => ?_)
                      refine lv_iload_n hx hb dX4_readCondition_69 rfl (lv_at hl 0 rfl) ?_
                      refine lv_if_ne (tgt := 75) hx hb dX4_readCondition_70 (by decide) (fun c20 => ?_) (fun c20 => ?_)
                      · have b20 : ¬ v19.toInt = (0 : Int32).toInt := fun z9 => c20 (i_eq.mpr z9)
                        refine lv_aload_n hx hb dX4_readCondition_75 rfl (lv_at hl 3 rfl) ?_
                        refine q_grS (T := TX4) C S4.1 ga0 0 kF_X4_39 dX4_readCondition_76 rfl rfl (by decide) rfl (by decide) kSF_X4_tape (fun g21 => ?_)
                        rw [show fR D H4 4 a0 0 = tp from (S4.2.1.fR ga0 rfl (by decide) (by decide +kernel)).trans htp]
                        refine callV_Ev C S4 (c_X9_next_f l D G tp T c4 gtp) kV_X4_47 gtp (⟨trivial, ts4⟩) (by decide +kernel) dX4_readCondition_79 hl.1 rfl rfl (by decide) cd_X9_next ⟨Nat.le_of_ble_eq_true rfl, Nat.le_of_ble_eq_true rfl, Nat.le_of_ble_eq_true rfl, Nat.le_of_ble_eq_true rfl, Nat.le_of_ble_eq_true rfl⟩ (fun H22 L22 S22 K22 q22 => ?_)
                        obtain ⟨q22, fq22⟩ := q22
                        have tk22 : Lw D s.heap H22 a0 := tk4.trans (Lw.keep S4.1 ga0 K22 (by decide +kernel) (by decide +kernel) (by decide +kernel))
                        obtain ⟨v23, ev23⟩ : ∃ y : Int32, y = x4_7 + (1) := ⟨_, rfl⟩
                        have k_1 : (1 : Int32).toInt = 1 := by decide
                        have f24 : v23.toInt = x4_7.toInt + (1) := by rw [ev23]; exact i_addc k_1 (by omega) (by omega)
                        refine lv_iinc (v := v23) (lv' := [(4, .int v23), (2, .int v19), (3, .int v9), (0, .ref a0), (1, .int x1)]) hx hb dX4_readCondition_82 hl (k := 2) rfl (by rw [ev23]; rfl) (by decide) rfl (fun ls hl => ?_)
                        refine lv_goto (tgt := 7) hx hb dX4_readCondition_85 (by decide) ?_
                        exact ih7 v23 v9 v19 (nx T c4) H22 L22 ls S22 (by omega) (by omega) (by omega) fq22 (by rw [u7_1]; exact conR_st (by omega) y4 (by simp [y4, y9, y19])) tk22 (by omega) (lv_sub hl [0, 2, 1, 3, 4] rfl)
                      · have b20 : v19.toInt = (0 : Int32).toInt := i_eq.mp c20
                        exact absurd b20 (by omega)
                    · skip
                      refine lv_istore_n (lv' := [(2, .int v19), (3, .int v9), (4, .int x4_7), (0, .ref a0), (1, .int x1)]) hx hb dX4_readCondition_68 rfl hl (by decide) rfl (fun ls hl => ?_)
                      refine lv_iload_n hx hb dX4_readCondition_69 rfl (lv_at hl 0 rfl) ?_
                      refine lv_if_ne (tgt := 75) hx hb dX4_readCondition_70 (by decide) (fun c25 => ?_) (fun c25 => ?_)
                      · have b25 : ¬ v19.toInt = (0 : Int32).toInt := fun z9 => c25 (i_eq.mpr z9)
                        exact absurd b25 (by omega)
                      · have b25 : v19.toInt = (0 : Int32).toInt := i_eq.mp c25
                        refine lv_iconst (v := 1) hx hb dX4_readCondition_73 (by decide) ?_
                        have k_1 : (1 : Int32).toInt = 1 := by decide
                        exact retE_z hQ C S4 hr dX4_readCondition_74 (z01 (by omega) (by omega)) (⟨⟨by omega, tk4⟩, Rs.ok (by rw [u7_1]; exact conR_ok (by omega) y4 (by simp [y4, y9, y19]) (by simp [y4, y9, y19])) (by omega) ts4⟩)
                  · have b16 : ¬ x2_7.toInt = (0 : Int32).toInt := fun z9 => c16 (i_eq.mpr z9)
                    refine lv_aload_n hx hb dX4_readCondition_53 rfl (lv_at hl 3 rfl) ?_
                    refine lv_bipush (v := -18) hx hb dX4_readCondition_54 (by decide) ?_
                    have k_m18 : (-18 : Int32).toInt = -18 := by decide
                    refine callV_Ev C S4 (c_X4_put l D G a0 (-18 : Int32) ga0) kV_X4_55 ga0 (trivial) (by decide +kernel) dX4_readCondition_56 hl.1 rfl rfl (by decide) cd_X4_put ⟨Nat.le_of_ble_eq_true rfl, Nat.le_of_ble_eq_true rfl, Nat.le_of_ble_eq_true rfl, Nat.le_of_ble_eq_true rfl, Nat.le_of_ble_eq_true rfl⟩ (fun H26 L26 S26 K26 q26 => ?_)
                    obtain ⟨qa26, qb26, tq26⟩ := q26
                    have tk26 : Lw D s.heap H26 a0 := tk4.trans tq26
                    have ts26 := ts4.keep S4.1 gtp K26 (by decide +kernel)
                    refine lv_aload_n hx hb dX4_readCondition_59 rfl (lv_at hl 3 rfl) ?_
                    refine q_grS (T := TX4) C S26.1 ga0 0 kF_X4_39 dX4_readCondition_60 rfl rfl (by decide) rfl (by decide) kSF_X4_tape (fun g27 => ?_)
                    rw [show fR D H26 4 a0 0 = tp from (S26.2.1.fR ga0 rfl (by decide) (by decide +kernel)).trans htp]
                    refine q_lds C ks_X4_80 dX4_readCondition_63 (fun a28 ha28 wa28 => ?_)
                    refine callV_Pi C S26.1 S26.2.1.2.1 (c_X9_isWord_f l D G tp a28 2 w_or T c4 gtp ha28 (Wc.of wa28 kw_or)) kV_X4_61 gtp (⟨trivial, ts26⟩) dX4_readCondition_65 hl.1 rfl rfl (by decide) cd_X9_isWord ⟨Nat.le_of_ble_eq_true rfl, Nat.le_of_ble_eq_true rfl, Nat.le_of_ble_eq_true rfl, Nat.le_of_ble_eq_true rfl, Nat.le_of_ble_eq_true rfl⟩ (fun v29 q29 => ?_)
                    obtain ⟨q29, fq29⟩ := q29
                    rcases fq29 with ⟨z29, y29⟩ | ⟨z29, y29⟩
                    · skip
                      refine lv_istore_n (lv' := [(2, .int v29), (3, .int v9), (4, .int x4_7), (0, .ref a0), (1, .int x1)]) hx hb dX4_readCondition_68 rfl hl (by decide) rfl (fun ls hl => ?_)
                      refine lv_iload_n hx hb dX4_readCondition_69 rfl (lv_at hl 0 rfl) ?_
                      refine lv_if_ne (tgt := 75) hx hb dX4_readCondition_70 (by decide) (fun c30 => ?_) (fun c30 => ?_)
                      · have b30 : ¬ v29.toInt = (0 : Int32).toInt := fun z9 => c30 (i_eq.mpr z9)
                        refine lv_aload_n hx hb dX4_readCondition_75 rfl (lv_at hl 3 rfl) ?_
                        refine q_grS (T := TX4) C S26.1 ga0 0 kF_X4_39 dX4_readCondition_76 rfl rfl (by decide) rfl (by decide) kSF_X4_tape (fun g31 => ?_)
                        rw [show fR D H26 4 a0 0 = tp from (S26.2.1.fR ga0 rfl (by decide) (by decide +kernel)).trans htp]
                        refine callV_Ev C S26 (c_X9_next_f l D G tp T c4 gtp) kV_X4_47 gtp (⟨trivial, ts26⟩) (by decide +kernel) dX4_readCondition_79 hl.1 rfl rfl (by decide) cd_X9_next ⟨Nat.le_of_ble_eq_true rfl, Nat.le_of_ble_eq_true rfl, Nat.le_of_ble_eq_true rfl, Nat.le_of_ble_eq_true rfl, Nat.le_of_ble_eq_true rfl⟩ (fun H32 L32 S32 K32 q32 => ?_)
                        obtain ⟨q32, fq32⟩ := q32
                        have tk32 : Lw D s.heap H32 a0 := tk26.trans (Lw.keep S26.1 ga0 K32 (by decide +kernel) (by decide +kernel) (by decide +kernel))
                        obtain ⟨v33, ev33⟩ : ∃ y : Int32, y = x4_7 + (1) := ⟨_, rfl⟩
                        have k_1 : (1 : Int32).toInt = 1 := by decide
                        have f34 : v33.toInt = x4_7.toInt + (1) := by rw [ev33]; exact i_addc k_1 (by omega) (by omega)
                        refine lv_iinc (v := v33) (lv' := [(4, .int v33), (2, .int v29), (3, .int v9), (0, .ref a0), (1, .int x1)]) hx hb dX4_readCondition_82 hl (k := 2) rfl (by rw [ev33]; rfl) (by decide) rfl (fun ls hl => ?_)
                        refine lv_goto (tgt := 7) hx hb dX4_readCondition_85 (by decide) ?_
                        exact ih7 v33 v9 v29 (nx T c4) H32 L32 ls S32 (by omega) (by omega) (by omega) fq32 (by rw [u7_1]; exact conR_st (by omega) y4 (by simp [y4, y9, y29])) tk32 (by omega) (lv_sub hl [0, 2, 1, 3, 4] rfl)
                      · have b30 : v29.toInt = (0 : Int32).toInt := i_eq.mp c30
                        exact absurd b30 (by omega)
                    · skip
                      refine lv_istore_n (lv' := [(2, .int v29), (3, .int v9), (4, .int x4_7), (0, .ref a0), (1, .int x1)]) hx hb dX4_readCondition_68 rfl hl (by decide) rfl (fun ls hl => ?_)
                      refine lv_iload_n hx hb dX4_readCondition_69 rfl (lv_at hl 0 rfl) ?_
                      refine lv_if_ne (tgt := 75) hx hb dX4_readCondition_70 (by decide) (fun c35 => ?_) (fun c35 => ?_)
                      · have b35 : ¬ v29.toInt = (0 : Int32).toInt := fun z9 => c35 (i_eq.mpr z9)
                        exact absurd b35 (by omega)
                      · have b35 : v29.toInt = (0 : Int32).toInt := i_eq.mp c35
                        refine lv_iconst (v := 1) hx hb dX4_readCondition_73 (by decide) ?_
                        have k_1 : (1 : Int32).toInt = 1 := by decide
                        exact retE_z hQ C S26 hr dX4_readCondition_74 (z01 (by omega) (by omega)) (⟨⟨by omega, tk26⟩, Rs.ok (by rw [u7_1]; exact conR_ok (by omega) y4 (by simp [y4, y9, y29]) (by simp [y4, y9, y29])) (by omega) ts26⟩)
            · have b6 : ¬ x3_7.toInt = (0 : Int32).toInt := fun z9 => c6 (i_eq.mpr z9)
              refine lv_aload_n hx hb dX4_readCondition_29 rfl (lv_at hl 3 rfl) ?_
              refine lv_bipush (v := -17) hx hb dX4_readCondition_30 (by decide) ?_
              have k_m17 : (-17 : Int32).toInt = -17 := by decide
              refine callV_Ev C S4 (c_X4_put l D G a0 (-17 : Int32) ga0) kV_X4_55 ga0 (trivial) (by decide +kernel) dX4_readCondition_32 hl.1 rfl rfl (by decide) cd_X4_put ⟨Nat.le_of_ble_eq_true rfl, Nat.le_of_ble_eq_true rfl, Nat.le_of_ble_eq_true rfl, Nat.le_of_ble_eq_true rfl, Nat.le_of_ble_eq_true rfl⟩ (fun H36 L36 S36 K36 q36 => ?_)
              obtain ⟨qa36, qb36, tq36⟩ := q36
              have tk36 : Lw D s.heap H36 a0 := tk4.trans tq36
              have ts36 := ts4.keep S4.1 gtp K36 (by decide +kernel)
              refine lv_aload_n hx hb dX4_readCondition_35 rfl (lv_at hl 3 rfl) ?_
              refine q_grS (T := TX4) C S36.1 ga0 0 kF_X4_39 dX4_readCondition_36 rfl rfl (by decide) rfl (by decide) kSF_X4_tape (fun g37 => ?_)
              rw [show fR D H36 4 a0 0 = tp from (S36.2.1.fR ga0 rfl (by decide) (by decide +kernel)).trans htp]
              refine q_lds C ks_X4_78 dX4_readCondition_39 (fun a38 ha38 wa38 => ?_)
              refine callV_Pi C S36.1 S36.2.1.2.1 (c_X9_isWord_f l D G tp a38 3 w_and T c4 gtp ha38 (Wc.of wa38 kw_and)) kV_X4_61 gtp (⟨trivial, ts36⟩) dX4_readCondition_41 hl.1 rfl rfl (by decide) cd_X9_isWord ⟨Nat.le_of_ble_eq_true rfl, Nat.le_of_ble_eq_true rfl, Nat.le_of_ble_eq_true rfl, Nat.le_of_ble_eq_true rfl, Nat.le_of_ble_eq_true rfl⟩ (fun v39 q39 => ?_)
              obtain ⟨q39, fq39⟩ := q39
              rcases fq39 with ⟨z39, y39⟩ | ⟨z39, y39⟩
              · skip
                refine lv_istore_n (lv' := [(3, .int v39), (4, .int x4_7), (2, .int x2_7), (0, .ref a0), (1, .int x1)]) hx hb dX4_readCondition_44 rfl hl (by decide) rfl (fun ls hl => ?_)
                refine lv_iload_n hx hb dX4_readCondition_45 rfl (lv_at hl 0 rfl) ?_
                refine lv_if_ne (tgt := 75) hx hb dX4_readCondition_46 (by decide) (fun c40 => ?_) (fun c40 => ?_)
                · have b40 : ¬ v39.toInt = (0 : Int32).toInt := fun z9 => c40 (i_eq.mpr z9)
                  refine lv_aload_n hx hb dX4_readCondition_75 rfl (lv_at hl 3 rfl) ?_
                  refine q_grS (T := TX4) C S36.1 ga0 0 kF_X4_39 dX4_readCondition_76 rfl rfl (by decide) rfl (by decide) kSF_X4_tape (fun g41 => ?_)
                  rw [show fR D H36 4 a0 0 = tp from (S36.2.1.fR ga0 rfl (by decide) (by decide +kernel)).trans htp]
                  refine callV_Ev C S36 (c_X9_next_f l D G tp T c4 gtp) kV_X4_47 gtp (⟨trivial, ts36⟩) (by decide +kernel) dX4_readCondition_79 hl.1 rfl rfl (by decide) cd_X9_next ⟨Nat.le_of_ble_eq_true rfl, Nat.le_of_ble_eq_true rfl, Nat.le_of_ble_eq_true rfl, Nat.le_of_ble_eq_true rfl, Nat.le_of_ble_eq_true rfl⟩ (fun H42 L42 S42 K42 q42 => ?_)
                  obtain ⟨q42, fq42⟩ := q42
                  have tk42 : Lw D s.heap H42 a0 := tk36.trans (Lw.keep S36.1 ga0 K42 (by decide +kernel) (by decide +kernel) (by decide +kernel))
                  obtain ⟨v43, ev43⟩ : ∃ y : Int32, y = x4_7 + (1) := ⟨_, rfl⟩
                  have k_1 : (1 : Int32).toInt = 1 := by decide
                  have f44 : v43.toInt = x4_7.toInt + (1) := by rw [ev43]; exact i_addc k_1 (by omega) (by omega)
                  refine lv_iinc (v := v43) (lv' := [(4, .int v43), (3, .int v39), (2, .int x2_7), (0, .ref a0), (1, .int x1)]) hx hb dX4_readCondition_82 hl (k := 1) rfl (by rw [ev43]; rfl) (by decide) rfl (fun ls hl => ?_)
                  refine lv_goto (tgt := 7) hx hb dX4_readCondition_85 (by decide) ?_
                  exact ih7 v43 v39 x2_7 (nx T c4) H42 L42 ls S42 (by omega) (by omega) (by omega) fq42 (by rw [u7_1]; exact conR_st (by omega) y4 (by simp [y4, y39])) tk42 (by omega) (lv_sub hl [0, 1, 2, 3, 4] rfl)
                · have b40 : v39.toInt = (0 : Int32).toInt := i_eq.mp c40
                  exact absurd b40 (by omega)
              · skip
                refine lv_istore_n (lv' := [(3, .int v39), (4, .int x4_7), (2, .int x2_7), (0, .ref a0), (1, .int x1)]) hx hb dX4_readCondition_44 rfl hl (by decide) rfl (fun ls hl => ?_)
                refine lv_iload_n hx hb dX4_readCondition_45 rfl (lv_at hl 0 rfl) ?_
                refine lv_if_ne (tgt := 75) hx hb dX4_readCondition_46 (by decide) (fun c45 => ?_) (fun c45 => ?_)
                · have b45 : ¬ v39.toInt = (0 : Int32).toInt := fun z9 => c45 (i_eq.mpr z9)
                  exact absurd b45 (by omega)
                · have b45 : v39.toInt = (0 : Int32).toInt := i_eq.mp c45
                  refine lv_iload_n hx hb dX4_readCondition_49 rfl (lv_at hl 2 rfl) ?_
                  refine lv_if_eq (tgt := 59) hx hb dX4_readCondition_50 (by decide) (fun c46 => ?_) (fun c46 => ?_)
                  · have b46 : x2_7.toInt = (0 : Int32).toInt := i_eq.mp c46
                    refine lv_aload_n hx hb dX4_readCondition_59 rfl (lv_at hl 3 rfl) ?_
                    refine q_grS (T := TX4) C S36.1 ga0 0 kF_X4_39 dX4_readCondition_60 rfl rfl (by decide) rfl (by decide) kSF_X4_tape (fun g47 => ?_)
                    rw [show fR D H36 4 a0 0 = tp from (S36.2.1.fR ga0 rfl (by decide) (by decide +kernel)).trans htp]
                    refine q_lds C ks_X4_80 dX4_readCondition_63 (fun a48 ha48 wa48 => ?_)
                    refine callV_Pi C S36.1 S36.2.1.2.1 (c_X9_isWord_f l D G tp a48 2 w_or T c4 gtp ha48 (Wc.of wa48 kw_or)) kV_X4_61 gtp (⟨trivial, ts36⟩) dX4_readCondition_65 hl.1 rfl rfl (by decide) cd_X9_isWord ⟨Nat.le_of_ble_eq_true rfl, Nat.le_of_ble_eq_true rfl, Nat.le_of_ble_eq_true rfl, Nat.le_of_ble_eq_true rfl, Nat.le_of_ble_eq_true rfl⟩ (fun v49 q49 => ?_)
                    obtain ⟨q49, fq49⟩ := q49
                    rcases fq49 with ⟨z49, y49⟩ | ⟨z49, y49⟩
                    · skip
                      refine lv_istore_n (lv' := [(2, .int v49), (3, .int v39), (4, .int x4_7), (0, .ref a0), (1, .int x1)]) hx hb dX4_readCondition_68 rfl hl (by decide) rfl (fun ls hl => ?_)
                      refine lv_iload_n hx hb dX4_readCondition_69 rfl (lv_at hl 0 rfl) ?_
                      refine lv_if_ne (tgt := 75) hx hb dX4_readCondition_70 (by decide) (fun c50 => ?_) (fun c50 => ?_)
                      · have b50 : ¬ v49.toInt = (0 : Int32).toInt := fun z9 => c50 (i_eq.mpr z9)
                        refine lv_aload_n hx hb dX4_readCondition_75 rfl (lv_at hl 3 rfl) ?_
                        refine q_grS (T := TX4) C S36.1 ga0 0 kF_X4_39 dX4_readCondition_76 rfl rfl (by decide) rfl (by decide) kSF_X4_tape (fun g51 => ?_)
                        rw [show fR D H36 4 a0 0 = tp from (S36.2.1.fR ga0 rfl (by decide) (by decide +kernel)).trans htp]
                        refine callV_Ev C S36 (c_X9_next_f l D G tp T c4 gtp) kV_X4_47 gtp (⟨trivial, ts36⟩) (by decide +kernel) dX4_readCondition_79 hl.1 rfl rfl (by decide) cd_X9_next ⟨Nat.le_of_ble_eq_true rfl, Nat.le_of_ble_eq_true rfl, Nat.le_of_ble_eq_true rfl, Nat.le_of_ble_eq_true rfl, Nat.le_of_ble_eq_true rfl⟩ (fun H52 L52 S52 K52 q52 => ?_)
                        obtain ⟨q52, fq52⟩ := q52
                        have tk52 : Lw D s.heap H52 a0 := tk36.trans (Lw.keep S36.1 ga0 K52 (by decide +kernel) (by decide +kernel) (by decide +kernel))
                        obtain ⟨v53, ev53⟩ : ∃ y : Int32, y = x4_7 + (1) := ⟨_, rfl⟩
                        have k_1 : (1 : Int32).toInt = 1 := by decide
                        have f54 : v53.toInt = x4_7.toInt + (1) := by rw [ev53]; exact i_addc k_1 (by omega) (by omega)
                        refine lv_iinc (v := v53) (lv' := [(4, .int v53), (2, .int v49), (3, .int v39), (0, .ref a0), (1, .int x1)]) hx hb dX4_readCondition_82 hl (k := 2) rfl (by rw [ev53]; rfl) (by decide) rfl (fun ls hl => ?_)
                        refine lv_goto (tgt := 7) hx hb dX4_readCondition_85 (by decide) ?_
                        exact ih7 v53 v39 v49 (nx T c4) H52 L52 ls S52 (by omega) (by omega) (by omega) fq52 (by rw [u7_1]; exact conR_st (by omega) y4 (by simp [y4, y39, y49])) tk52 (by omega) (lv_sub hl [0, 2, 1, 3, 4] rfl)
                      · have b50 : v49.toInt = (0 : Int32).toInt := i_eq.mp c50
                        exact absurd b50 (by omega)
                    · skip
                      refine lv_istore_n (lv' := [(2, .int v49), (3, .int v39), (4, .int x4_7), (0, .ref a0), (1, .int x1)]) hx hb dX4_readCondition_68 rfl hl (by decide) rfl (fun ls hl => ?_)
                      refine lv_iload_n hx hb dX4_readCondition_69 rfl (lv_at hl 0 rfl) ?_
                      refine lv_if_ne (tgt := 75) hx hb dX4_readCondition_70 (by decide) (fun c55 => ?_) (fun c55 => ?_)
                      · have b55 : ¬ v49.toInt = (0 : Int32).toInt := fun z9 => c55 (i_eq.mpr z9)
                        exact absurd b55 (by omega)
                      · have b55 : v49.toInt = (0 : Int32).toInt := i_eq.mp c55
                        refine lv_iconst (v := 1) hx hb dX4_readCondition_73 (by decide) ?_
                        have k_1 : (1 : Int32).toInt = 1 := by decide
                        exact retE_z hQ C S36 hr dX4_readCondition_74 (z01 (by omega) (by omega)) (⟨⟨by omega, tk36⟩, Rs.ok (by rw [u7_1]; exact conR_ok (by omega) y4 (by simp [y4, y39, y49]) (by simp [y4, y39, y49])) (by omega) ts36⟩)
                  · have b46 : ¬ x2_7.toInt = (0 : Int32).toInt := fun z9 => c46 (i_eq.mpr z9)
                    refine lv_aload_n hx hb dX4_readCondition_53 rfl (lv_at hl 3 rfl) ?_
                    refine lv_bipush (v := -18) hx hb dX4_readCondition_54 (by decide) ?_
                    have k_m18 : (-18 : Int32).toInt = -18 := by decide
                    refine callV_Ev C S36 (c_X4_put l D G a0 (-18 : Int32) ga0) kV_X4_55 ga0 (trivial) (by decide +kernel) dX4_readCondition_56 hl.1 rfl rfl (by decide) cd_X4_put ⟨Nat.le_of_ble_eq_true rfl, Nat.le_of_ble_eq_true rfl, Nat.le_of_ble_eq_true rfl, Nat.le_of_ble_eq_true rfl, Nat.le_of_ble_eq_true rfl⟩ (fun H56 L56 S56 K56 q56 => ?_)
                    obtain ⟨qa56, qb56, tq56⟩ := q56
                    have tk56 : Lw D s.heap H56 a0 := tk36.trans tq56
                    have ts56 := ts36.keep S36.1 gtp K56 (by decide +kernel)
                    refine lv_aload_n hx hb dX4_readCondition_59 rfl (lv_at hl 3 rfl) ?_
                    refine q_grS (T := TX4) C S56.1 ga0 0 kF_X4_39 dX4_readCondition_60 rfl rfl (by decide) rfl (by decide) kSF_X4_tape (fun g57 => ?_)
                    rw [show fR D H56 4 a0 0 = tp from (S56.2.1.fR ga0 rfl (by decide) (by decide +kernel)).trans htp]
                    refine q_lds C ks_X4_80 dX4_readCondition_63 (fun a58 ha58 wa58 => ?_)
                    refine callV_Pi C S56.1 S56.2.1.2.1 (c_X9_isWord_f l D G tp a58 2 w_or T c4 gtp ha58 (Wc.of wa58 kw_or)) kV_X4_61 gtp (⟨trivial, ts56⟩) dX4_readCondition_65 hl.1 rfl rfl (by decide) cd_X9_isWord ⟨Nat.le_of_ble_eq_true rfl, Nat.le_of_ble_eq_true rfl, Nat.le_of_ble_eq_true rfl, Nat.le_of_ble_eq_true rfl, Nat.le_of_ble_eq_true rfl⟩ (fun v59 q59 => ?_)
                    obtain ⟨q59, fq59⟩ := q59
                    rcases fq59 with ⟨z59, y59⟩ | ⟨z59, y59⟩
                    · skip
                      refine lv_istore_n (lv' := [(2, .int v59), (3, .int v39), (4, .int x4_7), (0, .ref a0), (1, .int x1)]) hx hb dX4_readCondition_68 rfl hl (by decide) rfl (fun ls hl => ?_)
                      refine lv_iload_n hx hb dX4_readCondition_69 rfl (lv_at hl 0 rfl) ?_
                      refine lv_if_ne (tgt := 75) hx hb dX4_readCondition_70 (by decide) (fun c60 => ?_) (fun c60 => ?_)
                      · have b60 : ¬ v59.toInt = (0 : Int32).toInt := fun z9 => c60 (i_eq.mpr z9)
                        refine lv_aload_n hx hb dX4_readCondition_75 rfl (lv_at hl 3 rfl) ?_
                        refine q_grS (T := TX4) C S56.1 ga0 0 kF_X4_39 dX4_readCondition_76 rfl rfl (by decide) rfl (by decide) kSF_X4_tape (fun g61 => ?_)
                        rw [show fR D H56 4 a0 0 = tp from (S56.2.1.fR ga0 rfl (by decide) (by decide +kernel)).trans htp]
                        refine callV_Ev C S56 (c_X9_next_f l D G tp T c4 gtp) kV_X4_47 gtp (⟨trivial, ts56⟩) (by decide +kernel) dX4_readCondition_79 hl.1 rfl rfl (by decide) cd_X9_next ⟨Nat.le_of_ble_eq_true rfl, Nat.le_of_ble_eq_true rfl, Nat.le_of_ble_eq_true rfl, Nat.le_of_ble_eq_true rfl, Nat.le_of_ble_eq_true rfl⟩ (fun H62 L62 S62 K62 q62 => ?_)
                        obtain ⟨q62, fq62⟩ := q62
                        have tk62 : Lw D s.heap H62 a0 := tk56.trans (Lw.keep S56.1 ga0 K62 (by decide +kernel) (by decide +kernel) (by decide +kernel))
                        obtain ⟨v63, ev63⟩ : ∃ y : Int32, y = x4_7 + (1) := ⟨_, rfl⟩
                        have k_1 : (1 : Int32).toInt = 1 := by decide
                        have f64 : v63.toInt = x4_7.toInt + (1) := by rw [ev63]; exact i_addc k_1 (by omega) (by omega)
                        refine lv_iinc (v := v63) (lv' := [(4, .int v63), (2, .int v59), (3, .int v39), (0, .ref a0), (1, .int x1)]) hx hb dX4_readCondition_82 hl (k := 2) rfl (by rw [ev63]; rfl) (by decide) rfl (fun ls hl => ?_)
                        refine lv_goto (tgt := 7) hx hb dX4_readCondition_85 (by decide) ?_
                        exact ih7 v63 v39 v59 (nx T c4) H62 L62 ls S62 (by omega) (by omega) (by omega) fq62 (by rw [u7_1]; exact conR_st (by omega) y4 (by simp [y4, y39, y59])) tk62 (by omega) (lv_sub hl [0, 2, 1, 3, 4] rfl)
                      · have b60 : v59.toInt = (0 : Int32).toInt := i_eq.mp c60
                        exact absurd b60 (by omega)
                    · skip
                      refine lv_istore_n (lv' := [(2, .int v59), (3, .int v39), (4, .int x4_7), (0, .ref a0), (1, .int x1)]) hx hb dX4_readCondition_68 rfl hl (by decide) rfl (fun ls hl => ?_)
                      refine lv_iload_n hx hb dX4_readCondition_69 rfl (lv_at hl 0 rfl) ?_
                      refine lv_if_ne (tgt := 75) hx hb dX4_readCondition_70 (by decide) (fun c65 => ?_) (fun c65 => ?_)
                      · have b65 : ¬ v59.toInt = (0 : Int32).toInt := fun z9 => c65 (i_eq.mpr z9)
                        exact absurd b65 (by omega)
                      · have b65 : v59.toInt = (0 : Int32).toInt := i_eq.mp c65
                        refine lv_iconst (v := 1) hx hb dX4_readCondition_73 (by decide) ?_
                        have k_1 : (1 : Int32).toInt = 1 := by decide
                        exact retE_z hQ C S56 hr dX4_readCondition_74 (z01 (by omega) (by omega)) (⟨⟨by omega, tk56⟩, Rs.ok (by rw [u7_1]; exact conR_ok (by omega) y4 (by simp [y4, y39, y59]) (by simp [y4, y39, y59])) (by omega) ts56⟩)
          · have b5 : v4.toInt = (0 : Int32).toInt := i_eq.mp c5
            exact absurd b5 (by omega)
        · skip
          have k_0 : (0 : Int32).toInt = 0 := by decide
          refine lv_if_ne (tgt := 25) hx hb dX4_readCondition_20 (by decide) (fun c66 => ?_) (fun c66 => ?_)
          · have b66 : ¬ v4.toInt = (0 : Int32).toInt := fun z9 => c66 (i_eq.mpr z9)
            exact absurd b66 (by omega)
          · have b66 : v4.toInt = (0 : Int32).toInt := i_eq.mp c66
            refine lv_iconst (v := 0) hx hb dX4_readCondition_23 (by decide) ?_
            exact retE_z hQ C S4 hr dX4_readCondition_24 (z01 (by omega) (by omega)) (⟨⟨by omega, tk4⟩, Rs.no (by rw [u7_1]; exact conR_no (by omega) y4) (by omega) wr4⟩)
  have k_0 : (0 : Int32).toInt = 0 := by decide
  exact Lp7 401 (0 : Int32) (0 : Int32) (0 : Int32) b s.heap [] ls S (by omega) (by omega) (by omega) ts0 (congrArg (fun n9 => conR T (atm T 0) n9 b) (show 400 = 400 - (0 : Int32).toInt.toNat by decide)) tk0  (by omega) (lv_sub hl [0, 1, 2, 3, 4] rfl)

set_option maxRecDepth 100000 in
set_option maxHeartbeats 4000000 in
theorem c_X4_readAtom_d5 (l : Launch) (D : DD) (G : Nat → Nat) (a0 : Nat) (x1 : Int32) (tp : Nat) (T : Tx) (b : Nat) (ga0 : G a0 = 21) (ix1 : 5 ≤ x1.toInt ∧ x1.toInt ≤ 5) : CE l D G yX4_readAtom cX4_readAtom 4 (some .boolean) 9 [.ref a0, .int x1] (fun H => (True) ∧ (fR D H 4 a0 0 = tp ∧ TS D H tp T b)) [(2, 3), (2, 4), (2, 5), (2, 6), (2, 2), (22, 0), (21, 3)] (xI (fun H r H1 => ((0 ≤ r.toInt ∧ r.toInt ≤ 1) ∧ (Lw D H H1 a0)) ∧ (Rs D H1 tp T (atm T 1 b) r))) := by
  refine enter (by decide) (Nat.le_of_ble_eq_true rfl) ?_
  intro p e s m args below meth c ls Q hA hQ C hr hO hpre hl
  have hx := C.1
  have hb := C.2.1
  have S : Sd D G [(2, 3), (2, 4), (2, 5), (2, 6), (2, 2), (22, 0), (21, 3)] s.heap s.heap [] := Sd.start hO
  have hl : lv_has ls 4 [(0, .ref a0), (1, .int x1)] := hl
  obtain ⟨hpre, hf⟩ := hpre
  obtain ⟨htp, ts0⟩ := hf
  have gtp : G tp = 2 := by rw [← htp]; exact hO.rol ga0 rfl (by decide) rfl
  have hT : T.2 ≤ 400 := ts0.le hO gtp
  have tk0 : Lw D s.heap s.heap a0 := Lw.refl
  refine lv_aload_n hx hb dX4_readAtom_0 rfl (lv_at hl 0 rfl) ?_
  refine q_grS (T := TX4) C S.1 ga0 0 kF_X4_39 dX4_readAtom_1 rfl rfl (by decide) rfl (by decide) kSF_X4_tape (fun g1 => ?_)
  rw [show fR D s.heap 4 a0 0 = tp from htp]
  refine q_lds C ks_X4_82 dX4_readAtom_4 (fun a2 ha2 wa2 => ?_)
  refine callV_Pi C S.1 S.2.1.2.1 (c_X9_isWord_f l D G tp a2 3 w_not T b gtp ha2 (Wc.of wa2 kw_not)) kV_X4_61 gtp (⟨trivial, ts0⟩) dX4_readAtom_6 hl.1 rfl rfl (by decide) cd_X9_isWord ⟨Nat.le_of_ble_eq_true rfl, Nat.le_of_ble_eq_true rfl, Nat.le_of_ble_eq_true rfl, Nat.le_of_ble_eq_true rfl, Nat.le_of_ble_eq_true rfl⟩ (fun v3 q3 => ?_)
  obtain ⟨q3, fq3⟩ := q3
  rcases fq3 with ⟨z3, y3⟩ | ⟨z3, y3⟩
  · skip
    refine lv_istore_n (lv' := [(2, .int v3), (0, .ref a0), (1, .int x1)]) hx hb dX4_readAtom_9 rfl hl (by decide) rfl (fun ls hl => ?_)
    refine lv_iload_n hx hb dX4_readAtom_10 rfl (lv_at hl 0 rfl) ?_
    have k_0 : (0 : Int32).toInt = 0 := by decide
    refine lv_if_ne (tgt := 26) hx hb dX4_readAtom_11 (by decide) (fun c4 => ?_) (fun c4 => ?_)
    · have b4 : ¬ v3.toInt = (0 : Int32).toInt := fun z9 => c4 (i_eq.mpr z9)
      refine lv_iload_n hx hb dX4_readAtom_26 rfl (lv_at hl 2 rfl) ?_
      refine lv_bipush (v := 6) hx hb dX4_readAtom_27 (by decide) ?_
      have k_6 : (6 : Int32).toInt = 6 := by decide
      refine lv_icmp_lt (tgt := 40) hx hb dX4_readAtom_29 (by decide) (fun c5 => ?_) (fun c5 => ?_)
      · have b5 : x1.toInt < (6 : Int32).toInt := i_lt.mp c5
        refine lv_aload_n hx hb dX4_readAtom_40 rfl (lv_at hl 1 rfl) ?_
        refine q_grS (T := TX4) C S.1 ga0 0 kF_X4_39 dX4_readAtom_41 rfl rfl (by decide) rfl (by decide) kSF_X4_tape (fun g6 => ?_)
        rw [show fR D s.heap 4 a0 0 = tp from htp]
        refine callV_Ev C S (c_X9_next_f l D G tp T b gtp) kV_X4_47 gtp (⟨trivial, ts0⟩) (by decide +kernel) dX4_readAtom_44 hl.1 rfl rfl (by decide) cd_X9_next ⟨Nat.le_of_ble_eq_true rfl, Nat.le_of_ble_eq_true rfl, Nat.le_of_ble_eq_true rfl, Nat.le_of_ble_eq_true rfl, Nat.le_of_ble_eq_true rfl⟩ (fun H7 L7 S7 K7 q7 => ?_)
        obtain ⟨q7, fq7⟩ := q7
        have tk7 : Lw D s.heap H7 a0 := tk0.trans (Lw.keep S.1 ga0 K7 (by decide +kernel) (by decide +kernel) (by decide +kernel))
        refine lv_iload_n hx hb dX4_readAtom_47 rfl (lv_at hl 0 rfl) ?_
        refine lv_if_ne (tgt := 79) hx hb dX4_readAtom_48 (by decide) (fun c8 => ?_) (fun c8 => ?_)
        · have b8 : ¬ v3.toInt = (0 : Int32).toInt := fun z9 => c8 (i_eq.mpr z9)
          refine lv_aload_n hx hb dX4_readAtom_79 rfl (lv_at hl 1 rfl) ?_
          refine lv_iload_n hx hb dX4_readAtom_80 rfl (lv_at hl 2 rfl) ?_
          refine lv_iconst (v := 1) hx hb dX4_readAtom_81 (by decide) ?_
          have k_1 : (1 : Int32).toInt = 1 := by decide
          refine lv_iadd hx hb dX4_readAtom_82 ?_
          refine lv_topi (fun v9 ev9 => ?_)
          have f10 : v9.toInt = x1.toInt + (1 : Int32).toInt := by rw [ev9]; exact i_add (by omega) (by omega)
          refine callV_Ei C S7 (c_X4_readAtom_d6 l D G a0 v9 tp T (nx T b) ga0 (by omega)) kV_X4_75 ga0 (⟨trivial, ⟨(S7.2.1.fR ga0 rfl (by decide) (by decide +kernel)).trans htp, fq7⟩⟩) (by decide +kernel) dX4_readAtom_83 hl.1 rfl rfl (by decide) cd_X4_readAtom ⟨Nat.le_of_ble_eq_true rfl, Nat.le_of_ble_eq_true rfl, Nat.le_of_ble_eq_true rfl, Nat.le_of_ble_eq_true rfl, Nat.le_of_ble_eq_true rfl⟩ (fun v11 H11 L11 S11 K11 q11 => ?_)
          obtain ⟨q11, fq11⟩ := q11
          obtain ⟨q11, tq11⟩ := q11
          have tk11 : Lw D s.heap H11 a0 := tk7.trans tq11
          rcases fq11 with ⟨c11, y11, z11, ts11⟩ | ⟨e11, y11, z11, wr11⟩
          · skip
            refine lv_if_ne (tgt := 91) hx hb dX4_readAtom_86 (by decide) (fun c12 => ?_) (fun c12 => ?_)
            · have b12 : ¬ v11.toInt = (0 : Int32).toInt := fun z9 => c12 (i_eq.mpr z9)
              refine lv_aload_n hx hb dX4_readAtom_91 rfl (lv_at hl 1 rfl) ?_
              refine lv_bipush (v := -13) hx hb dX4_readAtom_92 (by decide) ?_
              have k_m13 : (-13 : Int32).toInt = -13 := by decide
              refine callV_Ev C S11 (c_X4_put l D G a0 (-13 : Int32) ga0) kV_X4_55 ga0 (trivial) (by decide +kernel) dX4_readAtom_94 hl.1 rfl rfl (by decide) cd_X4_put ⟨Nat.le_of_ble_eq_true rfl, Nat.le_of_ble_eq_true rfl, Nat.le_of_ble_eq_true rfl, Nat.le_of_ble_eq_true rfl, Nat.le_of_ble_eq_true rfl⟩ (fun H13 L13 S13 K13 q13 => ?_)
              obtain ⟨qa13, qb13, tq13⟩ := q13
              have tk13 : Lw D s.heap H13 a0 := tk11.trans tq13
              have ts13 := ts11.keep S11.1 gtp K13 (by decide +kernel)
              refine lv_iconst (v := 1) hx hb dX4_readAtom_97 (by decide) ?_
              exact retE_z hQ C S13 hr dX4_readAtom_98 (z01 (by omega) (by omega)) (⟨⟨by omega, tk13⟩, Rs.ok (by rw [atm_s]; simp [clo, tlF, y3, y11]) (by omega) ts13⟩)
            · have b12 : v11.toInt = (0 : Int32).toInt := i_eq.mp c12
              exact absurd b12 (by omega)
          · skip
            refine lv_if_ne (tgt := 91) hx hb dX4_readAtom_86 (by decide) (fun c14 => ?_) (fun c14 => ?_)
            · have b14 : ¬ v11.toInt = (0 : Int32).toInt := fun z9 => c14 (i_eq.mpr z9)
              exact absurd b14 (by omega)
            · have b14 : v11.toInt = (0 : Int32).toInt := i_eq.mp c14
              refine lv_iconst (v := 0) hx hb dX4_readAtom_89 (by decide) ?_
              exact retE_z hQ C S11 hr dX4_readAtom_90 (z01 (by omega) (by omega)) (⟨⟨by omega, tk11⟩, Rs.no (by rw [atm_s]; simp [clo, tlF, y3, y11]) (by omega) wr11⟩)
        · have b8 : v3.toInt = (0 : Int32).toInt := i_eq.mp c8
          exact absurd b8 (by omega)
      · have b5 : ¬ x1.toInt < (6 : Int32).toInt := fun z9 => c5 (i_lt.mpr z9)
        exact absurd b5 (by omega)
    · have b4 : v3.toInt = (0 : Int32).toInt := i_eq.mp c4
      exact absurd b4 (by omega)
  · skip
    refine lv_istore_n (lv' := [(2, .int v3), (0, .ref a0), (1, .int x1)]) hx hb dX4_readAtom_9 rfl hl (by decide) rfl (fun ls hl => ?_)
    refine lv_iload_n hx hb dX4_readAtom_10 rfl (lv_at hl 0 rfl) ?_
    have k_0 : (0 : Int32).toInt = 0 := by decide
    refine lv_if_ne (tgt := 26) hx hb dX4_readAtom_11 (by decide) (fun c15 => ?_) (fun c15 => ?_)
    · have b15 : ¬ v3.toInt = (0 : Int32).toInt := fun z9 => c15 (i_eq.mpr z9)
      exact absurd b15 (by omega)
    · have b15 : v3.toInt = (0 : Int32).toInt := i_eq.mp c15
      refine lv_aload_n hx hb dX4_readAtom_14 rfl (lv_at hl 1 rfl) ?_
      refine q_grS (T := TX4) C S.1 ga0 0 kF_X4_39 dX4_readAtom_15 rfl rfl (by decide) rfl (by decide) kSF_X4_tape (fun g16 => ?_)
      rw [show fR D s.heap 4 a0 0 = tp from htp]
      refine lv_bipush (v := 40) hx hb dX4_readAtom_18 (by decide) ?_
      have k_40 : (40 : Int32).toInt = 40 := by decide
      refine callV_Pi C S.1 S.2.1.2.1 (c_X9_isSign_f l D G tp (40 : Int32) 40 T b gtp (by omega) (by decide)) kV_X4_84 gtp (⟨trivial, ts0⟩) dX4_readAtom_20 hl.1 rfl rfl (by decide) cd_X9_isSign ⟨Nat.le_of_ble_eq_true rfl, Nat.le_of_ble_eq_true rfl, Nat.le_of_ble_eq_true rfl, Nat.le_of_ble_eq_true rfl, Nat.le_of_ble_eq_true rfl⟩ (fun v17 q17 => ?_)
      obtain ⟨q17, fq17⟩ := q17
      rcases fq17 with ⟨z17, y17⟩ | ⟨z17, y17⟩
      · skip
        refine lv_if_eq (tgt := 99) hx hb dX4_readAtom_23 (by decide) (fun c18 => ?_) (fun c18 => ?_)
        · have b18 : v17.toInt = (0 : Int32).toInt := i_eq.mp c18
          exact absurd b18 (by omega)
        · have b18 : ¬ v17.toInt = (0 : Int32).toInt := fun z9 => c18 (i_eq.mpr z9)
          refine lv_iload_n hx hb dX4_readAtom_26 rfl (lv_at hl 2 rfl) ?_
          refine lv_bipush (v := 6) hx hb dX4_readAtom_27 (by decide) ?_
          have k_6 : (6 : Int32).toInt = 6 := by decide
          refine lv_icmp_lt (tgt := 40) hx hb dX4_readAtom_29 (by decide) (fun c19 => ?_) (fun c19 => ?_)
          · have b19 : x1.toInt < (6 : Int32).toInt := i_lt.mp c19
            refine lv_aload_n hx hb dX4_readAtom_40 rfl (lv_at hl 1 rfl) ?_
            refine q_grS (T := TX4) C S.1 ga0 0 kF_X4_39 dX4_readAtom_41 rfl rfl (by decide) rfl (by decide) kSF_X4_tape (fun g20 => ?_)
            rw [show fR D s.heap 4 a0 0 = tp from htp]
            refine callV_Ev C S (c_X9_next_f l D G tp T b gtp) kV_X4_47 gtp (⟨trivial, ts0⟩) (by decide +kernel) dX4_readAtom_44 hl.1 rfl rfl (by decide) cd_X9_next ⟨Nat.le_of_ble_eq_true rfl, Nat.le_of_ble_eq_true rfl, Nat.le_of_ble_eq_true rfl, Nat.le_of_ble_eq_true rfl, Nat.le_of_ble_eq_true rfl⟩ (fun H21 L21 S21 K21 q21 => ?_)
            obtain ⟨q21, fq21⟩ := q21
            have tk21 : Lw D s.heap H21 a0 := tk0.trans (Lw.keep S.1 ga0 K21 (by decide +kernel) (by decide +kernel) (by decide +kernel))
            refine lv_iload_n hx hb dX4_readAtom_47 rfl (lv_at hl 0 rfl) ?_
            refine lv_if_ne (tgt := 79) hx hb dX4_readAtom_48 (by decide) (fun c22 => ?_) (fun c22 => ?_)
            · have b22 : ¬ v3.toInt = (0 : Int32).toInt := fun z9 => c22 (i_eq.mpr z9)
              exact absurd b22 (by omega)
            · have b22 : v3.toInt = (0 : Int32).toInt := i_eq.mp c22
              refine lv_aload_n hx hb dX4_readAtom_51 rfl (lv_at hl 1 rfl) ?_
              refine lv_iload_n hx hb dX4_readAtom_52 rfl (lv_at hl 2 rfl) ?_
              refine lv_iconst (v := 1) hx hb dX4_readAtom_53 (by decide) ?_
              have k_1 : (1 : Int32).toInt = 1 := by decide
              refine lv_iadd hx hb dX4_readAtom_54 ?_
              refine lv_topi (fun v23 ev23 => ?_)
              have f24 : v23.toInt = x1.toInt + (1 : Int32).toInt := by rw [ev23]; exact i_add (by omega) (by omega)
              refine callV_Ei C S21 (c_X4_readCondition_d6 l D G a0 v23 tp T (nx T b) ga0 (by omega)) kV_X4_65 ga0 (⟨trivial, ⟨(S21.2.1.fR ga0 rfl (by decide) (by decide +kernel)).trans htp, fq21⟩⟩) (by decide +kernel) dX4_readAtom_55 hl.1 rfl rfl (by decide) cd_X4_readCondition ⟨Nat.le_of_ble_eq_true rfl, Nat.le_of_ble_eq_true rfl, Nat.le_of_ble_eq_true rfl, Nat.le_of_ble_eq_true rfl, Nat.le_of_ble_eq_true rfl⟩ (fun v25 H25 L25 S25 K25 q25 => ?_)
              obtain ⟨q25, fq25⟩ := q25
              obtain ⟨q25, tq25⟩ := q25
              have tk25 : Lw D s.heap H25 a0 := tk21.trans tq25
              rcases fq25 with ⟨c25, y25, z25, ts25⟩ | ⟨e25, y25, z25, wr25⟩
              · skip
                refine lv_if_eq (tgt := 77) hx hb dX4_readAtom_58 (by decide) (fun c26 => ?_) (fun c26 => ?_)
                · have b26 : v25.toInt = (0 : Int32).toInt := i_eq.mp c26
                  exact absurd b26 (by omega)
                · have b26 : ¬ v25.toInt = (0 : Int32).toInt := fun z9 => c26 (i_eq.mpr z9)
                  refine lv_aload_n hx hb dX4_readAtom_61 rfl (lv_at hl 1 rfl) ?_
                  refine q_grS (T := TX4) C S25.1 ga0 0 kF_X4_39 dX4_readAtom_62 rfl rfl (by decide) rfl (by decide) kSF_X4_tape (fun g27 => ?_)
                  rw [show fR D H25 4 a0 0 = tp from (S25.2.1.fR ga0 rfl (by decide) (by decide +kernel)).trans htp]
                  refine lv_bipush (v := 41) hx hb dX4_readAtom_65 (by decide) ?_
                  have k_41 : (41 : Int32).toInt = 41 := by decide
                  refine callV_Ei C S25 (c_X9_takeSign_f l D G tp (41 : Int32) 41 T c25 gtp (by omega) (by decide)) kV_X4_88 gtp (⟨trivial, ts25⟩) (by decide +kernel) dX4_readAtom_67 hl.1 rfl rfl (by decide) cd_X9_takeSign ⟨Nat.le_of_ble_eq_true rfl, Nat.le_of_ble_eq_true rfl, Nat.le_of_ble_eq_true rfl, Nat.le_of_ble_eq_true rfl, Nat.le_of_ble_eq_true rfl⟩ (fun v28 H28 L28 S28 K28 q28 => ?_)
                  obtain ⟨q28, fq28⟩ := q28
                  have tk28 : Lw D s.heap H28 a0 := tk25.trans (Lw.keep S25.1 ga0 K28 (by decide +kernel) (by decide +kernel) (by decide +kernel))
                  rcases fq28 with ⟨c28, y28, z28, ts28⟩ | ⟨e28, y28, z28, wr28⟩
                  · skip
                    refine lv_if_eq (tgt := 77) hx hb dX4_readAtom_70 (by decide) (fun c29 => ?_) (fun c29 => ?_)
                    · have b29 : v28.toInt = (0 : Int32).toInt := i_eq.mp c29
                      exact absurd b29 (by omega)
                    · have b29 : ¬ v28.toInt = (0 : Int32).toInt := fun z9 => c29 (i_eq.mpr z9)
                      refine lv_iconst (v := 1) hx hb dX4_readAtom_73 (by decide) ?_
                      refine lv_goto (tgt := 78) hx hb dX4_readAtom_74 (by decide) ?_
                      exact retE_z hQ C S28 hr dX4_readAtom_78 (z01 (by omega) (by omega)) (⟨⟨by omega, tk28⟩, Rs.ok (by rw [atm_s]; simp [clo, tlF, y3, y17, y25, y28]) (by omega) ts28⟩)
                  · skip
                    refine lv_if_eq (tgt := 77) hx hb dX4_readAtom_70 (by decide) (fun c30 => ?_) (fun c30 => ?_)
                    · have b30 : v28.toInt = (0 : Int32).toInt := i_eq.mp c30
                      refine lv_iconst (v := 0) hx hb dX4_readAtom_77 (by decide) ?_
                      exact retE_z hQ C S28 hr dX4_readAtom_78 (z01 (by omega) (by omega)) (⟨⟨by omega, tk28⟩, Rs.no (by rw [atm_s]; simp [clo, tlF, y3, y17, y25, y28]) (by omega) wr28⟩)
                    · have b30 : ¬ v28.toInt = (0 : Int32).toInt := fun z9 => c30 (i_eq.mpr z9)
                      exact absurd b30 (by omega)
              · skip
                refine lv_if_eq (tgt := 77) hx hb dX4_readAtom_58 (by decide) (fun c31 => ?_) (fun c31 => ?_)
                · have b31 : v25.toInt = (0 : Int32).toInt := i_eq.mp c31
                  refine lv_iconst (v := 0) hx hb dX4_readAtom_77 (by decide) ?_
                  exact retE_z hQ C S25 hr dX4_readAtom_78 (z01 (by omega) (by omega)) (⟨⟨by omega, tk25⟩, Rs.no (by rw [atm_s]; simp [clo, tlF, y3, y17, y25]) (by omega) wr25⟩)
                · have b31 : ¬ v25.toInt = (0 : Int32).toInt := fun z9 => c31 (i_eq.mpr z9)
                  exact absurd b31 (by omega)
          · have b19 : ¬ x1.toInt < (6 : Int32).toInt := fun z9 => c19 (i_lt.mpr z9)
            exact absurd b19 (by omega)
      · skip
        refine lv_if_eq (tgt := 99) hx hb dX4_readAtom_23 (by decide) (fun c32 => ?_) (fun c32 => ?_)
        · have b32 : v17.toInt = (0 : Int32).toInt := i_eq.mp c32
          refine lv_aload_n hx hb dX4_readAtom_99 rfl (lv_at hl 1 rfl) ?_
          refine callV_Pi C S.1 S.2.1.2.1 (c_X4_presentTruth l D G a0 tp T b ga0) kV_X4_91 ga0 (⟨trivial, ⟨htp, ts0⟩⟩) dX4_readAtom_100 hl.1 rfl rfl (by decide) cd_X4_presentTruth ⟨Nat.le_of_ble_eq_true rfl, Nat.le_of_ble_eq_true rfl, Nat.le_of_ble_eq_true rfl, Nat.le_of_ble_eq_true rfl, Nat.le_of_ble_eq_true rfl⟩ (fun v33 q33 => ?_)
          obtain ⟨q33, fq33⟩ := q33
          refine lv_istore_n (lv' := [(3, .int v33), (2, .int v3), (0, .ref a0), (1, .int x1)]) hx hb dX4_readAtom_103 rfl hl (by decide) rfl (fun ls hl => ?_)
          refine lv_iload_n hx hb dX4_readAtom_104 rfl (lv_at hl 0 rfl) ?_
          refine lv_iconst (v := -1) hx hb dX4_readAtom_105 (by decide) ?_
          have k_m1 : (-1 : Int32).toInt = -1 := by decide
          refine lv_icmp_ne (tgt := 114) hx hb dX4_readAtom_106 (by decide) (fun c34 => ?_) (fun c34 => ?_)
          · have b34 : ¬ v33.toInt = (-1 : Int32).toInt := fun z9 => c34 (i_eq.mpr z9)
            have yt35 : ¬ tru T b = -1 := by omega
            refine lv_aload_n hx hb dX4_readAtom_114 rfl (lv_at hl 2 rfl) ?_
            refine lv_iload_n hx hb dX4_readAtom_115 rfl (lv_at hl 0 rfl) ?_
            refine callV_Ev C S (c_X4_put l D G a0 v33 ga0) kV_X4_55 ga0 (trivial) (by decide +kernel) dX4_readAtom_116 hl.1 rfl rfl (by decide) cd_X4_put ⟨Nat.le_of_ble_eq_true rfl, Nat.le_of_ble_eq_true rfl, Nat.le_of_ble_eq_true rfl, Nat.le_of_ble_eq_true rfl, Nat.le_of_ble_eq_true rfl⟩ (fun H36 L36 S36 K36 q36 => ?_)
            obtain ⟨qa36, qb36, tq36⟩ := q36
            have tk36 : Lw D s.heap H36 a0 := tk0.trans tq36
            have ts36 := ts0.keep S.1 gtp K36 (by decide +kernel)
            refine lv_aload_n hx hb dX4_readAtom_119 rfl (lv_at hl 2 rfl) ?_
            refine q_grS (T := TX4) C S36.1 ga0 0 kF_X4_39 dX4_readAtom_120 rfl rfl (by decide) rfl (by decide) kSF_X4_tape (fun g37 => ?_)
            rw [show fR D H36 4 a0 0 = tp from (S36.2.1.fR ga0 rfl (by decide) (by decide +kernel)).trans htp]
            refine callV_Ev C S36 (c_X9_next_f l D G tp T b gtp) kV_X4_47 gtp (⟨trivial, ts36⟩) (by decide +kernel) dX4_readAtom_123 hl.1 rfl rfl (by decide) cd_X9_next ⟨Nat.le_of_ble_eq_true rfl, Nat.le_of_ble_eq_true rfl, Nat.le_of_ble_eq_true rfl, Nat.le_of_ble_eq_true rfl, Nat.le_of_ble_eq_true rfl⟩ (fun H38 L38 S38 K38 q38 => ?_)
            obtain ⟨q38, fq38⟩ := q38
            have tk38 : Lw D s.heap H38 a0 := tk36.trans (Lw.keep S36.1 ga0 K38 (by decide +kernel) (by decide +kernel) (by decide +kernel))
            refine lv_iconst (v := 1) hx hb dX4_readAtom_126 (by decide) ?_
            have k_1 : (1 : Int32).toInt = 1 := by decide
            exact retE_z hQ C S38 hr dX4_readAtom_127 (z01 (by omega) (by omega)) (⟨⟨by omega, tk38⟩, Rs.ok (by rw [atm_s]; simp [clo, tlF, y3, y17, yt35]) (by omega) fq38⟩)
          · have b34 : v33.toInt = (-1 : Int32).toInt := i_eq.mp c34
            have yt39 : tru T b = -1 := by omega
            refine lv_aload_n hx hb dX4_readAtom_109 rfl (lv_at hl 2 rfl) ?_
            refine callV_Ei C S (c_X4_readComparison l D G a0 tp T b ga0) kV_X4_94 ga0 (⟨trivial, ⟨htp, ts0⟩⟩) (by decide +kernel) dX4_readAtom_110 hl.1 rfl rfl (by decide) cd_X4_readComparison ⟨Nat.le_of_ble_eq_true rfl, Nat.le_of_ble_eq_true rfl, Nat.le_of_ble_eq_true rfl, Nat.le_of_ble_eq_true rfl, Nat.le_of_ble_eq_true rfl⟩ (fun v40 H40 L40 S40 K40 q40 => ?_)
            obtain ⟨q40, fq40⟩ := q40
            obtain ⟨q40, tq40⟩ := q40
            have tk40 : Lw D s.heap H40 a0 := tk0.trans tq40
            rcases fq40 with ⟨c40, y40, z40, ts40⟩ | ⟨e40, y40, z40, wr40⟩
            · skip
              exact retE_z hQ C S40 hr dX4_readAtom_113 (z01 (by omega) (by omega)) (⟨⟨by omega, tk40⟩, Rs.ok (by rw [atm_s]; simp [clo, tlF, y3, y17, yt39, y40]) (by omega) ts40⟩)
            · skip
              exact retE_z hQ C S40 hr dX4_readAtom_113 (z01 (by omega) (by omega)) (⟨⟨by omega, tk40⟩, Rs.no (by rw [atm_s]; simp [clo, tlF, y3, y17, yt39, y40]) (by omega) wr40⟩)
        · have b32 : ¬ v17.toInt = (0 : Int32).toInt := fun z9 => c32 (i_eq.mpr z9)
          exact absurd b32 (by omega)

set_option maxRecDepth 100000 in
set_option maxHeartbeats 4000000 in
theorem c_X4_readCondition_d5 (l : Launch) (D : DD) (G : Nat → Nat) (a0 : Nat) (x1 : Int32) (tp : Nat) (T : Tx) (b : Nat) (ga0 : G a0 = 21) (ix1 : 5 ≤ x1.toInt ∧ x1.toInt ≤ 5) : CE l D G yX4_readCondition cX4_readCondition 5 (some .boolean) 10 [.ref a0, .int x1] (fun H => (True) ∧ (fR D H 4 a0 0 = tp ∧ TS D H tp T b)) [(2, 3), (2, 4), (2, 5), (2, 6), (2, 2), (22, 0), (21, 3)] (xI (fun H r H1 => ((0 ≤ r.toInt ∧ r.toInt ≤ 1) ∧ (Lw D H H1 a0)) ∧ (Rs D H1 tp T (conF T (atm T 1) b) r))) := by
  refine enter (by decide) (Nat.le_of_ble_eq_true rfl) ?_
  intro p e s m args below meth c ls Q hA hQ C hr hO hpre hl
  have hx := C.1
  have hb := C.2.1
  have S : Sd D G [(2, 3), (2, 4), (2, 5), (2, 6), (2, 2), (22, 0), (21, 3)] s.heap s.heap [] := Sd.start hO
  have hl : lv_has ls 5 [(0, .ref a0), (1, .int x1)] := hl
  obtain ⟨hpre, hf⟩ := hpre
  obtain ⟨htp, ts0⟩ := hf
  have gtp : G tp = 2 := by rw [← htp]; exact hO.rol ga0 rfl (by decide) rfl
  have hT : T.2 ≤ 400 := ts0.le hO gtp
  have tk0 : Lw D s.heap s.heap a0 := Lw.refl
  refine lv_iconst (v := 0) hx hb dX4_readCondition_0 (by decide) ?_
  refine lv_istore_n (lv' := [(2, .int (0 : Int32)), (0, .ref a0), (1, .int x1)]) hx hb dX4_readCondition_1 rfl hl (by decide) rfl (fun ls hl => ?_)
  refine lv_iconst (v := 0) hx hb dX4_readCondition_2 (by decide) ?_
  refine lv_istore_n (lv' := [(3, .int (0 : Int32)), (2, .int (0 : Int32)), (0, .ref a0), (1, .int x1)]) hx hb dX4_readCondition_3 rfl hl (by decide) rfl (fun ls hl => ?_)
  refine lv_iconst (v := 0) hx hb dX4_readCondition_4 (by decide) ?_
  refine lv_istore (lv' := [(4, .int (0 : Int32)), (3, .int (0 : Int32)), (2, .int (0 : Int32)), (0, .ref a0), (1, .int x1)]) hx hb dX4_readCondition_5 hl (by decide) rfl (fun ls hl => ?_)
  have Lp7 : ∀ (n : Nat) (x4_7 : Int32) (x3_7 : Int32) (x2_7 : Int32) (b_7 : Nat) (H_7 : Heap) (L_7 : List Loc) (ls : Array Slot), (Sd D G [(2, 3), (2, 4), (2, 5), (2, 6), (2, 2), (22, 0), (21, 3)] s.heap H_7 L_7) → (0 ≤ x4_7.toInt ∧ x4_7.toInt ≤ 400) → (0 ≤ x3_7.toInt ∧ x3_7.toInt ≤ 1) → (0 ≤ x2_7.toInt ∧ x2_7.toInt ≤ 1) → (TS D H_7 tp T b_7) → (conF T (atm T 1) b = conR T (atm T 1) (400 - x4_7.toInt.toNat) b_7) → (Lw D s.heap H_7 a0) → 401 - x4_7.toInt ≤ (n : Int) → lv_has ls 5 [(4, .int x4_7), (3, .int x3_7), (2, .int x2_7), (0, .ref a0), (1, .int x1)] → W p l e (rmU 10 0 0) s m args below meth c H_7 L_7 0 0 Q (F0 m 7 ls []) := by
    intro n
    induction n with
    | zero =>
      intro x4_7 x3_7 x2_7 b_7 H_7 L_7 ls S_7 j7_0 j7_1 j7_2 u7_0 u7_1 u7_2 hn hl
      exact absurd hn (by omega)
    | succ n ih7 =>
      intro x4_7 x3_7 x2_7 b_7 H_7 L_7 ls S_7 j7_0 j7_1 j7_2 u7_0 u7_1 u7_2 hn hl
      refine lv_iload hx hb dX4_readCondition_7 (lv_at hl 0 rfl) ?_
      refine lv_sipush (v := 400) hx hb dX4_readCondition_9 (by decide) ?_
      have k_400 : (400 : Int32).toInt = 400 := by decide
      refine lv_icmp_ge (tgt := 88) hx hb dX4_readCondition_12 (by decide) (fun c1 => ?_) (fun c1 => ?_)
      · have b1 : (400 : Int32).toInt ≤ x4_7.toInt := i_le.mp c1
        refine lv_aload_n hx hb dX4_readCondition_88 rfl (lv_at hl 3 rfl) ?_
        refine q_grS (T := TX4) C S_7.1 ga0 0 kF_X4_39 dX4_readCondition_89 rfl rfl (by decide) rfl (by decide) kSF_X4_tape (fun g2 => ?_)
        rw [show fR D H_7 4 a0 0 = tp from (S_7.2.1.fR ga0 rfl (by decide) (by decide +kernel)).trans htp]
        refine callV_Ei C S_7 (c_X9_refuse_f l D G tp T b_7 gtp) kV_X4_43 gtp (⟨trivial, u7_0⟩) (by decide +kernel) dX4_readCondition_92 hl.1 rfl rfl (by decide) cd_X9_refuse ⟨Nat.le_of_ble_eq_true rfl, Nat.le_of_ble_eq_true rfl, Nat.le_of_ble_eq_true rfl, Nat.le_of_ble_eq_true rfl, Nat.le_of_ble_eq_true rfl⟩ (fun v3 H3 L3 S3 K3 q3 => ?_)
        obtain ⟨q3, fq3⟩ := q3
        have tk3 : Lw D s.heap H3 a0 := u7_2.trans (Lw.keep S_7.1 ga0 K3 (by decide +kernel) (by decide +kernel) (by decide +kernel))
        have z3 := fq3.1
        exact retE_z hQ C S3 hr dX4_readCondition_95 (z01 (by omega) (by omega)) (⟨⟨by omega, tk3⟩, Rs.no (by rw [u7_1, show 400 - x4_7.toInt.toNat = 0 by omega]; rfl) (by omega) fq3.2⟩)
      · have b1 : ¬ (400 : Int32).toInt ≤ x4_7.toInt := fun z9 => c1 (i_le.mpr z9)
        refine lv_aload_n hx hb dX4_readCondition_15 rfl (lv_at hl 3 rfl) ?_
        refine lv_iload_n hx hb dX4_readCondition_16 rfl (lv_at hl 4 rfl) ?_
        refine callV_Ei C S_7 (c_X4_readAtom_d5 l D G a0 x1 tp T b_7 ga0 (by omega)) kV_X4_75 ga0 (⟨trivial, ⟨(S_7.2.1.fR ga0 rfl (by decide) (by decide +kernel)).trans htp, u7_0⟩⟩) (by decide +kernel) dX4_readCondition_17 hl.1 rfl rfl (by decide) cd_X4_readAtom ⟨Nat.le_of_ble_eq_true rfl, Nat.le_of_ble_eq_true rfl, Nat.le_of_ble_eq_true rfl, Nat.le_of_ble_eq_true rfl, Nat.le_of_ble_eq_true rfl⟩ (fun v4 H4 L4 S4 K4 q4 => ?_)
        obtain ⟨q4, fq4⟩ := q4
        obtain ⟨q4, tq4⟩ := q4
        have tk4 : Lw D s.heap H4 a0 := u7_2.trans tq4
        rcases fq4 with ⟨c4, y4, z4, ts4⟩ | ⟨e4, y4, z4, wr4⟩
        · skip
          have k_0 : (0 : Int32).toInt = 0 := by decide
          refine lv_if_ne (tgt := 25) hx hb dX4_readCondition_20 (by decide) (fun c5 => ?_) (fun c5 => ?_)
          · have b5 : ¬ v4.toInt = (0 : Int32).toInt := fun z9 => c5 (i_eq.mpr z9)
            refine lv_iload_n hx hb dX4_readCondition_25 rfl (lv_at hl 1 rfl) ?_
            refine lv_if_eq (tgt := 35) hx hb dX4_readCondition_26 (by decide) (fun c6 => ?_) (fun c6 => ?_)
            · have b6 : x3_7.toInt = (0 : Int32).toInt := i_eq.mp c6
              refine lv_aload_n hx hb dX4_readCondition_35 rfl (lv_at hl 3 rfl) ?_
              refine q_grS (T := TX4) C S4.1 ga0 0 kF_X4_39 dX4_readCondition_36 rfl rfl (by decide) rfl (by decide) kSF_X4_tape (fun g7 => ?_)
              rw [show fR D H4 4 a0 0 = tp from (S4.2.1.fR ga0 rfl (by decide) (by decide +kernel)).trans htp]
              refine q_lds C ks_X4_78 dX4_readCondition_39 (fun a8 ha8 wa8 => ?_)
              refine callV_Pi C S4.1 S4.2.1.2.1 (c_X9_isWord_f l D G tp a8 3 w_and T c4 gtp ha8 (Wc.of wa8 kw_and)) kV_X4_61 gtp (⟨trivial, ts4⟩) dX4_readCondition_41 hl.1 rfl rfl (by decide) cd_X9_isWord ⟨Nat.le_of_ble_eq_true rfl, Nat.le_of_ble_eq_true rfl, Nat.le_of_ble_eq_true rfl, Nat.le_of_ble_eq_true rfl, Nat.le_of_ble_eq_true rfl⟩ (fun v9 q9 => ?_)
              obtain ⟨q9, fq9⟩ := q9
              rcases fq9 with ⟨z9, y9⟩ | ⟨z9, y9⟩
              · skip
                refine lv_istore_n (lv' := [(3, .int v9), (4, .int x4_7), (2, .int x2_7), (0, .ref a0), (1, .int x1)]) hx hb dX4_readCondition_44 rfl hl (by decide) rfl (fun ls hl => ?_)
                refine lv_iload_n hx hb dX4_readCondition_45 rfl (lv_at hl 0 rfl) ?_
                refine lv_if_ne (tgt := 75) hx hb dX4_readCondition_46 (by decide) (fun c10 => ?_) (fun c10 => ?_)
                · have b10 : ¬ v9.toInt = (0 : Int32).toInt := fun z9 => c10 (i_eq.mpr z9)
                  refine lv_aload_n hx hb dX4_readCondition_75 rfl (lv_at hl 3 rfl) ?_
                  refine q_grS (T := TX4) C S4.1 ga0 0 kF_X4_39 dX4_readCondition_76 rfl rfl (by decide) rfl (by decide) kSF_X4_tape (fun g11 => ?_)
                  rw [show fR D H4 4 a0 0 = tp from (S4.2.1.fR ga0 rfl (by decide) (by decide +kernel)).trans htp]
                  refine callV_Ev C S4 (c_X9_next_f l D G tp T c4 gtp) kV_X4_47 gtp (⟨trivial, ts4⟩) (by decide +kernel) dX4_readCondition_79 hl.1 rfl rfl (by decide) cd_X9_next ⟨Nat.le_of_ble_eq_true rfl, Nat.le_of_ble_eq_true rfl, Nat.le_of_ble_eq_true rfl, Nat.le_of_ble_eq_true rfl, Nat.le_of_ble_eq_true rfl⟩ (fun H12 L12 S12 K12 q12 => ?_)
                  obtain ⟨q12, fq12⟩ := q12
                  have tk12 : Lw D s.heap H12 a0 := tk4.trans (Lw.keep S4.1 ga0 K12 (by decide +kernel) (by decide +kernel) (by decide +kernel))
                  obtain ⟨v13, ev13⟩ : ∃ y : Int32, y = x4_7 + (1) := ⟨_, rfl⟩
                  have k_1 : (1 : Int32).toInt = 1 := by decide
                  have f14 : v13.toInt = x4_7.toInt + (1) := by rw [ev13]; exact i_addc k_1 (by omega) (by omega)
                  refine lv_iinc (v := v13) (lv' := [(4, .int v13), (3, .int v9), (2, .int x2_7), (0, .ref a0), (1, .int x1)]) hx hb dX4_readCondition_82 hl (k := 1) rfl (by rw [ev13]; rfl) (by decide) rfl (fun ls hl => ?_)
                  refine lv_goto (tgt := 7) hx hb dX4_readCondition_85 (by decide) ?_
                  exact ih7 v13 v9 x2_7 (nx T c4) H12 L12 ls S12 (by omega) (by omega) (by omega) fq12 (by rw [u7_1]; exact conR_st (by omega) y4 (by simp [y4, y9])) tk12 (by omega) (lv_sub hl [0, 1, 2, 3, 4] rfl)
                · have b10 : v9.toInt = (0 : Int32).toInt := i_eq.mp c10
                  exact absurd b10 (by omega)
              · skip
                refine lv_istore_n (lv' := [(3, .int v9), (4, .int x4_7), (2, .int x2_7), (0, .ref a0), (1, .int x1)]) hx hb dX4_readCondition_44 rfl hl (by decide) rfl (fun ls hl => ?_)
                refine lv_iload_n hx hb dX4_readCondition_45 rfl (lv_at hl 0 rfl) ?_
                refine lv_if_ne (tgt := 75) hx hb dX4_readCondition_46 (by decide) (fun c15 => ?_) (fun c15 => ?_)
                · have b15 : ¬ v9.toInt = (0 : Int32).toInt := fun z9 => c15 (i_eq.mpr z9)
                  exact absurd b15 (by omega)
                · have b15 : v9.toInt = (0 : Int32).toInt := i_eq.mp c15
                  refine lv_iload_n hx hb dX4_readCondition_49 rfl (lv_at hl 2 rfl) ?_
                  refine lv_if_eq (tgt := 59) hx hb dX4_readCondition_50 (by decide) (fun c16 => ?_) (fun c16 => ?_)
                  · have b16 : x2_7.toInt = (0 : Int32).toInt := i_eq.mp c16
                    refine lv_aload_n hx hb dX4_readCondition_59 rfl (lv_at hl 3 rfl) ?_
                    refine q_grS (T := TX4) C S4.1 ga0 0 kF_X4_39 dX4_readCondition_60 rfl rfl (by decide) rfl (by decide) kSF_X4_tape (fun g17 => ?_)
                    rw [show fR D H4 4 a0 0 = tp from (S4.2.1.fR ga0 rfl (by decide) (by decide +kernel)).trans htp]
                    refine q_lds C ks_X4_80 dX4_readCondition_63 (fun a18 ha18 wa18 => ?_)
                    refine callV_Pi C S4.1 S4.2.1.2.1 (c_X9_isWord_f l D G tp a18 2 w_or T c4 gtp ha18 (Wc.of wa18 kw_or)) kV_X4_61 gtp (⟨trivial, ts4⟩) dX4_readCondition_65 hl.1 rfl rfl (by decide) cd_X9_isWord ⟨Nat.le_of_ble_eq_true rfl, Nat.le_of_ble_eq_true rfl, Nat.le_of_ble_eq_true rfl, Nat.le_of_ble_eq_true rfl, Nat.le_of_ble_eq_true rfl⟩ (fun v19 q19 => ?_)
                    obtain ⟨q19, fq19⟩ := q19
                    rcases fq19 with ⟨z19, y19⟩ | ⟨z19, y19⟩
                    · skip
                      refine lv_istore_n (lv' := [(2, .int v19), (3, .int v9), (4, .int x4_7), (0, .ref a0), (1, .int x1)]) hx hb dX4_readCondition_68 rfl hl (by decide) rfl (fun ls hl => ?_)
                      refine lv_iload_n hx hb dX4_readCondition_69 rfl (lv_at hl 0 rfl) ?_
                      refine lv_if_ne (tgt := 75) hx hb dX4_readCondition_70 (by decide) (fun c20 => ?_) (fun c20 => ?_)
                      · have b20 : ¬ v19.toInt = (0 : Int32).toInt := fun z9 => c20 (i_eq.mpr z9)
                        refine lv_aload_n hx hb dX4_readCondition_75 rfl (lv_at hl 3 rfl) ?_
                        refine q_grS (T := TX4) C S4.1 ga0 0 kF_X4_39 dX4_readCondition_76 rfl rfl (by decide) rfl (by decide) kSF_X4_tape (fun g21 => ?_)
                        rw [show fR D H4 4 a0 0 = tp from (S4.2.1.fR ga0 rfl (by decide) (by decide +kernel)).trans htp]
                        refine callV_Ev C S4 (c_X9_next_f l D G tp T c4 gtp) kV_X4_47 gtp (⟨trivial, ts4⟩) (by decide +kernel) dX4_readCondition_79 hl.1 rfl rfl (by decide) cd_X9_next ⟨Nat.le_of_ble_eq_true rfl, Nat.le_of_ble_eq_true rfl, Nat.le_of_ble_eq_true rfl, Nat.le_of_ble_eq_true rfl, Nat.le_of_ble_eq_true rfl⟩ (fun H22 L22 S22 K22 q22 => ?_)
                        obtain ⟨q22, fq22⟩ := q22
                        have tk22 : Lw D s.heap H22 a0 := tk4.trans (Lw.keep S4.1 ga0 K22 (by decide +kernel) (by decide +kernel) (by decide +kernel))
                        obtain ⟨v23, ev23⟩ : ∃ y : Int32, y = x4_7 + (1) := ⟨_, rfl⟩
                        have k_1 : (1 : Int32).toInt = 1 := by decide
                        have f24 : v23.toInt = x4_7.toInt + (1) := by rw [ev23]; exact i_addc k_1 (by omega) (by omega)
                        refine lv_iinc (v := v23) (lv' := [(4, .int v23), (2, .int v19), (3, .int v9), (0, .ref a0), (1, .int x1)]) hx hb dX4_readCondition_82 hl (k := 2) rfl (by rw [ev23]; rfl) (by decide) rfl (fun ls hl => ?_)
                        refine lv_goto (tgt := 7) hx hb dX4_readCondition_85 (by decide) ?_
                        exact ih7 v23 v9 v19 (nx T c4) H22 L22 ls S22 (by omega) (by omega) (by omega) fq22 (by rw [u7_1]; exact conR_st (by omega) y4 (by simp [y4, y9, y19])) tk22 (by omega) (lv_sub hl [0, 2, 1, 3, 4] rfl)
                      · have b20 : v19.toInt = (0 : Int32).toInt := i_eq.mp c20
                        exact absurd b20 (by omega)
                    · skip
                      refine lv_istore_n (lv' := [(2, .int v19), (3, .int v9), (4, .int x4_7), (0, .ref a0), (1, .int x1)]) hx hb dX4_readCondition_68 rfl hl (by decide) rfl (fun ls hl => ?_)
                      refine lv_iload_n hx hb dX4_readCondition_69 rfl (lv_at hl 0 rfl) ?_
                      refine lv_if_ne (tgt := 75) hx hb dX4_readCondition_70 (by decide) (fun c25 => ?_) (fun c25 => ?_)
                      · have b25 : ¬ v19.toInt = (0 : Int32).toInt := fun z9 => c25 (i_eq.mpr z9)
                        exact absurd b25 (by omega)
                      · have b25 : v19.toInt = (0 : Int32).toInt := i_eq.mp c25
                        refine lv_iconst (v := 1) hx hb dX4_readCondition_73 (by decide) ?_
                        have k_1 : (1 : Int32).toInt = 1 := by decide
                        exact retE_z hQ C S4 hr dX4_readCondition_74 (z01 (by omega) (by omega)) (⟨⟨by omega, tk4⟩, Rs.ok (by rw [u7_1]; exact conR_ok (by omega) y4 (by simp [y4, y9, y19]) (by simp [y4, y9, y19])) (by omega) ts4⟩)
                  · have b16 : ¬ x2_7.toInt = (0 : Int32).toInt := fun z9 => c16 (i_eq.mpr z9)
                    refine lv_aload_n hx hb dX4_readCondition_53 rfl (lv_at hl 3 rfl) ?_
                    refine lv_bipush (v := -18) hx hb dX4_readCondition_54 (by decide) ?_
                    have k_m18 : (-18 : Int32).toInt = -18 := by decide
                    refine callV_Ev C S4 (c_X4_put l D G a0 (-18 : Int32) ga0) kV_X4_55 ga0 (trivial) (by decide +kernel) dX4_readCondition_56 hl.1 rfl rfl (by decide) cd_X4_put ⟨Nat.le_of_ble_eq_true rfl, Nat.le_of_ble_eq_true rfl, Nat.le_of_ble_eq_true rfl, Nat.le_of_ble_eq_true rfl, Nat.le_of_ble_eq_true rfl⟩ (fun H26 L26 S26 K26 q26 => ?_)
                    obtain ⟨qa26, qb26, tq26⟩ := q26
                    have tk26 : Lw D s.heap H26 a0 := tk4.trans tq26
                    have ts26 := ts4.keep S4.1 gtp K26 (by decide +kernel)
                    refine lv_aload_n hx hb dX4_readCondition_59 rfl (lv_at hl 3 rfl) ?_
                    refine q_grS (T := TX4) C S26.1 ga0 0 kF_X4_39 dX4_readCondition_60 rfl rfl (by decide) rfl (by decide) kSF_X4_tape (fun g27 => ?_)
                    rw [show fR D H26 4 a0 0 = tp from (S26.2.1.fR ga0 rfl (by decide) (by decide +kernel)).trans htp]
                    refine q_lds C ks_X4_80 dX4_readCondition_63 (fun a28 ha28 wa28 => ?_)
                    refine callV_Pi C S26.1 S26.2.1.2.1 (c_X9_isWord_f l D G tp a28 2 w_or T c4 gtp ha28 (Wc.of wa28 kw_or)) kV_X4_61 gtp (⟨trivial, ts26⟩) dX4_readCondition_65 hl.1 rfl rfl (by decide) cd_X9_isWord ⟨Nat.le_of_ble_eq_true rfl, Nat.le_of_ble_eq_true rfl, Nat.le_of_ble_eq_true rfl, Nat.le_of_ble_eq_true rfl, Nat.le_of_ble_eq_true rfl⟩ (fun v29 q29 => ?_)
                    obtain ⟨q29, fq29⟩ := q29
                    rcases fq29 with ⟨z29, y29⟩ | ⟨z29, y29⟩
                    · skip
                      refine lv_istore_n (lv' := [(2, .int v29), (3, .int v9), (4, .int x4_7), (0, .ref a0), (1, .int x1)]) hx hb dX4_readCondition_68 rfl hl (by decide) rfl (fun ls hl => ?_)
                      refine lv_iload_n hx hb dX4_readCondition_69 rfl (lv_at hl 0 rfl) ?_
                      refine lv_if_ne (tgt := 75) hx hb dX4_readCondition_70 (by decide) (fun c30 => ?_) (fun c30 => ?_)
                      · have b30 : ¬ v29.toInt = (0 : Int32).toInt := fun z9 => c30 (i_eq.mpr z9)
                        refine lv_aload_n hx hb dX4_readCondition_75 rfl (lv_at hl 3 rfl) ?_
                        refine q_grS (T := TX4) C S26.1 ga0 0 kF_X4_39 dX4_readCondition_76 rfl rfl (by decide) rfl (by decide) kSF_X4_tape (fun g31 => ?_)
                        rw [show fR D H26 4 a0 0 = tp from (S26.2.1.fR ga0 rfl (by decide) (by decide +kernel)).trans htp]
                        refine callV_Ev C S26 (c_X9_next_f l D G tp T c4 gtp) kV_X4_47 gtp (⟨trivial, ts26⟩) (by decide +kernel) dX4_readCondition_79 hl.1 rfl rfl (by decide) cd_X9_next ⟨Nat.le_of_ble_eq_true rfl, Nat.le_of_ble_eq_true rfl, Nat.le_of_ble_eq_true rfl, Nat.le_of_ble_eq_true rfl, Nat.le_of_ble_eq_true rfl⟩ (fun H32 L32 S32 K32 q32 => ?_)
                        obtain ⟨q32, fq32⟩ := q32
                        have tk32 : Lw D s.heap H32 a0 := tk26.trans (Lw.keep S26.1 ga0 K32 (by decide +kernel) (by decide +kernel) (by decide +kernel))
                        obtain ⟨v33, ev33⟩ : ∃ y : Int32, y = x4_7 + (1) := ⟨_, rfl⟩
                        have k_1 : (1 : Int32).toInt = 1 := by decide
                        have f34 : v33.toInt = x4_7.toInt + (1) := by rw [ev33]; exact i_addc k_1 (by omega) (by omega)
                        refine lv_iinc (v := v33) (lv' := [(4, .int v33), (2, .int v29), (3, .int v9), (0, .ref a0), (1, .int x1)]) hx hb dX4_readCondition_82 hl (k := 2) rfl (by rw [ev33]; rfl) (by decide) rfl (fun ls hl => ?_)
                        refine lv_goto (tgt := 7) hx hb dX4_readCondition_85 (by decide) ?_
                        exact ih7 v33 v9 v29 (nx T c4) H32 L32 ls S32 (by omega) (by omega) (by omega) fq32 (by rw [u7_1]; exact conR_st (by omega) y4 (by simp [y4, y9, y29])) tk32 (by omega) (lv_sub hl [0, 2, 1, 3, 4] rfl)
                      · have b30 : v29.toInt = (0 : Int32).toInt := i_eq.mp c30
                        exact absurd b30 (by omega)
                    · skip
                      refine lv_istore_n (lv' := [(2, .int v29), (3, .int v9), (4, .int x4_7), (0, .ref a0), (1, .int x1)]) hx hb dX4_readCondition_68 rfl hl (by decide) rfl (fun ls hl => ?_)
                      refine lv_iload_n hx hb dX4_readCondition_69 rfl (lv_at hl 0 rfl) ?_
                      refine lv_if_ne (tgt := 75) hx hb dX4_readCondition_70 (by decide) (fun c35 => ?_) (fun c35 => ?_)
                      · have b35 : ¬ v29.toInt = (0 : Int32).toInt := fun z9 => c35 (i_eq.mpr z9)
                        exact absurd b35 (by omega)
                      · have b35 : v29.toInt = (0 : Int32).toInt := i_eq.mp c35
                        refine lv_iconst (v := 1) hx hb dX4_readCondition_73 (by decide) ?_
                        have k_1 : (1 : Int32).toInt = 1 := by decide
                        exact retE_z hQ C S26 hr dX4_readCondition_74 (z01 (by omega) (by omega)) (⟨⟨by omega, tk26⟩, Rs.ok (by rw [u7_1]; exact conR_ok (by omega) y4 (by simp [y4, y9, y29]) (by simp [y4, y9, y29])) (by omega) ts26⟩)
            · have b6 : ¬ x3_7.toInt = (0 : Int32).toInt := fun z9 => c6 (i_eq.mpr z9)
              refine lv_aload_n hx hb dX4_readCondition_29 rfl (lv_at hl 3 rfl) ?_
              refine lv_bipush (v := -17) hx hb dX4_readCondition_30 (by decide) ?_
              have k_m17 : (-17 : Int32).toInt = -17 := by decide
              refine callV_Ev C S4 (c_X4_put l D G a0 (-17 : Int32) ga0) kV_X4_55 ga0 (trivial) (by decide +kernel) dX4_readCondition_32 hl.1 rfl rfl (by decide) cd_X4_put ⟨Nat.le_of_ble_eq_true rfl, Nat.le_of_ble_eq_true rfl, Nat.le_of_ble_eq_true rfl, Nat.le_of_ble_eq_true rfl, Nat.le_of_ble_eq_true rfl⟩ (fun H36 L36 S36 K36 q36 => ?_)
              obtain ⟨qa36, qb36, tq36⟩ := q36
              have tk36 : Lw D s.heap H36 a0 := tk4.trans tq36
              have ts36 := ts4.keep S4.1 gtp K36 (by decide +kernel)
              refine lv_aload_n hx hb dX4_readCondition_35 rfl (lv_at hl 3 rfl) ?_
              refine q_grS (T := TX4) C S36.1 ga0 0 kF_X4_39 dX4_readCondition_36 rfl rfl (by decide) rfl (by decide) kSF_X4_tape (fun g37 => ?_)
              rw [show fR D H36 4 a0 0 = tp from (S36.2.1.fR ga0 rfl (by decide) (by decide +kernel)).trans htp]
              refine q_lds C ks_X4_78 dX4_readCondition_39 (fun a38 ha38 wa38 => ?_)
              refine callV_Pi C S36.1 S36.2.1.2.1 (c_X9_isWord_f l D G tp a38 3 w_and T c4 gtp ha38 (Wc.of wa38 kw_and)) kV_X4_61 gtp (⟨trivial, ts36⟩) dX4_readCondition_41 hl.1 rfl rfl (by decide) cd_X9_isWord ⟨Nat.le_of_ble_eq_true rfl, Nat.le_of_ble_eq_true rfl, Nat.le_of_ble_eq_true rfl, Nat.le_of_ble_eq_true rfl, Nat.le_of_ble_eq_true rfl⟩ (fun v39 q39 => ?_)
              obtain ⟨q39, fq39⟩ := q39
              rcases fq39 with ⟨z39, y39⟩ | ⟨z39, y39⟩
              · skip
                refine lv_istore_n (lv' := [(3, .int v39), (4, .int x4_7), (2, .int x2_7), (0, .ref a0), (1, .int x1)]) hx hb dX4_readCondition_44 rfl hl (by decide) rfl (fun ls hl => ?_)
                refine lv_iload_n hx hb dX4_readCondition_45 rfl (lv_at hl 0 rfl) ?_
                refine lv_if_ne (tgt := 75) hx hb dX4_readCondition_46 (by decide) (fun c40 => ?_) (fun c40 => ?_)
                · have b40 : ¬ v39.toInt = (0 : Int32).toInt := fun z9 => c40 (i_eq.mpr z9)
                  refine lv_aload_n hx hb dX4_readCondition_75 rfl (lv_at hl 3 rfl) ?_
                  refine q_grS (T := TX4) C S36.1 ga0 0 kF_X4_39 dX4_readCondition_76 rfl rfl (by decide) rfl (by decide) kSF_X4_tape (fun g41 => ?_)
                  rw [show fR D H36 4 a0 0 = tp from (S36.2.1.fR ga0 rfl (by decide) (by decide +kernel)).trans htp]
                  refine callV_Ev C S36 (c_X9_next_f l D G tp T c4 gtp) kV_X4_47 gtp (⟨trivial, ts36⟩) (by decide +kernel) dX4_readCondition_79 hl.1 rfl rfl (by decide) cd_X9_next ⟨Nat.le_of_ble_eq_true rfl, Nat.le_of_ble_eq_true rfl, Nat.le_of_ble_eq_true rfl, Nat.le_of_ble_eq_true rfl, Nat.le_of_ble_eq_true rfl⟩ (fun H42 L42 S42 K42 q42 => ?_)
                  obtain ⟨q42, fq42⟩ := q42
                  have tk42 : Lw D s.heap H42 a0 := tk36.trans (Lw.keep S36.1 ga0 K42 (by decide +kernel) (by decide +kernel) (by decide +kernel))
                  obtain ⟨v43, ev43⟩ : ∃ y : Int32, y = x4_7 + (1) := ⟨_, rfl⟩
                  have k_1 : (1 : Int32).toInt = 1 := by decide
                  have f44 : v43.toInt = x4_7.toInt + (1) := by rw [ev43]; exact i_addc k_1 (by omega) (by omega)
                  refine lv_iinc (v := v43) (lv' := [(4, .int v43), (3, .int v39), (2, .int x2_7), (0, .ref a0), (1, .int x1)]) hx hb dX4_readCondition_82 hl (k := 1) rfl (by rw [ev43]; rfl) (by decide) rfl (fun ls hl => ?_)
                  refine lv_goto (tgt := 7) hx hb dX4_readCondition_85 (by decide) ?_
                  exact ih7 v43 v39 x2_7 (nx T c4) H42 L42 ls S42 (by omega) (by omega) (by omega) fq42 (by rw [u7_1]; exact conR_st (by omega) y4 (by simp [y4, y39])) tk42 (by omega) (lv_sub hl [0, 1, 2, 3, 4] rfl)
                · have b40 : v39.toInt = (0 : Int32).toInt := i_eq.mp c40
                  exact absurd b40 (by omega)
              · skip
                refine lv_istore_n (lv' := [(3, .int v39), (4, .int x4_7), (2, .int x2_7), (0, .ref a0), (1, .int x1)]) hx hb dX4_readCondition_44 rfl hl (by decide) rfl (fun ls hl => ?_)
                refine lv_iload_n hx hb dX4_readCondition_45 rfl (lv_at hl 0 rfl) ?_
                refine lv_if_ne (tgt := 75) hx hb dX4_readCondition_46 (by decide) (fun c45 => ?_) (fun c45 => ?_)
                · have b45 : ¬ v39.toInt = (0 : Int32).toInt := fun z9 => c45 (i_eq.mpr z9)
                  exact absurd b45 (by omega)
                · have b45 : v39.toInt = (0 : Int32).toInt := i_eq.mp c45
                  refine lv_iload_n hx hb dX4_readCondition_49 rfl (lv_at hl 2 rfl) ?_
                  refine lv_if_eq (tgt := 59) hx hb dX4_readCondition_50 (by decide) (fun c46 => ?_) (fun c46 => ?_)
                  · have b46 : x2_7.toInt = (0 : Int32).toInt := i_eq.mp c46
                    refine lv_aload_n hx hb dX4_readCondition_59 rfl (lv_at hl 3 rfl) ?_
                    refine q_grS (T := TX4) C S36.1 ga0 0 kF_X4_39 dX4_readCondition_60 rfl rfl (by decide) rfl (by decide) kSF_X4_tape (fun g47 => ?_)
                    rw [show fR D H36 4 a0 0 = tp from (S36.2.1.fR ga0 rfl (by decide) (by decide +kernel)).trans htp]
                    refine q_lds C ks_X4_80 dX4_readCondition_63 (fun a48 ha48 wa48 => ?_)
                    refine callV_Pi C S36.1 S36.2.1.2.1 (c_X9_isWord_f l D G tp a48 2 w_or T c4 gtp ha48 (Wc.of wa48 kw_or)) kV_X4_61 gtp (⟨trivial, ts36⟩) dX4_readCondition_65 hl.1 rfl rfl (by decide) cd_X9_isWord ⟨Nat.le_of_ble_eq_true rfl, Nat.le_of_ble_eq_true rfl, Nat.le_of_ble_eq_true rfl, Nat.le_of_ble_eq_true rfl, Nat.le_of_ble_eq_true rfl⟩ (fun v49 q49 => ?_)
                    obtain ⟨q49, fq49⟩ := q49
                    rcases fq49 with ⟨z49, y49⟩ | ⟨z49, y49⟩
                    · skip
                      refine lv_istore_n (lv' := [(2, .int v49), (3, .int v39), (4, .int x4_7), (0, .ref a0), (1, .int x1)]) hx hb dX4_readCondition_68 rfl hl (by decide) rfl (fun ls hl => ?_)
                      refine lv_iload_n hx hb dX4_readCondition_69 rfl (lv_at hl 0 rfl) ?_
                      refine lv_if_ne (tgt := 75) hx hb dX4_readCondition_70 (by decide) (fun c50 => ?_) (fun c50 => ?_)
                      · have b50 : ¬ v49.toInt = (0 : Int32).toInt := fun z9 => c50 (i_eq.mpr z9)
                        refine lv_aload_n hx hb dX4_readCondition_75 rfl (lv_at hl 3 rfl) ?_
                        refine q_grS (T := TX4) C S36.1 ga0 0 kF_X4_39 dX4_readCondition_76 rfl rfl (by decide) rfl (by decide) kSF_X4_tape (fun g51 => ?_)
                        rw [show fR D H36 4 a0 0 = tp from (S36.2.1.fR ga0 rfl (by decide) (by decide +kernel)).trans htp]
                        refine callV_Ev C S36 (c_X9_next_f l D G tp T c4 gtp) kV_X4_47 gtp (⟨trivial, ts36⟩) (by decide +kernel) dX4_readCondition_79 hl.1 rfl rfl (by decide) cd_X9_next ⟨Nat.le_of_ble_eq_true rfl, Nat.le_of_ble_eq_true rfl, Nat.le_of_ble_eq_true rfl, Nat.le_of_ble_eq_true rfl, Nat.le_of_ble_eq_true rfl⟩ (fun H52 L52 S52 K52 q52 => ?_)
                        obtain ⟨q52, fq52⟩ := q52
                        have tk52 : Lw D s.heap H52 a0 := tk36.trans (Lw.keep S36.1 ga0 K52 (by decide +kernel) (by decide +kernel) (by decide +kernel))
                        obtain ⟨v53, ev53⟩ : ∃ y : Int32, y = x4_7 + (1) := ⟨_, rfl⟩
                        have k_1 : (1 : Int32).toInt = 1 := by decide
                        have f54 : v53.toInt = x4_7.toInt + (1) := by rw [ev53]; exact i_addc k_1 (by omega) (by omega)
                        refine lv_iinc (v := v53) (lv' := [(4, .int v53), (2, .int v49), (3, .int v39), (0, .ref a0), (1, .int x1)]) hx hb dX4_readCondition_82 hl (k := 2) rfl (by rw [ev53]; rfl) (by decide) rfl (fun ls hl => ?_)
                        refine lv_goto (tgt := 7) hx hb dX4_readCondition_85 (by decide) ?_
                        exact ih7 v53 v39 v49 (nx T c4) H52 L52 ls S52 (by omega) (by omega) (by omega) fq52 (by rw [u7_1]; exact conR_st (by omega) y4 (by simp [y4, y39, y49])) tk52 (by omega) (lv_sub hl [0, 2, 1, 3, 4] rfl)
                      · have b50 : v49.toInt = (0 : Int32).toInt := i_eq.mp c50
                        exact absurd b50 (by omega)
                    · skip
                      refine lv_istore_n (lv' := [(2, .int v49), (3, .int v39), (4, .int x4_7), (0, .ref a0), (1, .int x1)]) hx hb dX4_readCondition_68 rfl hl (by decide) rfl (fun ls hl => ?_)
                      refine lv_iload_n hx hb dX4_readCondition_69 rfl (lv_at hl 0 rfl) ?_
                      refine lv_if_ne (tgt := 75) hx hb dX4_readCondition_70 (by decide) (fun c55 => ?_) (fun c55 => ?_)
                      · have b55 : ¬ v49.toInt = (0 : Int32).toInt := fun z9 => c55 (i_eq.mpr z9)
                        exact absurd b55 (by omega)
                      · have b55 : v49.toInt = (0 : Int32).toInt := i_eq.mp c55
                        refine lv_iconst (v := 1) hx hb dX4_readCondition_73 (by decide) ?_
                        have k_1 : (1 : Int32).toInt = 1 := by decide
                        exact retE_z hQ C S36 hr dX4_readCondition_74 (z01 (by omega) (by omega)) (⟨⟨by omega, tk36⟩, Rs.ok (by rw [u7_1]; exact conR_ok (by omega) y4 (by simp [y4, y39, y49]) (by simp [y4, y39, y49])) (by omega) ts36⟩)
                  · have b46 : ¬ x2_7.toInt = (0 : Int32).toInt := fun z9 => c46 (i_eq.mpr z9)
                    refine lv_aload_n hx hb dX4_readCondition_53 rfl (lv_at hl 3 rfl) ?_
                    refine lv_bipush (v := -18) hx hb dX4_readCondition_54 (by decide) ?_
                    have k_m18 : (-18 : Int32).toInt = -18 := by decide
                    refine callV_Ev C S36 (c_X4_put l D G a0 (-18 : Int32) ga0) kV_X4_55 ga0 (trivial) (by decide +kernel) dX4_readCondition_56 hl.1 rfl rfl (by decide) cd_X4_put ⟨Nat.le_of_ble_eq_true rfl, Nat.le_of_ble_eq_true rfl, Nat.le_of_ble_eq_true rfl, Nat.le_of_ble_eq_true rfl, Nat.le_of_ble_eq_true rfl⟩ (fun H56 L56 S56 K56 q56 => ?_)
                    obtain ⟨qa56, qb56, tq56⟩ := q56
                    have tk56 : Lw D s.heap H56 a0 := tk36.trans tq56
                    have ts56 := ts36.keep S36.1 gtp K56 (by decide +kernel)
                    refine lv_aload_n hx hb dX4_readCondition_59 rfl (lv_at hl 3 rfl) ?_
                    refine q_grS (T := TX4) C S56.1 ga0 0 kF_X4_39 dX4_readCondition_60 rfl rfl (by decide) rfl (by decide) kSF_X4_tape (fun g57 => ?_)
                    rw [show fR D H56 4 a0 0 = tp from (S56.2.1.fR ga0 rfl (by decide) (by decide +kernel)).trans htp]
                    refine q_lds C ks_X4_80 dX4_readCondition_63 (fun a58 ha58 wa58 => ?_)
                    refine callV_Pi C S56.1 S56.2.1.2.1 (c_X9_isWord_f l D G tp a58 2 w_or T c4 gtp ha58 (Wc.of wa58 kw_or)) kV_X4_61 gtp (⟨trivial, ts56⟩) dX4_readCondition_65 hl.1 rfl rfl (by decide) cd_X9_isWord ⟨Nat.le_of_ble_eq_true rfl, Nat.le_of_ble_eq_true rfl, Nat.le_of_ble_eq_true rfl, Nat.le_of_ble_eq_true rfl, Nat.le_of_ble_eq_true rfl⟩ (fun v59 q59 => ?_)
                    obtain ⟨q59, fq59⟩ := q59
                    rcases fq59 with ⟨z59, y59⟩ | ⟨z59, y59⟩
                    · skip
                      refine lv_istore_n (lv' := [(2, .int v59), (3, .int v39), (4, .int x4_7), (0, .ref a0), (1, .int x1)]) hx hb dX4_readCondition_68 rfl hl (by decide) rfl (fun ls hl => ?_)
                      refine lv_iload_n hx hb dX4_readCondition_69 rfl (lv_at hl 0 rfl) ?_
                      refine lv_if_ne (tgt := 75) hx hb dX4_readCondition_70 (by decide) (fun c60 => ?_) (fun c60 => ?_)
                      · have b60 : ¬ v59.toInt = (0 : Int32).toInt := fun z9 => c60 (i_eq.mpr z9)
                        refine lv_aload_n hx hb dX4_readCondition_75 rfl (lv_at hl 3 rfl) ?_
                        refine q_grS (T := TX4) C S56.1 ga0 0 kF_X4_39 dX4_readCondition_76 rfl rfl (by decide) rfl (by decide) kSF_X4_tape (fun g61 => ?_)
                        rw [show fR D H56 4 a0 0 = tp from (S56.2.1.fR ga0 rfl (by decide) (by decide +kernel)).trans htp]
                        refine callV_Ev C S56 (c_X9_next_f l D G tp T c4 gtp) kV_X4_47 gtp (⟨trivial, ts56⟩) (by decide +kernel) dX4_readCondition_79 hl.1 rfl rfl (by decide) cd_X9_next ⟨Nat.le_of_ble_eq_true rfl, Nat.le_of_ble_eq_true rfl, Nat.le_of_ble_eq_true rfl, Nat.le_of_ble_eq_true rfl, Nat.le_of_ble_eq_true rfl⟩ (fun H62 L62 S62 K62 q62 => ?_)
                        obtain ⟨q62, fq62⟩ := q62
                        have tk62 : Lw D s.heap H62 a0 := tk56.trans (Lw.keep S56.1 ga0 K62 (by decide +kernel) (by decide +kernel) (by decide +kernel))
                        obtain ⟨v63, ev63⟩ : ∃ y : Int32, y = x4_7 + (1) := ⟨_, rfl⟩
                        have k_1 : (1 : Int32).toInt = 1 := by decide
                        have f64 : v63.toInt = x4_7.toInt + (1) := by rw [ev63]; exact i_addc k_1 (by omega) (by omega)
                        refine lv_iinc (v := v63) (lv' := [(4, .int v63), (2, .int v59), (3, .int v39), (0, .ref a0), (1, .int x1)]) hx hb dX4_readCondition_82 hl (k := 2) rfl (by rw [ev63]; rfl) (by decide) rfl (fun ls hl => ?_)
                        refine lv_goto (tgt := 7) hx hb dX4_readCondition_85 (by decide) ?_
                        exact ih7 v63 v39 v59 (nx T c4) H62 L62 ls S62 (by omega) (by omega) (by omega) fq62 (by rw [u7_1]; exact conR_st (by omega) y4 (by simp [y4, y39, y59])) tk62 (by omega) (lv_sub hl [0, 2, 1, 3, 4] rfl)
                      · have b60 : v59.toInt = (0 : Int32).toInt := i_eq.mp c60
                        exact absurd b60 (by omega)
                    · skip
                      refine lv_istore_n (lv' := [(2, .int v59), (3, .int v39), (4, .int x4_7), (0, .ref a0), (1, .int x1)]) hx hb dX4_readCondition_68 rfl hl (by decide) rfl (fun ls hl => ?_)
                      refine lv_iload_n hx hb dX4_readCondition_69 rfl (lv_at hl 0 rfl) ?_
                      refine lv_if_ne (tgt := 75) hx hb dX4_readCondition_70 (by decide) (fun c65 => ?_) (fun c65 => ?_)
                      · have b65 : ¬ v59.toInt = (0 : Int32).toInt := fun z9 => c65 (i_eq.mpr z9)
                        exact absurd b65 (by omega)
                      · have b65 : v59.toInt = (0 : Int32).toInt := i_eq.mp c65
                        refine lv_iconst (v := 1) hx hb dX4_readCondition_73 (by decide) ?_
                        have k_1 : (1 : Int32).toInt = 1 := by decide
                        exact retE_z hQ C S56 hr dX4_readCondition_74 (z01 (by omega) (by omega)) (⟨⟨by omega, tk56⟩, Rs.ok (by rw [u7_1]; exact conR_ok (by omega) y4 (by simp [y4, y39, y59]) (by simp [y4, y39, y59])) (by omega) ts56⟩)
          · have b5 : v4.toInt = (0 : Int32).toInt := i_eq.mp c5
            exact absurd b5 (by omega)
        · skip
          have k_0 : (0 : Int32).toInt = 0 := by decide
          refine lv_if_ne (tgt := 25) hx hb dX4_readCondition_20 (by decide) (fun c66 => ?_) (fun c66 => ?_)
          · have b66 : ¬ v4.toInt = (0 : Int32).toInt := fun z9 => c66 (i_eq.mpr z9)
            exact absurd b66 (by omega)
          · have b66 : v4.toInt = (0 : Int32).toInt := i_eq.mp c66
            refine lv_iconst (v := 0) hx hb dX4_readCondition_23 (by decide) ?_
            exact retE_z hQ C S4 hr dX4_readCondition_24 (z01 (by omega) (by omega)) (⟨⟨by omega, tk4⟩, Rs.no (by rw [u7_1]; exact conR_no (by omega) y4) (by omega) wr4⟩)
  have k_0 : (0 : Int32).toInt = 0 := by decide
  exact Lp7 401 (0 : Int32) (0 : Int32) (0 : Int32) b s.heap [] ls S (by omega) (by omega) (by omega) ts0 (congrArg (fun n9 => conR T (atm T 1) n9 b) (show 400 = 400 - (0 : Int32).toInt.toNat by decide)) tk0  (by omega) (lv_sub hl [0, 1, 2, 3, 4] rfl)

set_option maxRecDepth 100000 in
set_option maxHeartbeats 4000000 in
theorem c_X4_readAtom_d4 (l : Launch) (D : DD) (G : Nat → Nat) (a0 : Nat) (x1 : Int32) (tp : Nat) (T : Tx) (b : Nat) (ga0 : G a0 = 21) (ix1 : 4 ≤ x1.toInt ∧ x1.toInt ≤ 4) : CE l D G yX4_readAtom cX4_readAtom 4 (some .boolean) 11 [.ref a0, .int x1] (fun H => (True) ∧ (fR D H 4 a0 0 = tp ∧ TS D H tp T b)) [(2, 3), (2, 4), (2, 5), (2, 6), (2, 2), (22, 0), (21, 3)] (xI (fun H r H1 => ((0 ≤ r.toInt ∧ r.toInt ≤ 1) ∧ (Lw D H H1 a0)) ∧ (Rs D H1 tp T (atm T 2 b) r))) := by
  refine enter (by decide) (Nat.le_of_ble_eq_true rfl) ?_
  intro p e s m args below meth c ls Q hA hQ C hr hO hpre hl
  have hx := C.1
  have hb := C.2.1
  have S : Sd D G [(2, 3), (2, 4), (2, 5), (2, 6), (2, 2), (22, 0), (21, 3)] s.heap s.heap [] := Sd.start hO
  have hl : lv_has ls 4 [(0, .ref a0), (1, .int x1)] := hl
  obtain ⟨hpre, hf⟩ := hpre
  obtain ⟨htp, ts0⟩ := hf
  have gtp : G tp = 2 := by rw [← htp]; exact hO.rol ga0 rfl (by decide) rfl
  have hT : T.2 ≤ 400 := ts0.le hO gtp
  have tk0 : Lw D s.heap s.heap a0 := Lw.refl
  refine lv_aload_n hx hb dX4_readAtom_0 rfl (lv_at hl 0 rfl) ?_
  refine q_grS (T := TX4) C S.1 ga0 0 kF_X4_39 dX4_readAtom_1 rfl rfl (by decide) rfl (by decide) kSF_X4_tape (fun g1 => ?_)
  rw [show fR D s.heap 4 a0 0 = tp from htp]
  refine q_lds C ks_X4_82 dX4_readAtom_4 (fun a2 ha2 wa2 => ?_)
  refine callV_Pi C S.1 S.2.1.2.1 (c_X9_isWord_f l D G tp a2 3 w_not T b gtp ha2 (Wc.of wa2 kw_not)) kV_X4_61 gtp (⟨trivial, ts0⟩) dX4_readAtom_6 hl.1 rfl rfl (by decide) cd_X9_isWord ⟨Nat.le_of_ble_eq_true rfl, Nat.le_of_ble_eq_true rfl, Nat.le_of_ble_eq_true rfl, Nat.le_of_ble_eq_true rfl, Nat.le_of_ble_eq_true rfl⟩ (fun v3 q3 => ?_)
  obtain ⟨q3, fq3⟩ := q3
  rcases fq3 with ⟨z3, y3⟩ | ⟨z3, y3⟩
  · skip
    refine lv_istore_n (lv' := [(2, .int v3), (0, .ref a0), (1, .int x1)]) hx hb dX4_readAtom_9 rfl hl (by decide) rfl (fun ls hl => ?_)
    refine lv_iload_n hx hb dX4_readAtom_10 rfl (lv_at hl 0 rfl) ?_
    have k_0 : (0 : Int32).toInt = 0 := by decide
    refine lv_if_ne (tgt := 26) hx hb dX4_readAtom_11 (by decide) (fun c4 => ?_) (fun c4 => ?_)
    · have b4 : ¬ v3.toInt = (0 : Int32).toInt := fun z9 => c4 (i_eq.mpr z9)
      refine lv_iload_n hx hb dX4_readAtom_26 rfl (lv_at hl 2 rfl) ?_
      refine lv_bipush (v := 6) hx hb dX4_readAtom_27 (by decide) ?_
      have k_6 : (6 : Int32).toInt = 6 := by decide
      refine lv_icmp_lt (tgt := 40) hx hb dX4_readAtom_29 (by decide) (fun c5 => ?_) (fun c5 => ?_)
      · have b5 : x1.toInt < (6 : Int32).toInt := i_lt.mp c5
        refine lv_aload_n hx hb dX4_readAtom_40 rfl (lv_at hl 1 rfl) ?_
        refine q_grS (T := TX4) C S.1 ga0 0 kF_X4_39 dX4_readAtom_41 rfl rfl (by decide) rfl (by decide) kSF_X4_tape (fun g6 => ?_)
        rw [show fR D s.heap 4 a0 0 = tp from htp]
        refine callV_Ev C S (c_X9_next_f l D G tp T b gtp) kV_X4_47 gtp (⟨trivial, ts0⟩) (by decide +kernel) dX4_readAtom_44 hl.1 rfl rfl (by decide) cd_X9_next ⟨Nat.le_of_ble_eq_true rfl, Nat.le_of_ble_eq_true rfl, Nat.le_of_ble_eq_true rfl, Nat.le_of_ble_eq_true rfl, Nat.le_of_ble_eq_true rfl⟩ (fun H7 L7 S7 K7 q7 => ?_)
        obtain ⟨q7, fq7⟩ := q7
        have tk7 : Lw D s.heap H7 a0 := tk0.trans (Lw.keep S.1 ga0 K7 (by decide +kernel) (by decide +kernel) (by decide +kernel))
        refine lv_iload_n hx hb dX4_readAtom_47 rfl (lv_at hl 0 rfl) ?_
        refine lv_if_ne (tgt := 79) hx hb dX4_readAtom_48 (by decide) (fun c8 => ?_) (fun c8 => ?_)
        · have b8 : ¬ v3.toInt = (0 : Int32).toInt := fun z9 => c8 (i_eq.mpr z9)
          refine lv_aload_n hx hb dX4_readAtom_79 rfl (lv_at hl 1 rfl) ?_
          refine lv_iload_n hx hb dX4_readAtom_80 rfl (lv_at hl 2 rfl) ?_
          refine lv_iconst (v := 1) hx hb dX4_readAtom_81 (by decide) ?_
          have k_1 : (1 : Int32).toInt = 1 := by decide
          refine lv_iadd hx hb dX4_readAtom_82 ?_
          refine lv_topi (fun v9 ev9 => ?_)
          have f10 : v9.toInt = x1.toInt + (1 : Int32).toInt := by rw [ev9]; exact i_add (by omega) (by omega)
          refine callV_Ei C S7 (c_X4_readAtom_d5 l D G a0 v9 tp T (nx T b) ga0 (by omega)) kV_X4_75 ga0 (⟨trivial, ⟨(S7.2.1.fR ga0 rfl (by decide) (by decide +kernel)).trans htp, fq7⟩⟩) (by decide +kernel) dX4_readAtom_83 hl.1 rfl rfl (by decide) cd_X4_readAtom ⟨Nat.le_of_ble_eq_true rfl, Nat.le_of_ble_eq_true rfl, Nat.le_of_ble_eq_true rfl, Nat.le_of_ble_eq_true rfl, Nat.le_of_ble_eq_true rfl⟩ (fun v11 H11 L11 S11 K11 q11 => ?_)
          obtain ⟨q11, fq11⟩ := q11
          obtain ⟨q11, tq11⟩ := q11
          have tk11 : Lw D s.heap H11 a0 := tk7.trans tq11
          rcases fq11 with ⟨c11, y11, z11, ts11⟩ | ⟨e11, y11, z11, wr11⟩
          · skip
            refine lv_if_ne (tgt := 91) hx hb dX4_readAtom_86 (by decide) (fun c12 => ?_) (fun c12 => ?_)
            · have b12 : ¬ v11.toInt = (0 : Int32).toInt := fun z9 => c12 (i_eq.mpr z9)
              refine lv_aload_n hx hb dX4_readAtom_91 rfl (lv_at hl 1 rfl) ?_
              refine lv_bipush (v := -13) hx hb dX4_readAtom_92 (by decide) ?_
              have k_m13 : (-13 : Int32).toInt = -13 := by decide
              refine callV_Ev C S11 (c_X4_put l D G a0 (-13 : Int32) ga0) kV_X4_55 ga0 (trivial) (by decide +kernel) dX4_readAtom_94 hl.1 rfl rfl (by decide) cd_X4_put ⟨Nat.le_of_ble_eq_true rfl, Nat.le_of_ble_eq_true rfl, Nat.le_of_ble_eq_true rfl, Nat.le_of_ble_eq_true rfl, Nat.le_of_ble_eq_true rfl⟩ (fun H13 L13 S13 K13 q13 => ?_)
              obtain ⟨qa13, qb13, tq13⟩ := q13
              have tk13 : Lw D s.heap H13 a0 := tk11.trans tq13
              have ts13 := ts11.keep S11.1 gtp K13 (by decide +kernel)
              refine lv_iconst (v := 1) hx hb dX4_readAtom_97 (by decide) ?_
              exact retE_z hQ C S13 hr dX4_readAtom_98 (z01 (by omega) (by omega)) (⟨⟨by omega, tk13⟩, Rs.ok (by rw [atm_s]; simp [clo, tlF, y3, y11]) (by omega) ts13⟩)
            · have b12 : v11.toInt = (0 : Int32).toInt := i_eq.mp c12
              exact absurd b12 (by omega)
          · skip
            refine lv_if_ne (tgt := 91) hx hb dX4_readAtom_86 (by decide) (fun c14 => ?_) (fun c14 => ?_)
            · have b14 : ¬ v11.toInt = (0 : Int32).toInt := fun z9 => c14 (i_eq.mpr z9)
              exact absurd b14 (by omega)
            · have b14 : v11.toInt = (0 : Int32).toInt := i_eq.mp c14
              refine lv_iconst (v := 0) hx hb dX4_readAtom_89 (by decide) ?_
              exact retE_z hQ C S11 hr dX4_readAtom_90 (z01 (by omega) (by omega)) (⟨⟨by omega, tk11⟩, Rs.no (by rw [atm_s]; simp [clo, tlF, y3, y11]) (by omega) wr11⟩)
        · have b8 : v3.toInt = (0 : Int32).toInt := i_eq.mp c8
          exact absurd b8 (by omega)
      · have b5 : ¬ x1.toInt < (6 : Int32).toInt := fun z9 => c5 (i_lt.mpr z9)
        exact absurd b5 (by omega)
    · have b4 : v3.toInt = (0 : Int32).toInt := i_eq.mp c4
      exact absurd b4 (by omega)
  · skip
    refine lv_istore_n (lv' := [(2, .int v3), (0, .ref a0), (1, .int x1)]) hx hb dX4_readAtom_9 rfl hl (by decide) rfl (fun ls hl => ?_)
    refine lv_iload_n hx hb dX4_readAtom_10 rfl (lv_at hl 0 rfl) ?_
    have k_0 : (0 : Int32).toInt = 0 := by decide
    refine lv_if_ne (tgt := 26) hx hb dX4_readAtom_11 (by decide) (fun c15 => ?_) (fun c15 => ?_)
    · have b15 : ¬ v3.toInt = (0 : Int32).toInt := fun z9 => c15 (i_eq.mpr z9)
      exact absurd b15 (by omega)
    · have b15 : v3.toInt = (0 : Int32).toInt := i_eq.mp c15
      refine lv_aload_n hx hb dX4_readAtom_14 rfl (lv_at hl 1 rfl) ?_
      refine q_grS (T := TX4) C S.1 ga0 0 kF_X4_39 dX4_readAtom_15 rfl rfl (by decide) rfl (by decide) kSF_X4_tape (fun g16 => ?_)
      rw [show fR D s.heap 4 a0 0 = tp from htp]
      refine lv_bipush (v := 40) hx hb dX4_readAtom_18 (by decide) ?_
      have k_40 : (40 : Int32).toInt = 40 := by decide
      refine callV_Pi C S.1 S.2.1.2.1 (c_X9_isSign_f l D G tp (40 : Int32) 40 T b gtp (by omega) (by decide)) kV_X4_84 gtp (⟨trivial, ts0⟩) dX4_readAtom_20 hl.1 rfl rfl (by decide) cd_X9_isSign ⟨Nat.le_of_ble_eq_true rfl, Nat.le_of_ble_eq_true rfl, Nat.le_of_ble_eq_true rfl, Nat.le_of_ble_eq_true rfl, Nat.le_of_ble_eq_true rfl⟩ (fun v17 q17 => ?_)
      obtain ⟨q17, fq17⟩ := q17
      rcases fq17 with ⟨z17, y17⟩ | ⟨z17, y17⟩
      · skip
        refine lv_if_eq (tgt := 99) hx hb dX4_readAtom_23 (by decide) (fun c18 => ?_) (fun c18 => ?_)
        · have b18 : v17.toInt = (0 : Int32).toInt := i_eq.mp c18
          exact absurd b18 (by omega)
        · have b18 : ¬ v17.toInt = (0 : Int32).toInt := fun z9 => c18 (i_eq.mpr z9)
          refine lv_iload_n hx hb dX4_readAtom_26 rfl (lv_at hl 2 rfl) ?_
          refine lv_bipush (v := 6) hx hb dX4_readAtom_27 (by decide) ?_
          have k_6 : (6 : Int32).toInt = 6 := by decide
          refine lv_icmp_lt (tgt := 40) hx hb dX4_readAtom_29 (by decide) (fun c19 => ?_) (fun c19 => ?_)
          · have b19 : x1.toInt < (6 : Int32).toInt := i_lt.mp c19
            refine lv_aload_n hx hb dX4_readAtom_40 rfl (lv_at hl 1 rfl) ?_
            refine q_grS (T := TX4) C S.1 ga0 0 kF_X4_39 dX4_readAtom_41 rfl rfl (by decide) rfl (by decide) kSF_X4_tape (fun g20 => ?_)
            rw [show fR D s.heap 4 a0 0 = tp from htp]
            refine callV_Ev C S (c_X9_next_f l D G tp T b gtp) kV_X4_47 gtp (⟨trivial, ts0⟩) (by decide +kernel) dX4_readAtom_44 hl.1 rfl rfl (by decide) cd_X9_next ⟨Nat.le_of_ble_eq_true rfl, Nat.le_of_ble_eq_true rfl, Nat.le_of_ble_eq_true rfl, Nat.le_of_ble_eq_true rfl, Nat.le_of_ble_eq_true rfl⟩ (fun H21 L21 S21 K21 q21 => ?_)
            obtain ⟨q21, fq21⟩ := q21
            have tk21 : Lw D s.heap H21 a0 := tk0.trans (Lw.keep S.1 ga0 K21 (by decide +kernel) (by decide +kernel) (by decide +kernel))
            refine lv_iload_n hx hb dX4_readAtom_47 rfl (lv_at hl 0 rfl) ?_
            refine lv_if_ne (tgt := 79) hx hb dX4_readAtom_48 (by decide) (fun c22 => ?_) (fun c22 => ?_)
            · have b22 : ¬ v3.toInt = (0 : Int32).toInt := fun z9 => c22 (i_eq.mpr z9)
              exact absurd b22 (by omega)
            · have b22 : v3.toInt = (0 : Int32).toInt := i_eq.mp c22
              refine lv_aload_n hx hb dX4_readAtom_51 rfl (lv_at hl 1 rfl) ?_
              refine lv_iload_n hx hb dX4_readAtom_52 rfl (lv_at hl 2 rfl) ?_
              refine lv_iconst (v := 1) hx hb dX4_readAtom_53 (by decide) ?_
              have k_1 : (1 : Int32).toInt = 1 := by decide
              refine lv_iadd hx hb dX4_readAtom_54 ?_
              refine lv_topi (fun v23 ev23 => ?_)
              have f24 : v23.toInt = x1.toInt + (1 : Int32).toInt := by rw [ev23]; exact i_add (by omega) (by omega)
              refine callV_Ei C S21 (c_X4_readCondition_d5 l D G a0 v23 tp T (nx T b) ga0 (by omega)) kV_X4_65 ga0 (⟨trivial, ⟨(S21.2.1.fR ga0 rfl (by decide) (by decide +kernel)).trans htp, fq21⟩⟩) (by decide +kernel) dX4_readAtom_55 hl.1 rfl rfl (by decide) cd_X4_readCondition ⟨Nat.le_of_ble_eq_true rfl, Nat.le_of_ble_eq_true rfl, Nat.le_of_ble_eq_true rfl, Nat.le_of_ble_eq_true rfl, Nat.le_of_ble_eq_true rfl⟩ (fun v25 H25 L25 S25 K25 q25 => ?_)
              obtain ⟨q25, fq25⟩ := q25
              obtain ⟨q25, tq25⟩ := q25
              have tk25 : Lw D s.heap H25 a0 := tk21.trans tq25
              rcases fq25 with ⟨c25, y25, z25, ts25⟩ | ⟨e25, y25, z25, wr25⟩
              · skip
                refine lv_if_eq (tgt := 77) hx hb dX4_readAtom_58 (by decide) (fun c26 => ?_) (fun c26 => ?_)
                · have b26 : v25.toInt = (0 : Int32).toInt := i_eq.mp c26
                  exact absurd b26 (by omega)
                · have b26 : ¬ v25.toInt = (0 : Int32).toInt := fun z9 => c26 (i_eq.mpr z9)
                  refine lv_aload_n hx hb dX4_readAtom_61 rfl (lv_at hl 1 rfl) ?_
                  refine q_grS (T := TX4) C S25.1 ga0 0 kF_X4_39 dX4_readAtom_62 rfl rfl (by decide) rfl (by decide) kSF_X4_tape (fun g27 => ?_)
                  rw [show fR D H25 4 a0 0 = tp from (S25.2.1.fR ga0 rfl (by decide) (by decide +kernel)).trans htp]
                  refine lv_bipush (v := 41) hx hb dX4_readAtom_65 (by decide) ?_
                  have k_41 : (41 : Int32).toInt = 41 := by decide
                  refine callV_Ei C S25 (c_X9_takeSign_f l D G tp (41 : Int32) 41 T c25 gtp (by omega) (by decide)) kV_X4_88 gtp (⟨trivial, ts25⟩) (by decide +kernel) dX4_readAtom_67 hl.1 rfl rfl (by decide) cd_X9_takeSign ⟨Nat.le_of_ble_eq_true rfl, Nat.le_of_ble_eq_true rfl, Nat.le_of_ble_eq_true rfl, Nat.le_of_ble_eq_true rfl, Nat.le_of_ble_eq_true rfl⟩ (fun v28 H28 L28 S28 K28 q28 => ?_)
                  obtain ⟨q28, fq28⟩ := q28
                  have tk28 : Lw D s.heap H28 a0 := tk25.trans (Lw.keep S25.1 ga0 K28 (by decide +kernel) (by decide +kernel) (by decide +kernel))
                  rcases fq28 with ⟨c28, y28, z28, ts28⟩ | ⟨e28, y28, z28, wr28⟩
                  · skip
                    refine lv_if_eq (tgt := 77) hx hb dX4_readAtom_70 (by decide) (fun c29 => ?_) (fun c29 => ?_)
                    · have b29 : v28.toInt = (0 : Int32).toInt := i_eq.mp c29
                      exact absurd b29 (by omega)
                    · have b29 : ¬ v28.toInt = (0 : Int32).toInt := fun z9 => c29 (i_eq.mpr z9)
                      refine lv_iconst (v := 1) hx hb dX4_readAtom_73 (by decide) ?_
                      refine lv_goto (tgt := 78) hx hb dX4_readAtom_74 (by decide) ?_
                      exact retE_z hQ C S28 hr dX4_readAtom_78 (z01 (by omega) (by omega)) (⟨⟨by omega, tk28⟩, Rs.ok (by rw [atm_s]; simp [clo, tlF, y3, y17, y25, y28]) (by omega) ts28⟩)
                  · skip
                    refine lv_if_eq (tgt := 77) hx hb dX4_readAtom_70 (by decide) (fun c30 => ?_) (fun c30 => ?_)
                    · have b30 : v28.toInt = (0 : Int32).toInt := i_eq.mp c30
                      refine lv_iconst (v := 0) hx hb dX4_readAtom_77 (by decide) ?_
                      exact retE_z hQ C S28 hr dX4_readAtom_78 (z01 (by omega) (by omega)) (⟨⟨by omega, tk28⟩, Rs.no (by rw [atm_s]; simp [clo, tlF, y3, y17, y25, y28]) (by omega) wr28⟩)
                    · have b30 : ¬ v28.toInt = (0 : Int32).toInt := fun z9 => c30 (i_eq.mpr z9)
                      exact absurd b30 (by omega)
              · skip
                refine lv_if_eq (tgt := 77) hx hb dX4_readAtom_58 (by decide) (fun c31 => ?_) (fun c31 => ?_)
                · have b31 : v25.toInt = (0 : Int32).toInt := i_eq.mp c31
                  refine lv_iconst (v := 0) hx hb dX4_readAtom_77 (by decide) ?_
                  exact retE_z hQ C S25 hr dX4_readAtom_78 (z01 (by omega) (by omega)) (⟨⟨by omega, tk25⟩, Rs.no (by rw [atm_s]; simp [clo, tlF, y3, y17, y25]) (by omega) wr25⟩)
                · have b31 : ¬ v25.toInt = (0 : Int32).toInt := fun z9 => c31 (i_eq.mpr z9)
                  exact absurd b31 (by omega)
          · have b19 : ¬ x1.toInt < (6 : Int32).toInt := fun z9 => c19 (i_lt.mpr z9)
            exact absurd b19 (by omega)
      · skip
        refine lv_if_eq (tgt := 99) hx hb dX4_readAtom_23 (by decide) (fun c32 => ?_) (fun c32 => ?_)
        · have b32 : v17.toInt = (0 : Int32).toInt := i_eq.mp c32
          refine lv_aload_n hx hb dX4_readAtom_99 rfl (lv_at hl 1 rfl) ?_
          refine callV_Pi C S.1 S.2.1.2.1 (c_X4_presentTruth l D G a0 tp T b ga0) kV_X4_91 ga0 (⟨trivial, ⟨htp, ts0⟩⟩) dX4_readAtom_100 hl.1 rfl rfl (by decide) cd_X4_presentTruth ⟨Nat.le_of_ble_eq_true rfl, Nat.le_of_ble_eq_true rfl, Nat.le_of_ble_eq_true rfl, Nat.le_of_ble_eq_true rfl, Nat.le_of_ble_eq_true rfl⟩ (fun v33 q33 => ?_)
          obtain ⟨q33, fq33⟩ := q33
          refine lv_istore_n (lv' := [(3, .int v33), (2, .int v3), (0, .ref a0), (1, .int x1)]) hx hb dX4_readAtom_103 rfl hl (by decide) rfl (fun ls hl => ?_)
          refine lv_iload_n hx hb dX4_readAtom_104 rfl (lv_at hl 0 rfl) ?_
          refine lv_iconst (v := -1) hx hb dX4_readAtom_105 (by decide) ?_
          have k_m1 : (-1 : Int32).toInt = -1 := by decide
          refine lv_icmp_ne (tgt := 114) hx hb dX4_readAtom_106 (by decide) (fun c34 => ?_) (fun c34 => ?_)
          · have b34 : ¬ v33.toInt = (-1 : Int32).toInt := fun z9 => c34 (i_eq.mpr z9)
            have yt35 : ¬ tru T b = -1 := by omega
            refine lv_aload_n hx hb dX4_readAtom_114 rfl (lv_at hl 2 rfl) ?_
            refine lv_iload_n hx hb dX4_readAtom_115 rfl (lv_at hl 0 rfl) ?_
            refine callV_Ev C S (c_X4_put l D G a0 v33 ga0) kV_X4_55 ga0 (trivial) (by decide +kernel) dX4_readAtom_116 hl.1 rfl rfl (by decide) cd_X4_put ⟨Nat.le_of_ble_eq_true rfl, Nat.le_of_ble_eq_true rfl, Nat.le_of_ble_eq_true rfl, Nat.le_of_ble_eq_true rfl, Nat.le_of_ble_eq_true rfl⟩ (fun H36 L36 S36 K36 q36 => ?_)
            obtain ⟨qa36, qb36, tq36⟩ := q36
            have tk36 : Lw D s.heap H36 a0 := tk0.trans tq36
            have ts36 := ts0.keep S.1 gtp K36 (by decide +kernel)
            refine lv_aload_n hx hb dX4_readAtom_119 rfl (lv_at hl 2 rfl) ?_
            refine q_grS (T := TX4) C S36.1 ga0 0 kF_X4_39 dX4_readAtom_120 rfl rfl (by decide) rfl (by decide) kSF_X4_tape (fun g37 => ?_)
            rw [show fR D H36 4 a0 0 = tp from (S36.2.1.fR ga0 rfl (by decide) (by decide +kernel)).trans htp]
            refine callV_Ev C S36 (c_X9_next_f l D G tp T b gtp) kV_X4_47 gtp (⟨trivial, ts36⟩) (by decide +kernel) dX4_readAtom_123 hl.1 rfl rfl (by decide) cd_X9_next ⟨Nat.le_of_ble_eq_true rfl, Nat.le_of_ble_eq_true rfl, Nat.le_of_ble_eq_true rfl, Nat.le_of_ble_eq_true rfl, Nat.le_of_ble_eq_true rfl⟩ (fun H38 L38 S38 K38 q38 => ?_)
            obtain ⟨q38, fq38⟩ := q38
            have tk38 : Lw D s.heap H38 a0 := tk36.trans (Lw.keep S36.1 ga0 K38 (by decide +kernel) (by decide +kernel) (by decide +kernel))
            refine lv_iconst (v := 1) hx hb dX4_readAtom_126 (by decide) ?_
            have k_1 : (1 : Int32).toInt = 1 := by decide
            exact retE_z hQ C S38 hr dX4_readAtom_127 (z01 (by omega) (by omega)) (⟨⟨by omega, tk38⟩, Rs.ok (by rw [atm_s]; simp [clo, tlF, y3, y17, yt35]) (by omega) fq38⟩)
          · have b34 : v33.toInt = (-1 : Int32).toInt := i_eq.mp c34
            have yt39 : tru T b = -1 := by omega
            refine lv_aload_n hx hb dX4_readAtom_109 rfl (lv_at hl 2 rfl) ?_
            refine callV_Ei C S (c_X4_readComparison l D G a0 tp T b ga0) kV_X4_94 ga0 (⟨trivial, ⟨htp, ts0⟩⟩) (by decide +kernel) dX4_readAtom_110 hl.1 rfl rfl (by decide) cd_X4_readComparison ⟨Nat.le_of_ble_eq_true rfl, Nat.le_of_ble_eq_true rfl, Nat.le_of_ble_eq_true rfl, Nat.le_of_ble_eq_true rfl, Nat.le_of_ble_eq_true rfl⟩ (fun v40 H40 L40 S40 K40 q40 => ?_)
            obtain ⟨q40, fq40⟩ := q40
            obtain ⟨q40, tq40⟩ := q40
            have tk40 : Lw D s.heap H40 a0 := tk0.trans tq40
            rcases fq40 with ⟨c40, y40, z40, ts40⟩ | ⟨e40, y40, z40, wr40⟩
            · skip
              exact retE_z hQ C S40 hr dX4_readAtom_113 (z01 (by omega) (by omega)) (⟨⟨by omega, tk40⟩, Rs.ok (by rw [atm_s]; simp [clo, tlF, y3, y17, yt39, y40]) (by omega) ts40⟩)
            · skip
              exact retE_z hQ C S40 hr dX4_readAtom_113 (z01 (by omega) (by omega)) (⟨⟨by omega, tk40⟩, Rs.no (by rw [atm_s]; simp [clo, tlF, y3, y17, yt39, y40]) (by omega) wr40⟩)
        · have b32 : ¬ v17.toInt = (0 : Int32).toInt := fun z9 => c32 (i_eq.mpr z9)
          exact absurd b32 (by omega)

set_option maxRecDepth 100000 in
set_option maxHeartbeats 4000000 in
theorem c_X4_readCondition_d4 (l : Launch) (D : DD) (G : Nat → Nat) (a0 : Nat) (x1 : Int32) (tp : Nat) (T : Tx) (b : Nat) (ga0 : G a0 = 21) (ix1 : 4 ≤ x1.toInt ∧ x1.toInt ≤ 4) : CE l D G yX4_readCondition cX4_readCondition 5 (some .boolean) 12 [.ref a0, .int x1] (fun H => (True) ∧ (fR D H 4 a0 0 = tp ∧ TS D H tp T b)) [(2, 3), (2, 4), (2, 5), (2, 6), (2, 2), (22, 0), (21, 3)] (xI (fun H r H1 => ((0 ≤ r.toInt ∧ r.toInt ≤ 1) ∧ (Lw D H H1 a0)) ∧ (Rs D H1 tp T (conF T (atm T 2) b) r))) := by
  refine enter (by decide) (Nat.le_of_ble_eq_true rfl) ?_
  intro p e s m args below meth c ls Q hA hQ C hr hO hpre hl
  have hx := C.1
  have hb := C.2.1
  have S : Sd D G [(2, 3), (2, 4), (2, 5), (2, 6), (2, 2), (22, 0), (21, 3)] s.heap s.heap [] := Sd.start hO
  have hl : lv_has ls 5 [(0, .ref a0), (1, .int x1)] := hl
  obtain ⟨hpre, hf⟩ := hpre
  obtain ⟨htp, ts0⟩ := hf
  have gtp : G tp = 2 := by rw [← htp]; exact hO.rol ga0 rfl (by decide) rfl
  have hT : T.2 ≤ 400 := ts0.le hO gtp
  have tk0 : Lw D s.heap s.heap a0 := Lw.refl
  refine lv_iconst (v := 0) hx hb dX4_readCondition_0 (by decide) ?_
  refine lv_istore_n (lv' := [(2, .int (0 : Int32)), (0, .ref a0), (1, .int x1)]) hx hb dX4_readCondition_1 rfl hl (by decide) rfl (fun ls hl => ?_)
  refine lv_iconst (v := 0) hx hb dX4_readCondition_2 (by decide) ?_
  refine lv_istore_n (lv' := [(3, .int (0 : Int32)), (2, .int (0 : Int32)), (0, .ref a0), (1, .int x1)]) hx hb dX4_readCondition_3 rfl hl (by decide) rfl (fun ls hl => ?_)
  refine lv_iconst (v := 0) hx hb dX4_readCondition_4 (by decide) ?_
  refine lv_istore (lv' := [(4, .int (0 : Int32)), (3, .int (0 : Int32)), (2, .int (0 : Int32)), (0, .ref a0), (1, .int x1)]) hx hb dX4_readCondition_5 hl (by decide) rfl (fun ls hl => ?_)
  have Lp7 : ∀ (n : Nat) (x4_7 : Int32) (x3_7 : Int32) (x2_7 : Int32) (b_7 : Nat) (H_7 : Heap) (L_7 : List Loc) (ls : Array Slot), (Sd D G [(2, 3), (2, 4), (2, 5), (2, 6), (2, 2), (22, 0), (21, 3)] s.heap H_7 L_7) → (0 ≤ x4_7.toInt ∧ x4_7.toInt ≤ 400) → (0 ≤ x3_7.toInt ∧ x3_7.toInt ≤ 1) → (0 ≤ x2_7.toInt ∧ x2_7.toInt ≤ 1) → (TS D H_7 tp T b_7) → (conF T (atm T 2) b = conR T (atm T 2) (400 - x4_7.toInt.toNat) b_7) → (Lw D s.heap H_7 a0) → 401 - x4_7.toInt ≤ (n : Int) → lv_has ls 5 [(4, .int x4_7), (3, .int x3_7), (2, .int x2_7), (0, .ref a0), (1, .int x1)] → W p l e (rmU 12 0 0) s m args below meth c H_7 L_7 0 0 Q (F0 m 7 ls []) := by
    intro n
    induction n with
    | zero =>
      intro x4_7 x3_7 x2_7 b_7 H_7 L_7 ls S_7 j7_0 j7_1 j7_2 u7_0 u7_1 u7_2 hn hl
      exact absurd hn (by omega)
    | succ n ih7 =>
      intro x4_7 x3_7 x2_7 b_7 H_7 L_7 ls S_7 j7_0 j7_1 j7_2 u7_0 u7_1 u7_2 hn hl
      refine lv_iload hx hb dX4_readCondition_7 (lv_at hl 0 rfl) ?_
      refine lv_sipush (v := 400) hx hb dX4_readCondition_9 (by decide) ?_
      have k_400 : (400 : Int32).toInt = 400 := by decide
      refine lv_icmp_ge (tgt := 88) hx hb dX4_readCondition_12 (by decide) (fun c1 => ?_) (fun c1 => ?_)
      · have b1 : (400 : Int32).toInt ≤ x4_7.toInt := i_le.mp c1
        refine lv_aload_n hx hb dX4_readCondition_88 rfl (lv_at hl 3 rfl) ?_
        refine q_grS (T := TX4) C S_7.1 ga0 0 kF_X4_39 dX4_readCondition_89 rfl rfl (by decide) rfl (by decide) kSF_X4_tape (fun g2 => ?_)
        rw [show fR D H_7 4 a0 0 = tp from (S_7.2.1.fR ga0 rfl (by decide) (by decide +kernel)).trans htp]
        refine callV_Ei C S_7 (c_X9_refuse_f l D G tp T b_7 gtp) kV_X4_43 gtp (⟨trivial, u7_0⟩) (by decide +kernel) dX4_readCondition_92 hl.1 rfl rfl (by decide) cd_X9_refuse ⟨Nat.le_of_ble_eq_true rfl, Nat.le_of_ble_eq_true rfl, Nat.le_of_ble_eq_true rfl, Nat.le_of_ble_eq_true rfl, Nat.le_of_ble_eq_true rfl⟩ (fun v3 H3 L3 S3 K3 q3 => ?_)
        obtain ⟨q3, fq3⟩ := q3
        have tk3 : Lw D s.heap H3 a0 := u7_2.trans (Lw.keep S_7.1 ga0 K3 (by decide +kernel) (by decide +kernel) (by decide +kernel))
        have z3 := fq3.1
        exact retE_z hQ C S3 hr dX4_readCondition_95 (z01 (by omega) (by omega)) (⟨⟨by omega, tk3⟩, Rs.no (by rw [u7_1, show 400 - x4_7.toInt.toNat = 0 by omega]; rfl) (by omega) fq3.2⟩)
      · have b1 : ¬ (400 : Int32).toInt ≤ x4_7.toInt := fun z9 => c1 (i_le.mpr z9)
        refine lv_aload_n hx hb dX4_readCondition_15 rfl (lv_at hl 3 rfl) ?_
        refine lv_iload_n hx hb dX4_readCondition_16 rfl (lv_at hl 4 rfl) ?_
        refine callV_Ei C S_7 (c_X4_readAtom_d4 l D G a0 x1 tp T b_7 ga0 (by omega)) kV_X4_75 ga0 (⟨trivial, ⟨(S_7.2.1.fR ga0 rfl (by decide) (by decide +kernel)).trans htp, u7_0⟩⟩) (by decide +kernel) dX4_readCondition_17 hl.1 rfl rfl (by decide) cd_X4_readAtom ⟨Nat.le_of_ble_eq_true rfl, Nat.le_of_ble_eq_true rfl, Nat.le_of_ble_eq_true rfl, Nat.le_of_ble_eq_true rfl, Nat.le_of_ble_eq_true rfl⟩ (fun v4 H4 L4 S4 K4 q4 => ?_)
        obtain ⟨q4, fq4⟩ := q4
        obtain ⟨q4, tq4⟩ := q4
        have tk4 : Lw D s.heap H4 a0 := u7_2.trans tq4
        rcases fq4 with ⟨c4, y4, z4, ts4⟩ | ⟨e4, y4, z4, wr4⟩
        · skip
          have k_0 : (0 : Int32).toInt = 0 := by decide
          refine lv_if_ne (tgt := 25) hx hb dX4_readCondition_20 (by decide) (fun c5 => ?_) (fun c5 => ?_)
          · have b5 : ¬ v4.toInt = (0 : Int32).toInt := fun z9 => c5 (i_eq.mpr z9)
            refine lv_iload_n hx hb dX4_readCondition_25 rfl (lv_at hl 1 rfl) ?_
            refine lv_if_eq (tgt := 35) hx hb dX4_readCondition_26 (by decide) (fun c6 => ?_) (fun c6 => ?_)
            · have b6 : x3_7.toInt = (0 : Int32).toInt := i_eq.mp c6
              refine lv_aload_n hx hb dX4_readCondition_35 rfl (lv_at hl 3 rfl) ?_
              refine q_grS (T := TX4) C S4.1 ga0 0 kF_X4_39 dX4_readCondition_36 rfl rfl (by decide) rfl (by decide) kSF_X4_tape (fun g7 => ?_)
              rw [show fR D H4 4 a0 0 = tp from (S4.2.1.fR ga0 rfl (by decide) (by decide +kernel)).trans htp]
              refine q_lds C ks_X4_78 dX4_readCondition_39 (fun a8 ha8 wa8 => ?_)
              refine callV_Pi C S4.1 S4.2.1.2.1 (c_X9_isWord_f l D G tp a8 3 w_and T c4 gtp ha8 (Wc.of wa8 kw_and)) kV_X4_61 gtp (⟨trivial, ts4⟩) dX4_readCondition_41 hl.1 rfl rfl (by decide) cd_X9_isWord ⟨Nat.le_of_ble_eq_true rfl, Nat.le_of_ble_eq_true rfl, Nat.le_of_ble_eq_true rfl, Nat.le_of_ble_eq_true rfl, Nat.le_of_ble_eq_true rfl⟩ (fun v9 q9 => ?_)
              obtain ⟨q9, fq9⟩ := q9
              rcases fq9 with ⟨z9, y9⟩ | ⟨z9, y9⟩
              · skip
                refine lv_istore_n (lv' := [(3, .int v9), (4, .int x4_7), (2, .int x2_7), (0, .ref a0), (1, .int x1)]) hx hb dX4_readCondition_44 rfl hl (by decide) rfl (fun ls hl => ?_)
                refine lv_iload_n hx hb dX4_readCondition_45 rfl (lv_at hl 0 rfl) ?_
                refine lv_if_ne (tgt := 75) hx hb dX4_readCondition_46 (by decide) (fun c10 => ?_) (fun c10 => ?_)
                · have b10 : ¬ v9.toInt = (0 : Int32).toInt := fun z9 => c10 (i_eq.mpr z9)
                  refine lv_aload_n hx hb dX4_readCondition_75 rfl (lv_at hl 3 rfl) ?_
                  refine q_grS (T := TX4) C S4.1 ga0 0 kF_X4_39 dX4_readCondition_76 rfl rfl (by decide) rfl (by decide) kSF_X4_tape (fun g11 => ?_)
                  rw [show fR D H4 4 a0 0 = tp from (S4.2.1.fR ga0 rfl (by decide) (by decide +kernel)).trans htp]
                  refine callV_Ev C S4 (c_X9_next_f l D G tp T c4 gtp) kV_X4_47 gtp (⟨trivial, ts4⟩) (by decide +kernel) dX4_readCondition_79 hl.1 rfl rfl (by decide) cd_X9_next ⟨Nat.le_of_ble_eq_true rfl, Nat.le_of_ble_eq_true rfl, Nat.le_of_ble_eq_true rfl, Nat.le_of_ble_eq_true rfl, Nat.le_of_ble_eq_true rfl⟩ (fun H12 L12 S12 K12 q12 => ?_)
                  obtain ⟨q12, fq12⟩ := q12
                  have tk12 : Lw D s.heap H12 a0 := tk4.trans (Lw.keep S4.1 ga0 K12 (by decide +kernel) (by decide +kernel) (by decide +kernel))
                  obtain ⟨v13, ev13⟩ : ∃ y : Int32, y = x4_7 + (1) := ⟨_, rfl⟩
                  have k_1 : (1 : Int32).toInt = 1 := by decide
                  have f14 : v13.toInt = x4_7.toInt + (1) := by rw [ev13]; exact i_addc k_1 (by omega) (by omega)
                  refine lv_iinc (v := v13) (lv' := [(4, .int v13), (3, .int v9), (2, .int x2_7), (0, .ref a0), (1, .int x1)]) hx hb dX4_readCondition_82 hl (k := 1) rfl (by rw [ev13]; rfl) (by decide) rfl (fun ls hl => ?_)
                  refine lv_goto (tgt := 7) hx hb dX4_readCondition_85 (by decide) ?_
                  exact ih7 v13 v9 x2_7 (nx T c4) H12 L12 ls S12 (by omega) (by omega) (by omega) fq12 (by rw [u7_1]; exact conR_st (by omega) y4 (by simp [y4, y9])) tk12 (by omega) (lv_sub hl [0, 1, 2, 3, 4] rfl)
                · have b10 : v9.toInt = (0 : Int32).toInt := i_eq.mp c10
                  exact absurd b10 (by omega)
              · skip
                refine lv_istore_n (lv' := [(3, .int v9), (4, .int x4_7), (2, .int x2_7), (0, .ref a0), (1, .int x1)]) hx hb dX4_readCondition_44 rfl hl (by decide) rfl (fun ls hl => ?_)
                refine lv_iload_n hx hb dX4_readCondition_45 rfl (lv_at hl 0 rfl) ?_
                refine lv_if_ne (tgt := 75) hx hb dX4_readCondition_46 (by decide) (fun c15 => ?_) (fun c15 => ?_)
                · have b15 : ¬ v9.toInt = (0 : Int32).toInt := fun z9 => c15 (i_eq.mpr z9)
                  exact absurd b15 (by omega)
                · have b15 : v9.toInt = (0 : Int32).toInt := i_eq.mp c15
                  refine lv_iload_n hx hb dX4_readCondition_49 rfl (lv_at hl 2 rfl) ?_
                  refine lv_if_eq (tgt := 59) hx hb dX4_readCondition_50 (by decide) (fun c16 => ?_) (fun c16 => ?_)
                  · have b16 : x2_7.toInt = (0 : Int32).toInt := i_eq.mp c16
                    refine lv_aload_n hx hb dX4_readCondition_59 rfl (lv_at hl 3 rfl) ?_
                    refine q_grS (T := TX4) C S4.1 ga0 0 kF_X4_39 dX4_readCondition_60 rfl rfl (by decide) rfl (by decide) kSF_X4_tape (fun g17 => ?_)
                    rw [show fR D H4 4 a0 0 = tp from (S4.2.1.fR ga0 rfl (by decide) (by decide +kernel)).trans htp]
                    refine q_lds C ks_X4_80 dX4_readCondition_63 (fun a18 ha18 wa18 => ?_)
                    refine callV_Pi C S4.1 S4.2.1.2.1 (c_X9_isWord_f l D G tp a18 2 w_or T c4 gtp ha18 (Wc.of wa18 kw_or)) kV_X4_61 gtp (⟨trivial, ts4⟩) dX4_readCondition_65 hl.1 rfl rfl (by decide) cd_X9_isWord ⟨Nat.le_of_ble_eq_true rfl, Nat.le_of_ble_eq_true rfl, Nat.le_of_ble_eq_true rfl, Nat.le_of_ble_eq_true rfl, Nat.le_of_ble_eq_true rfl⟩ (fun v19 q19 => ?_)
                    obtain ⟨q19, fq19⟩ := q19
                    rcases fq19 with ⟨z19, y19⟩ | ⟨z19, y19⟩
                    · skip
                      refine lv_istore_n (lv' := [(2, .int v19), (3, .int v9), (4, .int x4_7), (0, .ref a0), (1, .int x1)]) hx hb dX4_readCondition_68 rfl hl (by decide) rfl (fun ls hl => ?_)
                      refine lv_iload_n hx hb dX4_readCondition_69 rfl (lv_at hl 0 rfl) ?_
                      refine lv_if_ne (tgt := 75) hx hb dX4_readCondition_70 (by decide) (fun c20 => ?_) (fun c20 => ?_)
                      · have b20 : ¬ v19.toInt = (0 : Int32).toInt := fun z9 => c20 (i_eq.mpr z9)
                        refine lv_aload_n hx hb dX4_readCondition_75 rfl (lv_at hl 3 rfl) ?_
                        refine q_grS (T := TX4) C S4.1 ga0 0 kF_X4_39 dX4_readCondition_76 rfl rfl (by decide) rfl (by decide) kSF_X4_tape (fun g21 => ?_)
                        rw [show fR D H4 4 a0 0 = tp from (S4.2.1.fR ga0 rfl (by decide) (by decide +kernel)).trans htp]
                        refine callV_Ev C S4 (c_X9_next_f l D G tp T c4 gtp) kV_X4_47 gtp (⟨trivial, ts4⟩) (by decide +kernel) dX4_readCondition_79 hl.1 rfl rfl (by decide) cd_X9_next ⟨Nat.le_of_ble_eq_true rfl, Nat.le_of_ble_eq_true rfl, Nat.le_of_ble_eq_true rfl, Nat.le_of_ble_eq_true rfl, Nat.le_of_ble_eq_true rfl⟩ (fun H22 L22 S22 K22 q22 => ?_)
                        obtain ⟨q22, fq22⟩ := q22
                        have tk22 : Lw D s.heap H22 a0 := tk4.trans (Lw.keep S4.1 ga0 K22 (by decide +kernel) (by decide +kernel) (by decide +kernel))
                        obtain ⟨v23, ev23⟩ : ∃ y : Int32, y = x4_7 + (1) := ⟨_, rfl⟩
                        have k_1 : (1 : Int32).toInt = 1 := by decide
                        have f24 : v23.toInt = x4_7.toInt + (1) := by rw [ev23]; exact i_addc k_1 (by omega) (by omega)
                        refine lv_iinc (v := v23) (lv' := [(4, .int v23), (2, .int v19), (3, .int v9), (0, .ref a0), (1, .int x1)]) hx hb dX4_readCondition_82 hl (k := 2) rfl (by rw [ev23]; rfl) (by decide) rfl (fun ls hl => ?_)
                        refine lv_goto (tgt := 7) hx hb dX4_readCondition_85 (by decide) ?_
                        exact ih7 v23 v9 v19 (nx T c4) H22 L22 ls S22 (by omega) (by omega) (by omega) fq22 (by rw [u7_1]; exact conR_st (by omega) y4 (by simp [y4, y9, y19])) tk22 (by omega) (lv_sub hl [0, 2, 1, 3, 4] rfl)
                      · have b20 : v19.toInt = (0 : Int32).toInt := i_eq.mp c20
                        exact absurd b20 (by omega)
                    · skip
                      refine lv_istore_n (lv' := [(2, .int v19), (3, .int v9), (4, .int x4_7), (0, .ref a0), (1, .int x1)]) hx hb dX4_readCondition_68 rfl hl (by decide) rfl (fun ls hl => ?_)
                      refine lv_iload_n hx hb dX4_readCondition_69 rfl (lv_at hl 0 rfl) ?_
                      refine lv_if_ne (tgt := 75) hx hb dX4_readCondition_70 (by decide) (fun c25 => ?_) (fun c25 => ?_)
                      · have b25 : ¬ v19.toInt = (0 : Int32).toInt := fun z9 => c25 (i_eq.mpr z9)
                        exact absurd b25 (by omega)
                      · have b25 : v19.toInt = (0 : Int32).toInt := i_eq.mp c25
                        refine lv_iconst (v := 1) hx hb dX4_readCondition_73 (by decide) ?_
                        have k_1 : (1 : Int32).toInt = 1 := by decide
                        exact retE_z hQ C S4 hr dX4_readCondition_74 (z01 (by omega) (by omega)) (⟨⟨by omega, tk4⟩, Rs.ok (by rw [u7_1]; exact conR_ok (by omega) y4 (by simp [y4, y9, y19]) (by simp [y4, y9, y19])) (by omega) ts4⟩)
                  · have b16 : ¬ x2_7.toInt = (0 : Int32).toInt := fun z9 => c16 (i_eq.mpr z9)
                    refine lv_aload_n hx hb dX4_readCondition_53 rfl (lv_at hl 3 rfl) ?_
                    refine lv_bipush (v := -18) hx hb dX4_readCondition_54 (by decide) ?_
                    have k_m18 : (-18 : Int32).toInt = -18 := by decide
                    refine callV_Ev C S4 (c_X4_put l D G a0 (-18 : Int32) ga0) kV_X4_55 ga0 (trivial) (by decide +kernel) dX4_readCondition_56 hl.1 rfl rfl (by decide) cd_X4_put ⟨Nat.le_of_ble_eq_true rfl, Nat.le_of_ble_eq_true rfl, Nat.le_of_ble_eq_true rfl, Nat.le_of_ble_eq_true rfl, Nat.le_of_ble_eq_true rfl⟩ (fun H26 L26 S26 K26 q26 => ?_)
                    obtain ⟨qa26, qb26, tq26⟩ := q26
                    have tk26 : Lw D s.heap H26 a0 := tk4.trans tq26
                    have ts26 := ts4.keep S4.1 gtp K26 (by decide +kernel)
                    refine lv_aload_n hx hb dX4_readCondition_59 rfl (lv_at hl 3 rfl) ?_
                    refine q_grS (T := TX4) C S26.1 ga0 0 kF_X4_39 dX4_readCondition_60 rfl rfl (by decide) rfl (by decide) kSF_X4_tape (fun g27 => ?_)
                    rw [show fR D H26 4 a0 0 = tp from (S26.2.1.fR ga0 rfl (by decide) (by decide +kernel)).trans htp]
                    refine q_lds C ks_X4_80 dX4_readCondition_63 (fun a28 ha28 wa28 => ?_)
                    refine callV_Pi C S26.1 S26.2.1.2.1 (c_X9_isWord_f l D G tp a28 2 w_or T c4 gtp ha28 (Wc.of wa28 kw_or)) kV_X4_61 gtp (⟨trivial, ts26⟩) dX4_readCondition_65 hl.1 rfl rfl (by decide) cd_X9_isWord ⟨Nat.le_of_ble_eq_true rfl, Nat.le_of_ble_eq_true rfl, Nat.le_of_ble_eq_true rfl, Nat.le_of_ble_eq_true rfl, Nat.le_of_ble_eq_true rfl⟩ (fun v29 q29 => ?_)
                    obtain ⟨q29, fq29⟩ := q29
                    rcases fq29 with ⟨z29, y29⟩ | ⟨z29, y29⟩
                    · skip
                      refine lv_istore_n (lv' := [(2, .int v29), (3, .int v9), (4, .int x4_7), (0, .ref a0), (1, .int x1)]) hx hb dX4_readCondition_68 rfl hl (by decide) rfl (fun ls hl => ?_)
                      refine lv_iload_n hx hb dX4_readCondition_69 rfl (lv_at hl 0 rfl) ?_
                      refine lv_if_ne (tgt := 75) hx hb dX4_readCondition_70 (by decide) (fun c30 => ?_) (fun c30 => ?_)
                      · have b30 : ¬ v29.toInt = (0 : Int32).toInt := fun z9 => c30 (i_eq.mpr z9)
                        refine lv_aload_n hx hb dX4_readCondition_75 rfl (lv_at hl 3 rfl) ?_
                        refine q_grS (T := TX4) C S26.1 ga0 0 kF_X4_39 dX4_readCondition_76 rfl rfl (by decide) rfl (by decide) kSF_X4_tape (fun g31 => ?_)
                        rw [show fR D H26 4 a0 0 = tp from (S26.2.1.fR ga0 rfl (by decide) (by decide +kernel)).trans htp]
                        refine callV_Ev C S26 (c_X9_next_f l D G tp T c4 gtp) kV_X4_47 gtp (⟨trivial, ts26⟩) (by decide +kernel) dX4_readCondition_79 hl.1 rfl rfl (by decide) cd_X9_next ⟨Nat.le_of_ble_eq_true rfl, Nat.le_of_ble_eq_true rfl, Nat.le_of_ble_eq_true rfl, Nat.le_of_ble_eq_true rfl, Nat.le_of_ble_eq_true rfl⟩ (fun H32 L32 S32 K32 q32 => ?_)
                        obtain ⟨q32, fq32⟩ := q32
                        have tk32 : Lw D s.heap H32 a0 := tk26.trans (Lw.keep S26.1 ga0 K32 (by decide +kernel) (by decide +kernel) (by decide +kernel))
                        obtain ⟨v33, ev33⟩ : ∃ y : Int32, y = x4_7 + (1) := ⟨_, rfl⟩
                        have k_1 : (1 : Int32).toInt = 1 := by decide
                        have f34 : v33.toInt = x4_7.toInt + (1) := by rw [ev33]; exact i_addc k_1 (by omega) (by omega)
                        refine lv_iinc (v := v33) (lv' := [(4, .int v33), (2, .int v29), (3, .int v9), (0, .ref a0), (1, .int x1)]) hx hb dX4_readCondition_82 hl (k := 2) rfl (by rw [ev33]; rfl) (by decide) rfl (fun ls hl => ?_)
                        refine lv_goto (tgt := 7) hx hb dX4_readCondition_85 (by decide) ?_
                        exact ih7 v33 v9 v29 (nx T c4) H32 L32 ls S32 (by omega) (by omega) (by omega) fq32 (by rw [u7_1]; exact conR_st (by omega) y4 (by simp [y4, y9, y29])) tk32 (by omega) (lv_sub hl [0, 2, 1, 3, 4] rfl)
                      · have b30 : v29.toInt = (0 : Int32).toInt := i_eq.mp c30
                        exact absurd b30 (by omega)
                    · skip
                      refine lv_istore_n (lv' := [(2, .int v29), (3, .int v9), (4, .int x4_7), (0, .ref a0), (1, .int x1)]) hx hb dX4_readCondition_68 rfl hl (by decide) rfl (fun ls hl => ?_)
                      refine lv_iload_n hx hb dX4_readCondition_69 rfl (lv_at hl 0 rfl) ?_
                      refine lv_if_ne (tgt := 75) hx hb dX4_readCondition_70 (by decide) (fun c35 => ?_) (fun c35 => ?_)
                      · have b35 : ¬ v29.toInt = (0 : Int32).toInt := fun z9 => c35 (i_eq.mpr z9)
                        exact absurd b35 (by omega)
                      · have b35 : v29.toInt = (0 : Int32).toInt := i_eq.mp c35
                        refine lv_iconst (v := 1) hx hb dX4_readCondition_73 (by decide) ?_
                        have k_1 : (1 : Int32).toInt = 1 := by decide
                        exact retE_z hQ C S26 hr dX4_readCondition_74 (z01 (by omega) (by omega)) (⟨⟨by omega, tk26⟩, Rs.ok (by rw [u7_1]; exact conR_ok (by omega) y4 (by simp [y4, y9, y29]) (by simp [y4, y9, y29])) (by omega) ts26⟩)
            · have b6 : ¬ x3_7.toInt = (0 : Int32).toInt := fun z9 => c6 (i_eq.mpr z9)
              refine lv_aload_n hx hb dX4_readCondition_29 rfl (lv_at hl 3 rfl) ?_
              refine lv_bipush (v := -17) hx hb dX4_readCondition_30 (by decide) ?_
              have k_m17 : (-17 : Int32).toInt = -17 := by decide
              refine callV_Ev C S4 (c_X4_put l D G a0 (-17 : Int32) ga0) kV_X4_55 ga0 (trivial) (by decide +kernel) dX4_readCondition_32 hl.1 rfl rfl (by decide) cd_X4_put ⟨Nat.le_of_ble_eq_true rfl, Nat.le_of_ble_eq_true rfl, Nat.le_of_ble_eq_true rfl, Nat.le_of_ble_eq_true rfl, Nat.le_of_ble_eq_true rfl⟩ (fun H36 L36 S36 K36 q36 => ?_)
              obtain ⟨qa36, qb36, tq36⟩ := q36
              have tk36 : Lw D s.heap H36 a0 := tk4.trans tq36
              have ts36 := ts4.keep S4.1 gtp K36 (by decide +kernel)
              refine lv_aload_n hx hb dX4_readCondition_35 rfl (lv_at hl 3 rfl) ?_
              refine q_grS (T := TX4) C S36.1 ga0 0 kF_X4_39 dX4_readCondition_36 rfl rfl (by decide) rfl (by decide) kSF_X4_tape (fun g37 => ?_)
              rw [show fR D H36 4 a0 0 = tp from (S36.2.1.fR ga0 rfl (by decide) (by decide +kernel)).trans htp]
              refine q_lds C ks_X4_78 dX4_readCondition_39 (fun a38 ha38 wa38 => ?_)
              refine callV_Pi C S36.1 S36.2.1.2.1 (c_X9_isWord_f l D G tp a38 3 w_and T c4 gtp ha38 (Wc.of wa38 kw_and)) kV_X4_61 gtp (⟨trivial, ts36⟩) dX4_readCondition_41 hl.1 rfl rfl (by decide) cd_X9_isWord ⟨Nat.le_of_ble_eq_true rfl, Nat.le_of_ble_eq_true rfl, Nat.le_of_ble_eq_true rfl, Nat.le_of_ble_eq_true rfl, Nat.le_of_ble_eq_true rfl⟩ (fun v39 q39 => ?_)
              obtain ⟨q39, fq39⟩ := q39
              rcases fq39 with ⟨z39, y39⟩ | ⟨z39, y39⟩
              · skip
                refine lv_istore_n (lv' := [(3, .int v39), (4, .int x4_7), (2, .int x2_7), (0, .ref a0), (1, .int x1)]) hx hb dX4_readCondition_44 rfl hl (by decide) rfl (fun ls hl => ?_)
                refine lv_iload_n hx hb dX4_readCondition_45 rfl (lv_at hl 0 rfl) ?_
                refine lv_if_ne (tgt := 75) hx hb dX4_readCondition_46 (by decide) (fun c40 => ?_) (fun c40 => ?_)
                · have b40 : ¬ v39.toInt = (0 : Int32).toInt := fun z9 => c40 (i_eq.mpr z9)
                  refine lv_aload_n hx hb dX4_readCondition_75 rfl (lv_at hl 3 rfl) ?_
                  refine q_grS (T := TX4) C S36.1 ga0 0 kF_X4_39 dX4_readCondition_76 rfl rfl (by decide) rfl (by decide) kSF_X4_tape (fun g41 => ?_)
                  rw [show fR D H36 4 a0 0 = tp from (S36.2.1.fR ga0 rfl (by decide) (by decide +kernel)).trans htp]
                  refine callV_Ev C S36 (c_X9_next_f l D G tp T c4 gtp) kV_X4_47 gtp (⟨trivial, ts36⟩) (by decide +kernel) dX4_readCondition_79 hl.1 rfl rfl (by decide) cd_X9_next ⟨Nat.le_of_ble_eq_true rfl, Nat.le_of_ble_eq_true rfl, Nat.le_of_ble_eq_true rfl, Nat.le_of_ble_eq_true rfl, Nat.le_of_ble_eq_true rfl⟩ (fun H42 L42 S42 K42 q42 => ?_)
                  obtain ⟨q42, fq42⟩ := q42
                  have tk42 : Lw D s.heap H42 a0 := tk36.trans (Lw.keep S36.1 ga0 K42 (by decide +kernel) (by decide +kernel) (by decide +kernel))
                  obtain ⟨v43, ev43⟩ : ∃ y : Int32, y = x4_7 + (1) := ⟨_, rfl⟩
                  have k_1 : (1 : Int32).toInt = 1 := by decide
                  have f44 : v43.toInt = x4_7.toInt + (1) := by rw [ev43]; exact i_addc k_1 (by omega) (by omega)
                  refine lv_iinc (v := v43) (lv' := [(4, .int v43), (3, .int v39), (2, .int x2_7), (0, .ref a0), (1, .int x1)]) hx hb dX4_readCondition_82 hl (k := 1) rfl (by rw [ev43]; rfl) (by decide) rfl (fun ls hl => ?_)
                  refine lv_goto (tgt := 7) hx hb dX4_readCondition_85 (by decide) ?_
                  exact ih7 v43 v39 x2_7 (nx T c4) H42 L42 ls S42 (by omega) (by omega) (by omega) fq42 (by rw [u7_1]; exact conR_st (by omega) y4 (by simp [y4, y39])) tk42 (by omega) (lv_sub hl [0, 1, 2, 3, 4] rfl)
                · have b40 : v39.toInt = (0 : Int32).toInt := i_eq.mp c40
                  exact absurd b40 (by omega)
              · skip
                refine lv_istore_n (lv' := [(3, .int v39), (4, .int x4_7), (2, .int x2_7), (0, .ref a0), (1, .int x1)]) hx hb dX4_readCondition_44 rfl hl (by decide) rfl (fun ls hl => ?_)
                refine lv_iload_n hx hb dX4_readCondition_45 rfl (lv_at hl 0 rfl) ?_
                refine lv_if_ne (tgt := 75) hx hb dX4_readCondition_46 (by decide) (fun c45 => ?_) (fun c45 => ?_)
                · have b45 : ¬ v39.toInt = (0 : Int32).toInt := fun z9 => c45 (i_eq.mpr z9)
                  exact absurd b45 (by omega)
                · have b45 : v39.toInt = (0 : Int32).toInt := i_eq.mp c45
                  refine lv_iload_n hx hb dX4_readCondition_49 rfl (lv_at hl 2 rfl) ?_
                  refine lv_if_eq (tgt := 59) hx hb dX4_readCondition_50 (by decide) (fun c46 => ?_) (fun c46 => ?_)
                  · have b46 : x2_7.toInt = (0 : Int32).toInt := i_eq.mp c46
                    refine lv_aload_n hx hb dX4_readCondition_59 rfl (lv_at hl 3 rfl) ?_
                    refine q_grS (T := TX4) C S36.1 ga0 0 kF_X4_39 dX4_readCondition_60 rfl rfl (by decide) rfl (by decide) kSF_X4_tape (fun g47 => ?_)
                    rw [show fR D H36 4 a0 0 = tp from (S36.2.1.fR ga0 rfl (by decide) (by decide +kernel)).trans htp]
                    refine q_lds C ks_X4_80 dX4_readCondition_63 (fun a48 ha48 wa48 => ?_)
                    refine callV_Pi C S36.1 S36.2.1.2.1 (c_X9_isWord_f l D G tp a48 2 w_or T c4 gtp ha48 (Wc.of wa48 kw_or)) kV_X4_61 gtp (⟨trivial, ts36⟩) dX4_readCondition_65 hl.1 rfl rfl (by decide) cd_X9_isWord ⟨Nat.le_of_ble_eq_true rfl, Nat.le_of_ble_eq_true rfl, Nat.le_of_ble_eq_true rfl, Nat.le_of_ble_eq_true rfl, Nat.le_of_ble_eq_true rfl⟩ (fun v49 q49 => ?_)
                    obtain ⟨q49, fq49⟩ := q49
                    rcases fq49 with ⟨z49, y49⟩ | ⟨z49, y49⟩
                    · skip
                      refine lv_istore_n (lv' := [(2, .int v49), (3, .int v39), (4, .int x4_7), (0, .ref a0), (1, .int x1)]) hx hb dX4_readCondition_68 rfl hl (by decide) rfl (fun ls hl => ?_)
                      refine lv_iload_n hx hb dX4_readCondition_69 rfl (lv_at hl 0 rfl) ?_
                      refine lv_if_ne (tgt := 75) hx hb dX4_readCondition_70 (by decide) (fun c50 => ?_) (fun c50 => ?_)
                      · have b50 : ¬ v49.toInt = (0 : Int32).toInt := fun z9 => c50 (i_eq.mpr z9)
                        refine lv_aload_n hx hb dX4_readCondition_75 rfl (lv_at hl 3 rfl) ?_
                        refine q_grS (T := TX4) C S36.1 ga0 0 kF_X4_39 dX4_readCondition_76 rfl rfl (by decide) rfl (by decide) kSF_X4_tape (fun g51 => ?_)
                        rw [show fR D H36 4 a0 0 = tp from (S36.2.1.fR ga0 rfl (by decide) (by decide +kernel)).trans htp]
                        refine callV_Ev C S36 (c_X9_next_f l D G tp T c4 gtp) kV_X4_47 gtp (⟨trivial, ts36⟩) (by decide +kernel) dX4_readCondition_79 hl.1 rfl rfl (by decide) cd_X9_next ⟨Nat.le_of_ble_eq_true rfl, Nat.le_of_ble_eq_true rfl, Nat.le_of_ble_eq_true rfl, Nat.le_of_ble_eq_true rfl, Nat.le_of_ble_eq_true rfl⟩ (fun H52 L52 S52 K52 q52 => ?_)
                        obtain ⟨q52, fq52⟩ := q52
                        have tk52 : Lw D s.heap H52 a0 := tk36.trans (Lw.keep S36.1 ga0 K52 (by decide +kernel) (by decide +kernel) (by decide +kernel))
                        obtain ⟨v53, ev53⟩ : ∃ y : Int32, y = x4_7 + (1) := ⟨_, rfl⟩
                        have k_1 : (1 : Int32).toInt = 1 := by decide
                        have f54 : v53.toInt = x4_7.toInt + (1) := by rw [ev53]; exact i_addc k_1 (by omega) (by omega)
                        refine lv_iinc (v := v53) (lv' := [(4, .int v53), (2, .int v49), (3, .int v39), (0, .ref a0), (1, .int x1)]) hx hb dX4_readCondition_82 hl (k := 2) rfl (by rw [ev53]; rfl) (by decide) rfl (fun ls hl => ?_)
                        refine lv_goto (tgt := 7) hx hb dX4_readCondition_85 (by decide) ?_
                        exact ih7 v53 v39 v49 (nx T c4) H52 L52 ls S52 (by omega) (by omega) (by omega) fq52 (by rw [u7_1]; exact conR_st (by omega) y4 (by simp [y4, y39, y49])) tk52 (by omega) (lv_sub hl [0, 2, 1, 3, 4] rfl)
                      · have b50 : v49.toInt = (0 : Int32).toInt := i_eq.mp c50
                        exact absurd b50 (by omega)
                    · skip
                      refine lv_istore_n (lv' := [(2, .int v49), (3, .int v39), (4, .int x4_7), (0, .ref a0), (1, .int x1)]) hx hb dX4_readCondition_68 rfl hl (by decide) rfl (fun ls hl => ?_)
                      refine lv_iload_n hx hb dX4_readCondition_69 rfl (lv_at hl 0 rfl) ?_
                      refine lv_if_ne (tgt := 75) hx hb dX4_readCondition_70 (by decide) (fun c55 => ?_) (fun c55 => ?_)
                      · have b55 : ¬ v49.toInt = (0 : Int32).toInt := fun z9 => c55 (i_eq.mpr z9)
                        exact absurd b55 (by omega)
                      · have b55 : v49.toInt = (0 : Int32).toInt := i_eq.mp c55
                        refine lv_iconst (v := 1) hx hb dX4_readCondition_73 (by decide) ?_
                        have k_1 : (1 : Int32).toInt = 1 := by decide
                        exact retE_z hQ C S36 hr dX4_readCondition_74 (z01 (by omega) (by omega)) (⟨⟨by omega, tk36⟩, Rs.ok (by rw [u7_1]; exact conR_ok (by omega) y4 (by simp [y4, y39, y49]) (by simp [y4, y39, y49])) (by omega) ts36⟩)
                  · have b46 : ¬ x2_7.toInt = (0 : Int32).toInt := fun z9 => c46 (i_eq.mpr z9)
                    refine lv_aload_n hx hb dX4_readCondition_53 rfl (lv_at hl 3 rfl) ?_
                    refine lv_bipush (v := -18) hx hb dX4_readCondition_54 (by decide) ?_
                    have k_m18 : (-18 : Int32).toInt = -18 := by decide
                    refine callV_Ev C S36 (c_X4_put l D G a0 (-18 : Int32) ga0) kV_X4_55 ga0 (trivial) (by decide +kernel) dX4_readCondition_56 hl.1 rfl rfl (by decide) cd_X4_put ⟨Nat.le_of_ble_eq_true rfl, Nat.le_of_ble_eq_true rfl, Nat.le_of_ble_eq_true rfl, Nat.le_of_ble_eq_true rfl, Nat.le_of_ble_eq_true rfl⟩ (fun H56 L56 S56 K56 q56 => ?_)
                    obtain ⟨qa56, qb56, tq56⟩ := q56
                    have tk56 : Lw D s.heap H56 a0 := tk36.trans tq56
                    have ts56 := ts36.keep S36.1 gtp K56 (by decide +kernel)
                    refine lv_aload_n hx hb dX4_readCondition_59 rfl (lv_at hl 3 rfl) ?_
                    refine q_grS (T := TX4) C S56.1 ga0 0 kF_X4_39 dX4_readCondition_60 rfl rfl (by decide) rfl (by decide) kSF_X4_tape (fun g57 => ?_)
                    rw [show fR D H56 4 a0 0 = tp from (S56.2.1.fR ga0 rfl (by decide) (by decide +kernel)).trans htp]
                    refine q_lds C ks_X4_80 dX4_readCondition_63 (fun a58 ha58 wa58 => ?_)
                    refine callV_Pi C S56.1 S56.2.1.2.1 (c_X9_isWord_f l D G tp a58 2 w_or T c4 gtp ha58 (Wc.of wa58 kw_or)) kV_X4_61 gtp (⟨trivial, ts56⟩) dX4_readCondition_65 hl.1 rfl rfl (by decide) cd_X9_isWord ⟨Nat.le_of_ble_eq_true rfl, Nat.le_of_ble_eq_true rfl, Nat.le_of_ble_eq_true rfl, Nat.le_of_ble_eq_true rfl, Nat.le_of_ble_eq_true rfl⟩ (fun v59 q59 => ?_)
                    obtain ⟨q59, fq59⟩ := q59
                    rcases fq59 with ⟨z59, y59⟩ | ⟨z59, y59⟩
                    · skip
                      refine lv_istore_n (lv' := [(2, .int v59), (3, .int v39), (4, .int x4_7), (0, .ref a0), (1, .int x1)]) hx hb dX4_readCondition_68 rfl hl (by decide) rfl (fun ls hl => ?_)
                      refine lv_iload_n hx hb dX4_readCondition_69 rfl (lv_at hl 0 rfl) ?_
                      refine lv_if_ne (tgt := 75) hx hb dX4_readCondition_70 (by decide) (fun c60 => ?_) (fun c60 => ?_)
                      · have b60 : ¬ v59.toInt = (0 : Int32).toInt := fun z9 => c60 (i_eq.mpr z9)
                        refine lv_aload_n hx hb dX4_readCondition_75 rfl (lv_at hl 3 rfl) ?_
                        refine q_grS (T := TX4) C S56.1 ga0 0 kF_X4_39 dX4_readCondition_76 rfl rfl (by decide) rfl (by decide) kSF_X4_tape (fun g61 => ?_)
                        rw [show fR D H56 4 a0 0 = tp from (S56.2.1.fR ga0 rfl (by decide) (by decide +kernel)).trans htp]
                        refine callV_Ev C S56 (c_X9_next_f l D G tp T c4 gtp) kV_X4_47 gtp (⟨trivial, ts56⟩) (by decide +kernel) dX4_readCondition_79 hl.1 rfl rfl (by decide) cd_X9_next ⟨Nat.le_of_ble_eq_true rfl, Nat.le_of_ble_eq_true rfl, Nat.le_of_ble_eq_true rfl, Nat.le_of_ble_eq_true rfl, Nat.le_of_ble_eq_true rfl⟩ (fun H62 L62 S62 K62 q62 => ?_)
                        obtain ⟨q62, fq62⟩ := q62
                        have tk62 : Lw D s.heap H62 a0 := tk56.trans (Lw.keep S56.1 ga0 K62 (by decide +kernel) (by decide +kernel) (by decide +kernel))
                        obtain ⟨v63, ev63⟩ : ∃ y : Int32, y = x4_7 + (1) := ⟨_, rfl⟩
                        have k_1 : (1 : Int32).toInt = 1 := by decide
                        have f64 : v63.toInt = x4_7.toInt + (1) := by rw [ev63]; exact i_addc k_1 (by omega) (by omega)
                        refine lv_iinc (v := v63) (lv' := [(4, .int v63), (2, .int v59), (3, .int v39), (0, .ref a0), (1, .int x1)]) hx hb dX4_readCondition_82 hl (k := 2) rfl (by rw [ev63]; rfl) (by decide) rfl (fun ls hl => ?_)
                        refine lv_goto (tgt := 7) hx hb dX4_readCondition_85 (by decide) ?_
                        exact ih7 v63 v39 v59 (nx T c4) H62 L62 ls S62 (by omega) (by omega) (by omega) fq62 (by rw [u7_1]; exact conR_st (by omega) y4 (by simp [y4, y39, y59])) tk62 (by omega) (lv_sub hl [0, 2, 1, 3, 4] rfl)
                      · have b60 : v59.toInt = (0 : Int32).toInt := i_eq.mp c60
                        exact absurd b60 (by omega)
                    · skip
                      refine lv_istore_n (lv' := [(2, .int v59), (3, .int v39), (4, .int x4_7), (0, .ref a0), (1, .int x1)]) hx hb dX4_readCondition_68 rfl hl (by decide) rfl (fun ls hl => ?_)
                      refine lv_iload_n hx hb dX4_readCondition_69 rfl (lv_at hl 0 rfl) ?_
                      refine lv_if_ne (tgt := 75) hx hb dX4_readCondition_70 (by decide) (fun c65 => ?_) (fun c65 => ?_)
                      · have b65 : ¬ v59.toInt = (0 : Int32).toInt := fun z9 => c65 (i_eq.mpr z9)
                        exact absurd b65 (by omega)
                      · have b65 : v59.toInt = (0 : Int32).toInt := i_eq.mp c65
                        refine lv_iconst (v := 1) hx hb dX4_readCondition_73 (by decide) ?_
                        have k_1 : (1 : Int32).toInt = 1 := by decide
                        exact retE_z hQ C S56 hr dX4_readCondition_74 (z01 (by omega) (by omega)) (⟨⟨by omega, tk56⟩, Rs.ok (by rw [u7_1]; exact conR_ok (by omega) y4 (by simp [y4, y39, y59]) (by simp [y4, y39, y59])) (by omega) ts56⟩)
          · have b5 : v4.toInt = (0 : Int32).toInt := i_eq.mp c5
            exact absurd b5 (by omega)
        · skip
          have k_0 : (0 : Int32).toInt = 0 := by decide
          refine lv_if_ne (tgt := 25) hx hb dX4_readCondition_20 (by decide) (fun c66 => ?_) (fun c66 => ?_)
          · have b66 : ¬ v4.toInt = (0 : Int32).toInt := fun z9 => c66 (i_eq.mpr z9)
            exact absurd b66 (by omega)
          · have b66 : v4.toInt = (0 : Int32).toInt := i_eq.mp c66
            refine lv_iconst (v := 0) hx hb dX4_readCondition_23 (by decide) ?_
            exact retE_z hQ C S4 hr dX4_readCondition_24 (z01 (by omega) (by omega)) (⟨⟨by omega, tk4⟩, Rs.no (by rw [u7_1]; exact conR_no (by omega) y4) (by omega) wr4⟩)
  have k_0 : (0 : Int32).toInt = 0 := by decide
  exact Lp7 401 (0 : Int32) (0 : Int32) (0 : Int32) b s.heap [] ls S (by omega) (by omega) (by omega) ts0 (congrArg (fun n9 => conR T (atm T 2) n9 b) (show 400 = 400 - (0 : Int32).toInt.toNat by decide)) tk0  (by omega) (lv_sub hl [0, 1, 2, 3, 4] rfl)

set_option maxRecDepth 100000 in
set_option maxHeartbeats 4000000 in
theorem c_X4_readAtom_d3 (l : Launch) (D : DD) (G : Nat → Nat) (a0 : Nat) (x1 : Int32) (tp : Nat) (T : Tx) (b : Nat) (ga0 : G a0 = 21) (ix1 : 3 ≤ x1.toInt ∧ x1.toInt ≤ 3) : CE l D G yX4_readAtom cX4_readAtom 4 (some .boolean) 13 [.ref a0, .int x1] (fun H => (True) ∧ (fR D H 4 a0 0 = tp ∧ TS D H tp T b)) [(2, 3), (2, 4), (2, 5), (2, 6), (2, 2), (22, 0), (21, 3)] (xI (fun H r H1 => ((0 ≤ r.toInt ∧ r.toInt ≤ 1) ∧ (Lw D H H1 a0)) ∧ (Rs D H1 tp T (atm T 3 b) r))) := by
  refine enter (by decide) (Nat.le_of_ble_eq_true rfl) ?_
  intro p e s m args below meth c ls Q hA hQ C hr hO hpre hl
  have hx := C.1
  have hb := C.2.1
  have S : Sd D G [(2, 3), (2, 4), (2, 5), (2, 6), (2, 2), (22, 0), (21, 3)] s.heap s.heap [] := Sd.start hO
  have hl : lv_has ls 4 [(0, .ref a0), (1, .int x1)] := hl
  obtain ⟨hpre, hf⟩ := hpre
  obtain ⟨htp, ts0⟩ := hf
  have gtp : G tp = 2 := by rw [← htp]; exact hO.rol ga0 rfl (by decide) rfl
  have hT : T.2 ≤ 400 := ts0.le hO gtp
  have tk0 : Lw D s.heap s.heap a0 := Lw.refl
  refine lv_aload_n hx hb dX4_readAtom_0 rfl (lv_at hl 0 rfl) ?_
  refine q_grS (T := TX4) C S.1 ga0 0 kF_X4_39 dX4_readAtom_1 rfl rfl (by decide) rfl (by decide) kSF_X4_tape (fun g1 => ?_)
  rw [show fR D s.heap 4 a0 0 = tp from htp]
  refine q_lds C ks_X4_82 dX4_readAtom_4 (fun a2 ha2 wa2 => ?_)
  refine callV_Pi C S.1 S.2.1.2.1 (c_X9_isWord_f l D G tp a2 3 w_not T b gtp ha2 (Wc.of wa2 kw_not)) kV_X4_61 gtp (⟨trivial, ts0⟩) dX4_readAtom_6 hl.1 rfl rfl (by decide) cd_X9_isWord ⟨Nat.le_of_ble_eq_true rfl, Nat.le_of_ble_eq_true rfl, Nat.le_of_ble_eq_true rfl, Nat.le_of_ble_eq_true rfl, Nat.le_of_ble_eq_true rfl⟩ (fun v3 q3 => ?_)
  obtain ⟨q3, fq3⟩ := q3
  rcases fq3 with ⟨z3, y3⟩ | ⟨z3, y3⟩
  · skip
    refine lv_istore_n (lv' := [(2, .int v3), (0, .ref a0), (1, .int x1)]) hx hb dX4_readAtom_9 rfl hl (by decide) rfl (fun ls hl => ?_)
    refine lv_iload_n hx hb dX4_readAtom_10 rfl (lv_at hl 0 rfl) ?_
    have k_0 : (0 : Int32).toInt = 0 := by decide
    refine lv_if_ne (tgt := 26) hx hb dX4_readAtom_11 (by decide) (fun c4 => ?_) (fun c4 => ?_)
    · have b4 : ¬ v3.toInt = (0 : Int32).toInt := fun z9 => c4 (i_eq.mpr z9)
      refine lv_iload_n hx hb dX4_readAtom_26 rfl (lv_at hl 2 rfl) ?_
      refine lv_bipush (v := 6) hx hb dX4_readAtom_27 (by decide) ?_
      have k_6 : (6 : Int32).toInt = 6 := by decide
      refine lv_icmp_lt (tgt := 40) hx hb dX4_readAtom_29 (by decide) (fun c5 => ?_) (fun c5 => ?_)
      · have b5 : x1.toInt < (6 : Int32).toInt := i_lt.mp c5
        refine lv_aload_n hx hb dX4_readAtom_40 rfl (lv_at hl 1 rfl) ?_
        refine q_grS (T := TX4) C S.1 ga0 0 kF_X4_39 dX4_readAtom_41 rfl rfl (by decide) rfl (by decide) kSF_X4_tape (fun g6 => ?_)
        rw [show fR D s.heap 4 a0 0 = tp from htp]
        refine callV_Ev C S (c_X9_next_f l D G tp T b gtp) kV_X4_47 gtp (⟨trivial, ts0⟩) (by decide +kernel) dX4_readAtom_44 hl.1 rfl rfl (by decide) cd_X9_next ⟨Nat.le_of_ble_eq_true rfl, Nat.le_of_ble_eq_true rfl, Nat.le_of_ble_eq_true rfl, Nat.le_of_ble_eq_true rfl, Nat.le_of_ble_eq_true rfl⟩ (fun H7 L7 S7 K7 q7 => ?_)
        obtain ⟨q7, fq7⟩ := q7
        have tk7 : Lw D s.heap H7 a0 := tk0.trans (Lw.keep S.1 ga0 K7 (by decide +kernel) (by decide +kernel) (by decide +kernel))
        refine lv_iload_n hx hb dX4_readAtom_47 rfl (lv_at hl 0 rfl) ?_
        refine lv_if_ne (tgt := 79) hx hb dX4_readAtom_48 (by decide) (fun c8 => ?_) (fun c8 => ?_)
        · have b8 : ¬ v3.toInt = (0 : Int32).toInt := fun z9 => c8 (i_eq.mpr z9)
          refine lv_aload_n hx hb dX4_readAtom_79 rfl (lv_at hl 1 rfl) ?_
          refine lv_iload_n hx hb dX4_readAtom_80 rfl (lv_at hl 2 rfl) ?_
          refine lv_iconst (v := 1) hx hb dX4_readAtom_81 (by decide) ?_
          have k_1 : (1 : Int32).toInt = 1 := by decide
          refine lv_iadd hx hb dX4_readAtom_82 ?_
          refine lv_topi (fun v9 ev9 => ?_)
          have f10 : v9.toInt = x1.toInt + (1 : Int32).toInt := by rw [ev9]; exact i_add (by omega) (by omega)
          refine callV_Ei C S7 (c_X4_readAtom_d4 l D G a0 v9 tp T (nx T b) ga0 (by omega)) kV_X4_75 ga0 (⟨trivial, ⟨(S7.2.1.fR ga0 rfl (by decide) (by decide +kernel)).trans htp, fq7⟩⟩) (by decide +kernel) dX4_readAtom_83 hl.1 rfl rfl (by decide) cd_X4_readAtom ⟨Nat.le_of_ble_eq_true rfl, Nat.le_of_ble_eq_true rfl, Nat.le_of_ble_eq_true rfl, Nat.le_of_ble_eq_true rfl, Nat.le_of_ble_eq_true rfl⟩ (fun v11 H11 L11 S11 K11 q11 => ?_)
          obtain ⟨q11, fq11⟩ := q11
          obtain ⟨q11, tq11⟩ := q11
          have tk11 : Lw D s.heap H11 a0 := tk7.trans tq11
          rcases fq11 with ⟨c11, y11, z11, ts11⟩ | ⟨e11, y11, z11, wr11⟩
          · skip
            refine lv_if_ne (tgt := 91) hx hb dX4_readAtom_86 (by decide) (fun c12 => ?_) (fun c12 => ?_)
            · have b12 : ¬ v11.toInt = (0 : Int32).toInt := fun z9 => c12 (i_eq.mpr z9)
              refine lv_aload_n hx hb dX4_readAtom_91 rfl (lv_at hl 1 rfl) ?_
              refine lv_bipush (v := -13) hx hb dX4_readAtom_92 (by decide) ?_
              have k_m13 : (-13 : Int32).toInt = -13 := by decide
              refine callV_Ev C S11 (c_X4_put l D G a0 (-13 : Int32) ga0) kV_X4_55 ga0 (trivial) (by decide +kernel) dX4_readAtom_94 hl.1 rfl rfl (by decide) cd_X4_put ⟨Nat.le_of_ble_eq_true rfl, Nat.le_of_ble_eq_true rfl, Nat.le_of_ble_eq_true rfl, Nat.le_of_ble_eq_true rfl, Nat.le_of_ble_eq_true rfl⟩ (fun H13 L13 S13 K13 q13 => ?_)
              obtain ⟨qa13, qb13, tq13⟩ := q13
              have tk13 : Lw D s.heap H13 a0 := tk11.trans tq13
              have ts13 := ts11.keep S11.1 gtp K13 (by decide +kernel)
              refine lv_iconst (v := 1) hx hb dX4_readAtom_97 (by decide) ?_
              exact retE_z hQ C S13 hr dX4_readAtom_98 (z01 (by omega) (by omega)) (⟨⟨by omega, tk13⟩, Rs.ok (by rw [atm_s]; simp [clo, tlF, y3, y11]) (by omega) ts13⟩)
            · have b12 : v11.toInt = (0 : Int32).toInt := i_eq.mp c12
              exact absurd b12 (by omega)
          · skip
            refine lv_if_ne (tgt := 91) hx hb dX4_readAtom_86 (by decide) (fun c14 => ?_) (fun c14 => ?_)
            · have b14 : ¬ v11.toInt = (0 : Int32).toInt := fun z9 => c14 (i_eq.mpr z9)
              exact absurd b14 (by omega)
            · have b14 : v11.toInt = (0 : Int32).toInt := i_eq.mp c14
              refine lv_iconst (v := 0) hx hb dX4_readAtom_89 (by decide) ?_
              exact retE_z hQ C S11 hr dX4_readAtom_90 (z01 (by omega) (by omega)) (⟨⟨by omega, tk11⟩, Rs.no (by rw [atm_s]; simp [clo, tlF, y3, y11]) (by omega) wr11⟩)
        · have b8 : v3.toInt = (0 : Int32).toInt := i_eq.mp c8
          exact absurd b8 (by omega)
      · have b5 : ¬ x1.toInt < (6 : Int32).toInt := fun z9 => c5 (i_lt.mpr z9)
        exact absurd b5 (by omega)
    · have b4 : v3.toInt = (0 : Int32).toInt := i_eq.mp c4
      exact absurd b4 (by omega)
  · skip
    refine lv_istore_n (lv' := [(2, .int v3), (0, .ref a0), (1, .int x1)]) hx hb dX4_readAtom_9 rfl hl (by decide) rfl (fun ls hl => ?_)
    refine lv_iload_n hx hb dX4_readAtom_10 rfl (lv_at hl 0 rfl) ?_
    have k_0 : (0 : Int32).toInt = 0 := by decide
    refine lv_if_ne (tgt := 26) hx hb dX4_readAtom_11 (by decide) (fun c15 => ?_) (fun c15 => ?_)
    · have b15 : ¬ v3.toInt = (0 : Int32).toInt := fun z9 => c15 (i_eq.mpr z9)
      exact absurd b15 (by omega)
    · have b15 : v3.toInt = (0 : Int32).toInt := i_eq.mp c15
      refine lv_aload_n hx hb dX4_readAtom_14 rfl (lv_at hl 1 rfl) ?_
      refine q_grS (T := TX4) C S.1 ga0 0 kF_X4_39 dX4_readAtom_15 rfl rfl (by decide) rfl (by decide) kSF_X4_tape (fun g16 => ?_)
      rw [show fR D s.heap 4 a0 0 = tp from htp]
      refine lv_bipush (v := 40) hx hb dX4_readAtom_18 (by decide) ?_
      have k_40 : (40 : Int32).toInt = 40 := by decide
      refine callV_Pi C S.1 S.2.1.2.1 (c_X9_isSign_f l D G tp (40 : Int32) 40 T b gtp (by omega) (by decide)) kV_X4_84 gtp (⟨trivial, ts0⟩) dX4_readAtom_20 hl.1 rfl rfl (by decide) cd_X9_isSign ⟨Nat.le_of_ble_eq_true rfl, Nat.le_of_ble_eq_true rfl, Nat.le_of_ble_eq_true rfl, Nat.le_of_ble_eq_true rfl, Nat.le_of_ble_eq_true rfl⟩ (fun v17 q17 => ?_)
      obtain ⟨q17, fq17⟩ := q17
      rcases fq17 with ⟨z17, y17⟩ | ⟨z17, y17⟩
      · skip
        refine lv_if_eq (tgt := 99) hx hb dX4_readAtom_23 (by decide) (fun c18 => ?_) (fun c18 => ?_)
        · have b18 : v17.toInt = (0 : Int32).toInt := i_eq.mp c18
          exact absurd b18 (by omega)
        · have b18 : ¬ v17.toInt = (0 : Int32).toInt := fun z9 => c18 (i_eq.mpr z9)
          refine lv_iload_n hx hb dX4_readAtom_26 rfl (lv_at hl 2 rfl) ?_
          refine lv_bipush (v := 6) hx hb dX4_readAtom_27 (by decide) ?_
          have k_6 : (6 : Int32).toInt = 6 := by decide
          refine lv_icmp_lt (tgt := 40) hx hb dX4_readAtom_29 (by decide) (fun c19 => ?_) (fun c19 => ?_)
          · have b19 : x1.toInt < (6 : Int32).toInt := i_lt.mp c19
            refine lv_aload_n hx hb dX4_readAtom_40 rfl (lv_at hl 1 rfl) ?_
            refine q_grS (T := TX4) C S.1 ga0 0 kF_X4_39 dX4_readAtom_41 rfl rfl (by decide) rfl (by decide) kSF_X4_tape (fun g20 => ?_)
            rw [show fR D s.heap 4 a0 0 = tp from htp]
            refine callV_Ev C S (c_X9_next_f l D G tp T b gtp) kV_X4_47 gtp (⟨trivial, ts0⟩) (by decide +kernel) dX4_readAtom_44 hl.1 rfl rfl (by decide) cd_X9_next ⟨Nat.le_of_ble_eq_true rfl, Nat.le_of_ble_eq_true rfl, Nat.le_of_ble_eq_true rfl, Nat.le_of_ble_eq_true rfl, Nat.le_of_ble_eq_true rfl⟩ (fun H21 L21 S21 K21 q21 => ?_)
            obtain ⟨q21, fq21⟩ := q21
            have tk21 : Lw D s.heap H21 a0 := tk0.trans (Lw.keep S.1 ga0 K21 (by decide +kernel) (by decide +kernel) (by decide +kernel))
            refine lv_iload_n hx hb dX4_readAtom_47 rfl (lv_at hl 0 rfl) ?_
            refine lv_if_ne (tgt := 79) hx hb dX4_readAtom_48 (by decide) (fun c22 => ?_) (fun c22 => ?_)
            · have b22 : ¬ v3.toInt = (0 : Int32).toInt := fun z9 => c22 (i_eq.mpr z9)
              exact absurd b22 (by omega)
            · have b22 : v3.toInt = (0 : Int32).toInt := i_eq.mp c22
              refine lv_aload_n hx hb dX4_readAtom_51 rfl (lv_at hl 1 rfl) ?_
              refine lv_iload_n hx hb dX4_readAtom_52 rfl (lv_at hl 2 rfl) ?_
              refine lv_iconst (v := 1) hx hb dX4_readAtom_53 (by decide) ?_
              have k_1 : (1 : Int32).toInt = 1 := by decide
              refine lv_iadd hx hb dX4_readAtom_54 ?_
              refine lv_topi (fun v23 ev23 => ?_)
              have f24 : v23.toInt = x1.toInt + (1 : Int32).toInt := by rw [ev23]; exact i_add (by omega) (by omega)
              refine callV_Ei C S21 (c_X4_readCondition_d4 l D G a0 v23 tp T (nx T b) ga0 (by omega)) kV_X4_65 ga0 (⟨trivial, ⟨(S21.2.1.fR ga0 rfl (by decide) (by decide +kernel)).trans htp, fq21⟩⟩) (by decide +kernel) dX4_readAtom_55 hl.1 rfl rfl (by decide) cd_X4_readCondition ⟨Nat.le_of_ble_eq_true rfl, Nat.le_of_ble_eq_true rfl, Nat.le_of_ble_eq_true rfl, Nat.le_of_ble_eq_true rfl, Nat.le_of_ble_eq_true rfl⟩ (fun v25 H25 L25 S25 K25 q25 => ?_)
              obtain ⟨q25, fq25⟩ := q25
              obtain ⟨q25, tq25⟩ := q25
              have tk25 : Lw D s.heap H25 a0 := tk21.trans tq25
              rcases fq25 with ⟨c25, y25, z25, ts25⟩ | ⟨e25, y25, z25, wr25⟩
              · skip
                refine lv_if_eq (tgt := 77) hx hb dX4_readAtom_58 (by decide) (fun c26 => ?_) (fun c26 => ?_)
                · have b26 : v25.toInt = (0 : Int32).toInt := i_eq.mp c26
                  exact absurd b26 (by omega)
                · have b26 : ¬ v25.toInt = (0 : Int32).toInt := fun z9 => c26 (i_eq.mpr z9)
                  refine lv_aload_n hx hb dX4_readAtom_61 rfl (lv_at hl 1 rfl) ?_
                  refine q_grS (T := TX4) C S25.1 ga0 0 kF_X4_39 dX4_readAtom_62 rfl rfl (by decide) rfl (by decide) kSF_X4_tape (fun g27 => ?_)
                  rw [show fR D H25 4 a0 0 = tp from (S25.2.1.fR ga0 rfl (by decide) (by decide +kernel)).trans htp]
                  refine lv_bipush (v := 41) hx hb dX4_readAtom_65 (by decide) ?_
                  have k_41 : (41 : Int32).toInt = 41 := by decide
                  refine callV_Ei C S25 (c_X9_takeSign_f l D G tp (41 : Int32) 41 T c25 gtp (by omega) (by decide)) kV_X4_88 gtp (⟨trivial, ts25⟩) (by decide +kernel) dX4_readAtom_67 hl.1 rfl rfl (by decide) cd_X9_takeSign ⟨Nat.le_of_ble_eq_true rfl, Nat.le_of_ble_eq_true rfl, Nat.le_of_ble_eq_true rfl, Nat.le_of_ble_eq_true rfl, Nat.le_of_ble_eq_true rfl⟩ (fun v28 H28 L28 S28 K28 q28 => ?_)
                  obtain ⟨q28, fq28⟩ := q28
                  have tk28 : Lw D s.heap H28 a0 := tk25.trans (Lw.keep S25.1 ga0 K28 (by decide +kernel) (by decide +kernel) (by decide +kernel))
                  rcases fq28 with ⟨c28, y28, z28, ts28⟩ | ⟨e28, y28, z28, wr28⟩
                  · skip
                    refine lv_if_eq (tgt := 77) hx hb dX4_readAtom_70 (by decide) (fun c29 => ?_) (fun c29 => ?_)
                    · have b29 : v28.toInt = (0 : Int32).toInt := i_eq.mp c29
                      exact absurd b29 (by omega)
                    · have b29 : ¬ v28.toInt = (0 : Int32).toInt := fun z9 => c29 (i_eq.mpr z9)
                      refine lv_iconst (v := 1) hx hb dX4_readAtom_73 (by decide) ?_
                      refine lv_goto (tgt := 78) hx hb dX4_readAtom_74 (by decide) ?_
                      exact retE_z hQ C S28 hr dX4_readAtom_78 (z01 (by omega) (by omega)) (⟨⟨by omega, tk28⟩, Rs.ok (by rw [atm_s]; simp [clo, tlF, y3, y17, y25, y28]) (by omega) ts28⟩)
                  · skip
                    refine lv_if_eq (tgt := 77) hx hb dX4_readAtom_70 (by decide) (fun c30 => ?_) (fun c30 => ?_)
                    · have b30 : v28.toInt = (0 : Int32).toInt := i_eq.mp c30
                      refine lv_iconst (v := 0) hx hb dX4_readAtom_77 (by decide) ?_
                      exact retE_z hQ C S28 hr dX4_readAtom_78 (z01 (by omega) (by omega)) (⟨⟨by omega, tk28⟩, Rs.no (by rw [atm_s]; simp [clo, tlF, y3, y17, y25, y28]) (by omega) wr28⟩)
                    · have b30 : ¬ v28.toInt = (0 : Int32).toInt := fun z9 => c30 (i_eq.mpr z9)
                      exact absurd b30 (by omega)
              · skip
                refine lv_if_eq (tgt := 77) hx hb dX4_readAtom_58 (by decide) (fun c31 => ?_) (fun c31 => ?_)
                · have b31 : v25.toInt = (0 : Int32).toInt := i_eq.mp c31
                  refine lv_iconst (v := 0) hx hb dX4_readAtom_77 (by decide) ?_
                  exact retE_z hQ C S25 hr dX4_readAtom_78 (z01 (by omega) (by omega)) (⟨⟨by omega, tk25⟩, Rs.no (by rw [atm_s]; simp [clo, tlF, y3, y17, y25]) (by omega) wr25⟩)
                · have b31 : ¬ v25.toInt = (0 : Int32).toInt := fun z9 => c31 (i_eq.mpr z9)
                  exact absurd b31 (by omega)
          · have b19 : ¬ x1.toInt < (6 : Int32).toInt := fun z9 => c19 (i_lt.mpr z9)
            exact absurd b19 (by omega)
      · skip
        refine lv_if_eq (tgt := 99) hx hb dX4_readAtom_23 (by decide) (fun c32 => ?_) (fun c32 => ?_)
        · have b32 : v17.toInt = (0 : Int32).toInt := i_eq.mp c32
          refine lv_aload_n hx hb dX4_readAtom_99 rfl (lv_at hl 1 rfl) ?_
          refine callV_Pi C S.1 S.2.1.2.1 (c_X4_presentTruth l D G a0 tp T b ga0) kV_X4_91 ga0 (⟨trivial, ⟨htp, ts0⟩⟩) dX4_readAtom_100 hl.1 rfl rfl (by decide) cd_X4_presentTruth ⟨Nat.le_of_ble_eq_true rfl, Nat.le_of_ble_eq_true rfl, Nat.le_of_ble_eq_true rfl, Nat.le_of_ble_eq_true rfl, Nat.le_of_ble_eq_true rfl⟩ (fun v33 q33 => ?_)
          obtain ⟨q33, fq33⟩ := q33
          refine lv_istore_n (lv' := [(3, .int v33), (2, .int v3), (0, .ref a0), (1, .int x1)]) hx hb dX4_readAtom_103 rfl hl (by decide) rfl (fun ls hl => ?_)
          refine lv_iload_n hx hb dX4_readAtom_104 rfl (lv_at hl 0 rfl) ?_
          refine lv_iconst (v := -1) hx hb dX4_readAtom_105 (by decide) ?_
          have k_m1 : (-1 : Int32).toInt = -1 := by decide
          refine lv_icmp_ne (tgt := 114) hx hb dX4_readAtom_106 (by decide) (fun c34 => ?_) (fun c34 => ?_)
          · have b34 : ¬ v33.toInt = (-1 : Int32).toInt := fun z9 => c34 (i_eq.mpr z9)
            have yt35 : ¬ tru T b = -1 := by omega
            refine lv_aload_n hx hb dX4_readAtom_114 rfl (lv_at hl 2 rfl) ?_
            refine lv_iload_n hx hb dX4_readAtom_115 rfl (lv_at hl 0 rfl) ?_
            refine callV_Ev C S (c_X4_put l D G a0 v33 ga0) kV_X4_55 ga0 (trivial) (by decide +kernel) dX4_readAtom_116 hl.1 rfl rfl (by decide) cd_X4_put ⟨Nat.le_of_ble_eq_true rfl, Nat.le_of_ble_eq_true rfl, Nat.le_of_ble_eq_true rfl, Nat.le_of_ble_eq_true rfl, Nat.le_of_ble_eq_true rfl⟩ (fun H36 L36 S36 K36 q36 => ?_)
            obtain ⟨qa36, qb36, tq36⟩ := q36
            have tk36 : Lw D s.heap H36 a0 := tk0.trans tq36
            have ts36 := ts0.keep S.1 gtp K36 (by decide +kernel)
            refine lv_aload_n hx hb dX4_readAtom_119 rfl (lv_at hl 2 rfl) ?_
            refine q_grS (T := TX4) C S36.1 ga0 0 kF_X4_39 dX4_readAtom_120 rfl rfl (by decide) rfl (by decide) kSF_X4_tape (fun g37 => ?_)
            rw [show fR D H36 4 a0 0 = tp from (S36.2.1.fR ga0 rfl (by decide) (by decide +kernel)).trans htp]
            refine callV_Ev C S36 (c_X9_next_f l D G tp T b gtp) kV_X4_47 gtp (⟨trivial, ts36⟩) (by decide +kernel) dX4_readAtom_123 hl.1 rfl rfl (by decide) cd_X9_next ⟨Nat.le_of_ble_eq_true rfl, Nat.le_of_ble_eq_true rfl, Nat.le_of_ble_eq_true rfl, Nat.le_of_ble_eq_true rfl, Nat.le_of_ble_eq_true rfl⟩ (fun H38 L38 S38 K38 q38 => ?_)
            obtain ⟨q38, fq38⟩ := q38
            have tk38 : Lw D s.heap H38 a0 := tk36.trans (Lw.keep S36.1 ga0 K38 (by decide +kernel) (by decide +kernel) (by decide +kernel))
            refine lv_iconst (v := 1) hx hb dX4_readAtom_126 (by decide) ?_
            have k_1 : (1 : Int32).toInt = 1 := by decide
            exact retE_z hQ C S38 hr dX4_readAtom_127 (z01 (by omega) (by omega)) (⟨⟨by omega, tk38⟩, Rs.ok (by rw [atm_s]; simp [clo, tlF, y3, y17, yt35]) (by omega) fq38⟩)
          · have b34 : v33.toInt = (-1 : Int32).toInt := i_eq.mp c34
            have yt39 : tru T b = -1 := by omega
            refine lv_aload_n hx hb dX4_readAtom_109 rfl (lv_at hl 2 rfl) ?_
            refine callV_Ei C S (c_X4_readComparison l D G a0 tp T b ga0) kV_X4_94 ga0 (⟨trivial, ⟨htp, ts0⟩⟩) (by decide +kernel) dX4_readAtom_110 hl.1 rfl rfl (by decide) cd_X4_readComparison ⟨Nat.le_of_ble_eq_true rfl, Nat.le_of_ble_eq_true rfl, Nat.le_of_ble_eq_true rfl, Nat.le_of_ble_eq_true rfl, Nat.le_of_ble_eq_true rfl⟩ (fun v40 H40 L40 S40 K40 q40 => ?_)
            obtain ⟨q40, fq40⟩ := q40
            obtain ⟨q40, tq40⟩ := q40
            have tk40 : Lw D s.heap H40 a0 := tk0.trans tq40
            rcases fq40 with ⟨c40, y40, z40, ts40⟩ | ⟨e40, y40, z40, wr40⟩
            · skip
              exact retE_z hQ C S40 hr dX4_readAtom_113 (z01 (by omega) (by omega)) (⟨⟨by omega, tk40⟩, Rs.ok (by rw [atm_s]; simp [clo, tlF, y3, y17, yt39, y40]) (by omega) ts40⟩)
            · skip
              exact retE_z hQ C S40 hr dX4_readAtom_113 (z01 (by omega) (by omega)) (⟨⟨by omega, tk40⟩, Rs.no (by rw [atm_s]; simp [clo, tlF, y3, y17, yt39, y40]) (by omega) wr40⟩)
        · have b32 : ¬ v17.toInt = (0 : Int32).toInt := fun z9 => c32 (i_eq.mpr z9)
          exact absurd b32 (by omega)

set_option maxRecDepth 100000 in
set_option maxHeartbeats 4000000 in
theorem c_X4_readCondition_d3 (l : Launch) (D : DD) (G : Nat → Nat) (a0 : Nat) (x1 : Int32) (tp : Nat) (T : Tx) (b : Nat) (ga0 : G a0 = 21) (ix1 : 3 ≤ x1.toInt ∧ x1.toInt ≤ 3) : CE l D G yX4_readCondition cX4_readCondition 5 (some .boolean) 14 [.ref a0, .int x1] (fun H => (True) ∧ (fR D H 4 a0 0 = tp ∧ TS D H tp T b)) [(2, 3), (2, 4), (2, 5), (2, 6), (2, 2), (22, 0), (21, 3)] (xI (fun H r H1 => ((0 ≤ r.toInt ∧ r.toInt ≤ 1) ∧ (Lw D H H1 a0)) ∧ (Rs D H1 tp T (conF T (atm T 3) b) r))) := by
  refine enter (by decide) (Nat.le_of_ble_eq_true rfl) ?_
  intro p e s m args below meth c ls Q hA hQ C hr hO hpre hl
  have hx := C.1
  have hb := C.2.1
  have S : Sd D G [(2, 3), (2, 4), (2, 5), (2, 6), (2, 2), (22, 0), (21, 3)] s.heap s.heap [] := Sd.start hO
  have hl : lv_has ls 5 [(0, .ref a0), (1, .int x1)] := hl
  obtain ⟨hpre, hf⟩ := hpre
  obtain ⟨htp, ts0⟩ := hf
  have gtp : G tp = 2 := by rw [← htp]; exact hO.rol ga0 rfl (by decide) rfl
  have hT : T.2 ≤ 400 := ts0.le hO gtp
  have tk0 : Lw D s.heap s.heap a0 := Lw.refl
  refine lv_iconst (v := 0) hx hb dX4_readCondition_0 (by decide) ?_
  refine lv_istore_n (lv' := [(2, .int (0 : Int32)), (0, .ref a0), (1, .int x1)]) hx hb dX4_readCondition_1 rfl hl (by decide) rfl (fun ls hl => ?_)
  refine lv_iconst (v := 0) hx hb dX4_readCondition_2 (by decide) ?_
  refine lv_istore_n (lv' := [(3, .int (0 : Int32)), (2, .int (0 : Int32)), (0, .ref a0), (1, .int x1)]) hx hb dX4_readCondition_3 rfl hl (by decide) rfl (fun ls hl => ?_)
  refine lv_iconst (v := 0) hx hb dX4_readCondition_4 (by decide) ?_
  refine lv_istore (lv' := [(4, .int (0 : Int32)), (3, .int (0 : Int32)), (2, .int (0 : Int32)), (0, .ref a0), (1, .int x1)]) hx hb dX4_readCondition_5 hl (by decide) rfl (fun ls hl => ?_)
  have Lp7 : ∀ (n : Nat) (x4_7 : Int32) (x3_7 : Int32) (x2_7 : Int32) (b_7 : Nat) (H_7 : Heap) (L_7 : List Loc) (ls : Array Slot), (Sd D G [(2, 3), (2, 4), (2, 5), (2, 6), (2, 2), (22, 0), (21, 3)] s.heap H_7 L_7) → (0 ≤ x4_7.toInt ∧ x4_7.toInt ≤ 400) → (0 ≤ x3_7.toInt ∧ x3_7.toInt ≤ 1) → (0 ≤ x2_7.toInt ∧ x2_7.toInt ≤ 1) → (TS D H_7 tp T b_7) → (conF T (atm T 3) b = conR T (atm T 3) (400 - x4_7.toInt.toNat) b_7) → (Lw D s.heap H_7 a0) → 401 - x4_7.toInt ≤ (n : Int) → lv_has ls 5 [(4, .int x4_7), (3, .int x3_7), (2, .int x2_7), (0, .ref a0), (1, .int x1)] → W p l e (rmU 14 0 0) s m args below meth c H_7 L_7 0 0 Q (F0 m 7 ls []) := by
    intro n
    induction n with
    | zero =>
      intro x4_7 x3_7 x2_7 b_7 H_7 L_7 ls S_7 j7_0 j7_1 j7_2 u7_0 u7_1 u7_2 hn hl
      exact absurd hn (by omega)
    | succ n ih7 =>
      intro x4_7 x3_7 x2_7 b_7 H_7 L_7 ls S_7 j7_0 j7_1 j7_2 u7_0 u7_1 u7_2 hn hl
      refine lv_iload hx hb dX4_readCondition_7 (lv_at hl 0 rfl) ?_
      refine lv_sipush (v := 400) hx hb dX4_readCondition_9 (by decide) ?_
      have k_400 : (400 : Int32).toInt = 400 := by decide
      refine lv_icmp_ge (tgt := 88) hx hb dX4_readCondition_12 (by decide) (fun c1 => ?_) (fun c1 => ?_)
      · have b1 : (400 : Int32).toInt ≤ x4_7.toInt := i_le.mp c1
        refine lv_aload_n hx hb dX4_readCondition_88 rfl (lv_at hl 3 rfl) ?_
        refine q_grS (T := TX4) C S_7.1 ga0 0 kF_X4_39 dX4_readCondition_89 rfl rfl (by decide) rfl (by decide) kSF_X4_tape (fun g2 => ?_)
        rw [show fR D H_7 4 a0 0 = tp from (S_7.2.1.fR ga0 rfl (by decide) (by decide +kernel)).trans htp]
        refine callV_Ei C S_7 (c_X9_refuse_f l D G tp T b_7 gtp) kV_X4_43 gtp (⟨trivial, u7_0⟩) (by decide +kernel) dX4_readCondition_92 hl.1 rfl rfl (by decide) cd_X9_refuse ⟨Nat.le_of_ble_eq_true rfl, Nat.le_of_ble_eq_true rfl, Nat.le_of_ble_eq_true rfl, Nat.le_of_ble_eq_true rfl, Nat.le_of_ble_eq_true rfl⟩ (fun v3 H3 L3 S3 K3 q3 => ?_)
        obtain ⟨q3, fq3⟩ := q3
        have tk3 : Lw D s.heap H3 a0 := u7_2.trans (Lw.keep S_7.1 ga0 K3 (by decide +kernel) (by decide +kernel) (by decide +kernel))
        have z3 := fq3.1
        exact retE_z hQ C S3 hr dX4_readCondition_95 (z01 (by omega) (by omega)) (⟨⟨by omega, tk3⟩, Rs.no (by rw [u7_1, show 400 - x4_7.toInt.toNat = 0 by omega]; rfl) (by omega) fq3.2⟩)
      · have b1 : ¬ (400 : Int32).toInt ≤ x4_7.toInt := fun z9 => c1 (i_le.mpr z9)
        refine lv_aload_n hx hb dX4_readCondition_15 rfl (lv_at hl 3 rfl) ?_
        refine lv_iload_n hx hb dX4_readCondition_16 rfl (lv_at hl 4 rfl) ?_
        refine callV_Ei C S_7 (c_X4_readAtom_d3 l D G a0 x1 tp T b_7 ga0 (by omega)) kV_X4_75 ga0 (⟨trivial, ⟨(S_7.2.1.fR ga0 rfl (by decide) (by decide +kernel)).trans htp, u7_0⟩⟩) (by decide +kernel) dX4_readCondition_17 hl.1 rfl rfl (by decide) cd_X4_readAtom ⟨Nat.le_of_ble_eq_true rfl, Nat.le_of_ble_eq_true rfl, Nat.le_of_ble_eq_true rfl, Nat.le_of_ble_eq_true rfl, Nat.le_of_ble_eq_true rfl⟩ (fun v4 H4 L4 S4 K4 q4 => ?_)
        obtain ⟨q4, fq4⟩ := q4
        obtain ⟨q4, tq4⟩ := q4
        have tk4 : Lw D s.heap H4 a0 := u7_2.trans tq4
        rcases fq4 with ⟨c4, y4, z4, ts4⟩ | ⟨e4, y4, z4, wr4⟩
        · skip
          have k_0 : (0 : Int32).toInt = 0 := by decide
          refine lv_if_ne (tgt := 25) hx hb dX4_readCondition_20 (by decide) (fun c5 => ?_) (fun c5 => ?_)
          · have b5 : ¬ v4.toInt = (0 : Int32).toInt := fun z9 => c5 (i_eq.mpr z9)
            refine lv_iload_n hx hb dX4_readCondition_25 rfl (lv_at hl 1 rfl) ?_
            refine lv_if_eq (tgt := 35) hx hb dX4_readCondition_26 (by decide) (fun c6 => ?_) (fun c6 => ?_)
            · have b6 : x3_7.toInt = (0 : Int32).toInt := i_eq.mp c6
              refine lv_aload_n hx hb dX4_readCondition_35 rfl (lv_at hl 3 rfl) ?_
              refine q_grS (T := TX4) C S4.1 ga0 0 kF_X4_39 dX4_readCondition_36 rfl rfl (by decide) rfl (by decide) kSF_X4_tape (fun g7 => ?_)
              rw [show fR D H4 4 a0 0 = tp from (S4.2.1.fR ga0 rfl (by decide) (by decide +kernel)).trans htp]
              refine q_lds C ks_X4_78 dX4_readCondition_39 (fun a8 ha8 wa8 => ?_)
              refine callV_Pi C S4.1 S4.2.1.2.1 (c_X9_isWord_f l D G tp a8 3 w_and T c4 gtp ha8 (Wc.of wa8 kw_and)) kV_X4_61 gtp (⟨trivial, ts4⟩) dX4_readCondition_41 hl.1 rfl rfl (by decide) cd_X9_isWord ⟨Nat.le_of_ble_eq_true rfl, Nat.le_of_ble_eq_true rfl, Nat.le_of_ble_eq_true rfl, Nat.le_of_ble_eq_true rfl, Nat.le_of_ble_eq_true rfl⟩ (fun v9 q9 => ?_)
              obtain ⟨q9, fq9⟩ := q9
              rcases fq9 with ⟨z9, y9⟩ | ⟨z9, y9⟩
              · skip
                refine lv_istore_n (lv' := [(3, .int v9), (4, .int x4_7), (2, .int x2_7), (0, .ref a0), (1, .int x1)]) hx hb dX4_readCondition_44 rfl hl (by decide) rfl (fun ls hl => ?_)
                refine lv_iload_n hx hb dX4_readCondition_45 rfl (lv_at hl 0 rfl) ?_
                refine lv_if_ne (tgt := 75) hx hb dX4_readCondition_46 (by decide) (fun c10 => ?_) (fun c10 => ?_)
                · have b10 : ¬ v9.toInt = (0 : Int32).toInt := fun z9 => c10 (i_eq.mpr z9)
                  refine lv_aload_n hx hb dX4_readCondition_75 rfl (lv_at hl 3 rfl) ?_
                  refine q_grS (T := TX4) C S4.1 ga0 0 kF_X4_39 dX4_readCondition_76 rfl rfl (by decide) rfl (by decide) kSF_X4_tape (fun g11 => ?_)
                  rw [show fR D H4 4 a0 0 = tp from (S4.2.1.fR ga0 rfl (by decide) (by decide +kernel)).trans htp]
                  refine callV_Ev C S4 (c_X9_next_f l D G tp T c4 gtp) kV_X4_47 gtp (⟨trivial, ts4⟩) (by decide +kernel) dX4_readCondition_79 hl.1 rfl rfl (by decide) cd_X9_next ⟨Nat.le_of_ble_eq_true rfl, Nat.le_of_ble_eq_true rfl, Nat.le_of_ble_eq_true rfl, Nat.le_of_ble_eq_true rfl, Nat.le_of_ble_eq_true rfl⟩ (fun H12 L12 S12 K12 q12 => ?_)
                  obtain ⟨q12, fq12⟩ := q12
                  have tk12 : Lw D s.heap H12 a0 := tk4.trans (Lw.keep S4.1 ga0 K12 (by decide +kernel) (by decide +kernel) (by decide +kernel))
                  obtain ⟨v13, ev13⟩ : ∃ y : Int32, y = x4_7 + (1) := ⟨_, rfl⟩
                  have k_1 : (1 : Int32).toInt = 1 := by decide
                  have f14 : v13.toInt = x4_7.toInt + (1) := by rw [ev13]; exact i_addc k_1 (by omega) (by omega)
                  refine lv_iinc (v := v13) (lv' := [(4, .int v13), (3, .int v9), (2, .int x2_7), (0, .ref a0), (1, .int x1)]) hx hb dX4_readCondition_82 hl (k := 1) rfl (by rw [ev13]; rfl) (by decide) rfl (fun ls hl => ?_)
                  refine lv_goto (tgt := 7) hx hb dX4_readCondition_85 (by decide) ?_
                  exact ih7 v13 v9 x2_7 (nx T c4) H12 L12 ls S12 (by omega) (by omega) (by omega) fq12 (by rw [u7_1]; exact conR_st (by omega) y4 (by simp [y4, y9])) tk12 (by omega) (lv_sub hl [0, 1, 2, 3, 4] rfl)
                · have b10 : v9.toInt = (0 : Int32).toInt := i_eq.mp c10
                  exact absurd b10 (by omega)
              · skip
                refine lv_istore_n (lv' := [(3, .int v9), (4, .int x4_7), (2, .int x2_7), (0, .ref a0), (1, .int x1)]) hx hb dX4_readCondition_44 rfl hl (by decide) rfl (fun ls hl => ?_)
                refine lv_iload_n hx hb dX4_readCondition_45 rfl (lv_at hl 0 rfl) ?_
                refine lv_if_ne (tgt := 75) hx hb dX4_readCondition_46 (by decide) (fun c15 => ?_) (fun c15 => ?_)
                · have b15 : ¬ v9.toInt = (0 : Int32).toInt := fun z9 => c15 (i_eq.mpr z9)
                  exact absurd b15 (by omega)
                · have b15 : v9.toInt = (0 : Int32).toInt := i_eq.mp c15
                  refine lv_iload_n hx hb dX4_readCondition_49 rfl (lv_at hl 2 rfl) ?_
                  refine lv_if_eq (tgt := 59) hx hb dX4_readCondition_50 (by decide) (fun c16 => ?_) (fun c16 => ?_)
                  · have b16 : x2_7.toInt = (0 : Int32).toInt := i_eq.mp c16
                    refine lv_aload_n hx hb dX4_readCondition_59 rfl (lv_at hl 3 rfl) ?_
                    refine q_grS (T := TX4) C S4.1 ga0 0 kF_X4_39 dX4_readCondition_60 rfl rfl (by decide) rfl (by decide) kSF_X4_tape (fun g17 => ?_)
                    rw [show fR D H4 4 a0 0 = tp from (S4.2.1.fR ga0 rfl (by decide) (by decide +kernel)).trans htp]
                    refine q_lds C ks_X4_80 dX4_readCondition_63 (fun a18 ha18 wa18 => ?_)
                    refine callV_Pi C S4.1 S4.2.1.2.1 (c_X9_isWord_f l D G tp a18 2 w_or T c4 gtp ha18 (Wc.of wa18 kw_or)) kV_X4_61 gtp (⟨trivial, ts4⟩) dX4_readCondition_65 hl.1 rfl rfl (by decide) cd_X9_isWord ⟨Nat.le_of_ble_eq_true rfl, Nat.le_of_ble_eq_true rfl, Nat.le_of_ble_eq_true rfl, Nat.le_of_ble_eq_true rfl, Nat.le_of_ble_eq_true rfl⟩ (fun v19 q19 => ?_)
                    obtain ⟨q19, fq19⟩ := q19
                    rcases fq19 with ⟨z19, y19⟩ | ⟨z19, y19⟩
                    · skip
                      refine lv_istore_n (lv' := [(2, .int v19), (3, .int v9), (4, .int x4_7), (0, .ref a0), (1, .int x1)]) hx hb dX4_readCondition_68 rfl hl (by decide) rfl (fun ls hl => ?_)
                      refine lv_iload_n hx hb dX4_readCondition_69 rfl (lv_at hl 0 rfl) ?_
                      refine lv_if_ne (tgt := 75) hx hb dX4_readCondition_70 (by decide) (fun c20 => ?_) (fun c20 => ?_)
                      · have b20 : ¬ v19.toInt = (0 : Int32).toInt := fun z9 => c20 (i_eq.mpr z9)
                        refine lv_aload_n hx hb dX4_readCondition_75 rfl (lv_at hl 3 rfl) ?_
                        refine q_grS (T := TX4) C S4.1 ga0 0 kF_X4_39 dX4_readCondition_76 rfl rfl (by decide) rfl (by decide) kSF_X4_tape (fun g21 => ?_)
                        rw [show fR D H4 4 a0 0 = tp from (S4.2.1.fR ga0 rfl (by decide) (by decide +kernel)).trans htp]
                        refine callV_Ev C S4 (c_X9_next_f l D G tp T c4 gtp) kV_X4_47 gtp (⟨trivial, ts4⟩) (by decide +kernel) dX4_readCondition_79 hl.1 rfl rfl (by decide) cd_X9_next ⟨Nat.le_of_ble_eq_true rfl, Nat.le_of_ble_eq_true rfl, Nat.le_of_ble_eq_true rfl, Nat.le_of_ble_eq_true rfl, Nat.le_of_ble_eq_true rfl⟩ (fun H22 L22 S22 K22 q22 => ?_)
                        obtain ⟨q22, fq22⟩ := q22
                        have tk22 : Lw D s.heap H22 a0 := tk4.trans (Lw.keep S4.1 ga0 K22 (by decide +kernel) (by decide +kernel) (by decide +kernel))
                        obtain ⟨v23, ev23⟩ : ∃ y : Int32, y = x4_7 + (1) := ⟨_, rfl⟩
                        have k_1 : (1 : Int32).toInt = 1 := by decide
                        have f24 : v23.toInt = x4_7.toInt + (1) := by rw [ev23]; exact i_addc k_1 (by omega) (by omega)
                        refine lv_iinc (v := v23) (lv' := [(4, .int v23), (2, .int v19), (3, .int v9), (0, .ref a0), (1, .int x1)]) hx hb dX4_readCondition_82 hl (k := 2) rfl (by rw [ev23]; rfl) (by decide) rfl (fun ls hl => ?_)
                        refine lv_goto (tgt := 7) hx hb dX4_readCondition_85 (by decide) ?_
                        exact ih7 v23 v9 v19 (nx T c4) H22 L22 ls S22 (by omega) (by omega) (by omega) fq22 (by rw [u7_1]; exact conR_st (by omega) y4 (by simp [y4, y9, y19])) tk22 (by omega) (lv_sub hl [0, 2, 1, 3, 4] rfl)
                      · have b20 : v19.toInt = (0 : Int32).toInt := i_eq.mp c20
                        exact absurd b20 (by omega)
                    · skip
                      refine lv_istore_n (lv' := [(2, .int v19), (3, .int v9), (4, .int x4_7), (0, .ref a0), (1, .int x1)]) hx hb dX4_readCondition_68 rfl hl (by decide) rfl (fun ls hl => ?_)
                      refine lv_iload_n hx hb dX4_readCondition_69 rfl (lv_at hl 0 rfl) ?_
                      refine lv_if_ne (tgt := 75) hx hb dX4_readCondition_70 (by decide) (fun c25 => ?_) (fun c25 => ?_)
                      · have b25 : ¬ v19.toInt = (0 : Int32).toInt := fun z9 => c25 (i_eq.mpr z9)
                        exact absurd b25 (by omega)
                      · have b25 : v19.toInt = (0 : Int32).toInt := i_eq.mp c25
                        refine lv_iconst (v := 1) hx hb dX4_readCondition_73 (by decide) ?_
                        have k_1 : (1 : Int32).toInt = 1 := by decide
                        exact retE_z hQ C S4 hr dX4_readCondition_74 (z01 (by omega) (by omega)) (⟨⟨by omega, tk4⟩, Rs.ok (by rw [u7_1]; exact conR_ok (by omega) y4 (by simp [y4, y9, y19]) (by simp [y4, y9, y19])) (by omega) ts4⟩)
                  · have b16 : ¬ x2_7.toInt = (0 : Int32).toInt := fun z9 => c16 (i_eq.mpr z9)
                    refine lv_aload_n hx hb dX4_readCondition_53 rfl (lv_at hl 3 rfl) ?_
                    refine lv_bipush (v := -18) hx hb dX4_readCondition_54 (by decide) ?_
                    have k_m18 : (-18 : Int32).toInt = -18 := by decide
                    refine callV_Ev C S4 (c_X4_put l D G a0 (-18 : Int32) ga0) kV_X4_55 ga0 (trivial) (by decide +kernel) dX4_readCondition_56 hl.1 rfl rfl (by decide) cd_X4_put ⟨Nat.le_of_ble_eq_true rfl, Nat.le_of_ble_eq_true rfl, Nat.le_of_ble_eq_true rfl, Nat.le_of_ble_eq_true rfl, Nat.le_of_ble_eq_true rfl⟩ (fun H26 L26 S26 K26 q26 => ?_)
                    obtain ⟨qa26, qb26, tq26⟩ := q26
                    have tk26 : Lw D s.heap H26 a0 := tk4.trans tq26
                    have ts26 := ts4.keep S4.1 gtp K26 (by decide +kernel)
                    refine lv_aload_n hx hb dX4_readCondition_59 rfl (lv_at hl 3 rfl) ?_
                    refine q_grS (T := TX4) C S26.1 ga0 0 kF_X4_39 dX4_readCondition_60 rfl rfl (by decide) rfl (by decide) kSF_X4_tape (fun g27 => ?_)
                    rw [show fR D H26 4 a0 0 = tp from (S26.2.1.fR ga0 rfl (by decide) (by decide +kernel)).trans htp]
                    refine q_lds C ks_X4_80 dX4_readCondition_63 (fun a28 ha28 wa28 => ?_)
                    refine callV_Pi C S26.1 S26.2.1.2.1 (c_X9_isWord_f l D G tp a28 2 w_or T c4 gtp ha28 (Wc.of wa28 kw_or)) kV_X4_61 gtp (⟨trivial, ts26⟩) dX4_readCondition_65 hl.1 rfl rfl (by decide) cd_X9_isWord ⟨Nat.le_of_ble_eq_true rfl, Nat.le_of_ble_eq_true rfl, Nat.le_of_ble_eq_true rfl, Nat.le_of_ble_eq_true rfl, Nat.le_of_ble_eq_true rfl⟩ (fun v29 q29 => ?_)
                    obtain ⟨q29, fq29⟩ := q29
                    rcases fq29 with ⟨z29, y29⟩ | ⟨z29, y29⟩
                    · skip
                      refine lv_istore_n (lv' := [(2, .int v29), (3, .int v9), (4, .int x4_7), (0, .ref a0), (1, .int x1)]) hx hb dX4_readCondition_68 rfl hl (by decide) rfl (fun ls hl => ?_)
                      refine lv_iload_n hx hb dX4_readCondition_69 rfl (lv_at hl 0 rfl) ?_
                      refine lv_if_ne (tgt := 75) hx hb dX4_readCondition_70 (by decide) (fun c30 => ?_) (fun c30 => ?_)
                      · have b30 : ¬ v29.toInt = (0 : Int32).toInt := fun z9 => c30 (i_eq.mpr z9)
                        refine lv_aload_n hx hb dX4_readCondition_75 rfl (lv_at hl 3 rfl) ?_
                        refine q_grS (T := TX4) C S26.1 ga0 0 kF_X4_39 dX4_readCondition_76 rfl rfl (by decide) rfl (by decide) kSF_X4_tape (fun g31 => ?_)
                        rw [show fR D H26 4 a0 0 = tp from (S26.2.1.fR ga0 rfl (by decide) (by decide +kernel)).trans htp]
                        refine callV_Ev C S26 (c_X9_next_f l D G tp T c4 gtp) kV_X4_47 gtp (⟨trivial, ts26⟩) (by decide +kernel) dX4_readCondition_79 hl.1 rfl rfl (by decide) cd_X9_next ⟨Nat.le_of_ble_eq_true rfl, Nat.le_of_ble_eq_true rfl, Nat.le_of_ble_eq_true rfl, Nat.le_of_ble_eq_true rfl, Nat.le_of_ble_eq_true rfl⟩ (fun H32 L32 S32 K32 q32 => ?_)
                        obtain ⟨q32, fq32⟩ := q32
                        have tk32 : Lw D s.heap H32 a0 := tk26.trans (Lw.keep S26.1 ga0 K32 (by decide +kernel) (by decide +kernel) (by decide +kernel))
                        obtain ⟨v33, ev33⟩ : ∃ y : Int32, y = x4_7 + (1) := ⟨_, rfl⟩
                        have k_1 : (1 : Int32).toInt = 1 := by decide
                        have f34 : v33.toInt = x4_7.toInt + (1) := by rw [ev33]; exact i_addc k_1 (by omega) (by omega)
                        refine lv_iinc (v := v33) (lv' := [(4, .int v33), (2, .int v29), (3, .int v9), (0, .ref a0), (1, .int x1)]) hx hb dX4_readCondition_82 hl (k := 2) rfl (by rw [ev33]; rfl) (by decide) rfl (fun ls hl => ?_)
                        refine lv_goto (tgt := 7) hx hb dX4_readCondition_85 (by decide) ?_
                        exact ih7 v33 v9 v29 (nx T c4) H32 L32 ls S32 (by omega) (by omega) (by omega) fq32 (by rw [u7_1]; exact conR_st (by omega) y4 (by simp [y4, y9, y29])) tk32 (by omega) (lv_sub hl [0, 2, 1, 3, 4] rfl)
                      · have b30 : v29.toInt = (0 : Int32).toInt := i_eq.mp c30
                        exact absurd b30 (by omega)
                    · skip
                      refine lv_istore_n (lv' := [(2, .int v29), (3, .int v9), (4, .int x4_7), (0, .ref a0), (1, .int x1)]) hx hb dX4_readCondition_68 rfl hl (by decide) rfl (fun ls hl => ?_)
                      refine lv_iload_n hx hb dX4_readCondition_69 rfl (lv_at hl 0 rfl) ?_
                      refine lv_if_ne (tgt := 75) hx hb dX4_readCondition_70 (by decide) (fun c35 => ?_) (fun c35 => ?_)
                      · have b35 : ¬ v29.toInt = (0 : Int32).toInt := fun z9 => c35 (i_eq.mpr z9)
                        exact absurd b35 (by omega)
                      · have b35 : v29.toInt = (0 : Int32).toInt := i_eq.mp c35
                        refine lv_iconst (v := 1) hx hb dX4_readCondition_73 (by decide) ?_
                        have k_1 : (1 : Int32).toInt = 1 := by decide
                        exact retE_z hQ C S26 hr dX4_readCondition_74 (z01 (by omega) (by omega)) (⟨⟨by omega, tk26⟩, Rs.ok (by rw [u7_1]; exact conR_ok (by omega) y4 (by simp [y4, y9, y29]) (by simp [y4, y9, y29])) (by omega) ts26⟩)
            · have b6 : ¬ x3_7.toInt = (0 : Int32).toInt := fun z9 => c6 (i_eq.mpr z9)
              refine lv_aload_n hx hb dX4_readCondition_29 rfl (lv_at hl 3 rfl) ?_
              refine lv_bipush (v := -17) hx hb dX4_readCondition_30 (by decide) ?_
              have k_m17 : (-17 : Int32).toInt = -17 := by decide
              refine callV_Ev C S4 (c_X4_put l D G a0 (-17 : Int32) ga0) kV_X4_55 ga0 (trivial) (by decide +kernel) dX4_readCondition_32 hl.1 rfl rfl (by decide) cd_X4_put ⟨Nat.le_of_ble_eq_true rfl, Nat.le_of_ble_eq_true rfl, Nat.le_of_ble_eq_true rfl, Nat.le_of_ble_eq_true rfl, Nat.le_of_ble_eq_true rfl⟩ (fun H36 L36 S36 K36 q36 => ?_)
              obtain ⟨qa36, qb36, tq36⟩ := q36
              have tk36 : Lw D s.heap H36 a0 := tk4.trans tq36
              have ts36 := ts4.keep S4.1 gtp K36 (by decide +kernel)
              refine lv_aload_n hx hb dX4_readCondition_35 rfl (lv_at hl 3 rfl) ?_
              refine q_grS (T := TX4) C S36.1 ga0 0 kF_X4_39 dX4_readCondition_36 rfl rfl (by decide) rfl (by decide) kSF_X4_tape (fun g37 => ?_)
              rw [show fR D H36 4 a0 0 = tp from (S36.2.1.fR ga0 rfl (by decide) (by decide +kernel)).trans htp]
              refine q_lds C ks_X4_78 dX4_readCondition_39 (fun a38 ha38 wa38 => ?_)
              refine callV_Pi C S36.1 S36.2.1.2.1 (c_X9_isWord_f l D G tp a38 3 w_and T c4 gtp ha38 (Wc.of wa38 kw_and)) kV_X4_61 gtp (⟨trivial, ts36⟩) dX4_readCondition_41 hl.1 rfl rfl (by decide) cd_X9_isWord ⟨Nat.le_of_ble_eq_true rfl, Nat.le_of_ble_eq_true rfl, Nat.le_of_ble_eq_true rfl, Nat.le_of_ble_eq_true rfl, Nat.le_of_ble_eq_true rfl⟩ (fun v39 q39 => ?_)
              obtain ⟨q39, fq39⟩ := q39
              rcases fq39 with ⟨z39, y39⟩ | ⟨z39, y39⟩
              · skip
                refine lv_istore_n (lv' := [(3, .int v39), (4, .int x4_7), (2, .int x2_7), (0, .ref a0), (1, .int x1)]) hx hb dX4_readCondition_44 rfl hl (by decide) rfl (fun ls hl => ?_)
                refine lv_iload_n hx hb dX4_readCondition_45 rfl (lv_at hl 0 rfl) ?_
                refine lv_if_ne (tgt := 75) hx hb dX4_readCondition_46 (by decide) (fun c40 => ?_) (fun c40 => ?_)
                · have b40 : ¬ v39.toInt = (0 : Int32).toInt := fun z9 => c40 (i_eq.mpr z9)
                  refine lv_aload_n hx hb dX4_readCondition_75 rfl (lv_at hl 3 rfl) ?_
                  refine q_grS (T := TX4) C S36.1 ga0 0 kF_X4_39 dX4_readCondition_76 rfl rfl (by decide) rfl (by decide) kSF_X4_tape (fun g41 => ?_)
                  rw [show fR D H36 4 a0 0 = tp from (S36.2.1.fR ga0 rfl (by decide) (by decide +kernel)).trans htp]
                  refine callV_Ev C S36 (c_X9_next_f l D G tp T c4 gtp) kV_X4_47 gtp (⟨trivial, ts36⟩) (by decide +kernel) dX4_readCondition_79 hl.1 rfl rfl (by decide) cd_X9_next ⟨Nat.le_of_ble_eq_true rfl, Nat.le_of_ble_eq_true rfl, Nat.le_of_ble_eq_true rfl, Nat.le_of_ble_eq_true rfl, Nat.le_of_ble_eq_true rfl⟩ (fun H42 L42 S42 K42 q42 => ?_)
                  obtain ⟨q42, fq42⟩ := q42
                  have tk42 : Lw D s.heap H42 a0 := tk36.trans (Lw.keep S36.1 ga0 K42 (by decide +kernel) (by decide +kernel) (by decide +kernel))
                  obtain ⟨v43, ev43⟩ : ∃ y : Int32, y = x4_7 + (1) := ⟨_, rfl⟩
                  have k_1 : (1 : Int32).toInt = 1 := by decide
                  have f44 : v43.toInt = x4_7.toInt + (1) := by rw [ev43]; exact i_addc k_1 (by omega) (by omega)
                  refine lv_iinc (v := v43) (lv' := [(4, .int v43), (3, .int v39), (2, .int x2_7), (0, .ref a0), (1, .int x1)]) hx hb dX4_readCondition_82 hl (k := 1) rfl (by rw [ev43]; rfl) (by decide) rfl (fun ls hl => ?_)
                  refine lv_goto (tgt := 7) hx hb dX4_readCondition_85 (by decide) ?_
                  exact ih7 v43 v39 x2_7 (nx T c4) H42 L42 ls S42 (by omega) (by omega) (by omega) fq42 (by rw [u7_1]; exact conR_st (by omega) y4 (by simp [y4, y39])) tk42 (by omega) (lv_sub hl [0, 1, 2, 3, 4] rfl)
                · have b40 : v39.toInt = (0 : Int32).toInt := i_eq.mp c40
                  exact absurd b40 (by omega)
              · skip
                refine lv_istore_n (lv' := [(3, .int v39), (4, .int x4_7), (2, .int x2_7), (0, .ref a0), (1, .int x1)]) hx hb dX4_readCondition_44 rfl hl (by decide) rfl (fun ls hl => ?_)
                refine lv_iload_n hx hb dX4_readCondition_45 rfl (lv_at hl 0 rfl) ?_
                refine lv_if_ne (tgt := 75) hx hb dX4_readCondition_46 (by decide) (fun c45 => ?_) (fun c45 => ?_)
                · have b45 : ¬ v39.toInt = (0 : Int32).toInt := fun z9 => c45 (i_eq.mpr z9)
                  exact absurd b45 (by omega)
                · have b45 : v39.toInt = (0 : Int32).toInt := i_eq.mp c45
                  refine lv_iload_n hx hb dX4_readCondition_49 rfl (lv_at hl 2 rfl) ?_
                  refine lv_if_eq (tgt := 59) hx hb dX4_readCondition_50 (by decide) (fun c46 => ?_) (fun c46 => ?_)
                  · have b46 : x2_7.toInt = (0 : Int32).toInt := i_eq.mp c46
                    refine lv_aload_n hx hb dX4_readCondition_59 rfl (lv_at hl 3 rfl) ?_
                    refine q_grS (T := TX4) C S36.1 ga0 0 kF_X4_39 dX4_readCondition_60 rfl rfl (by decide) rfl (by decide) kSF_X4_tape (fun g47 => ?_)
                    rw [show fR D H36 4 a0 0 = tp from (S36.2.1.fR ga0 rfl (by decide) (by decide +kernel)).trans htp]
                    refine q_lds C ks_X4_80 dX4_readCondition_63 (fun a48 ha48 wa48 => ?_)
                    refine callV_Pi C S36.1 S36.2.1.2.1 (c_X9_isWord_f l D G tp a48 2 w_or T c4 gtp ha48 (Wc.of wa48 kw_or)) kV_X4_61 gtp (⟨trivial, ts36⟩) dX4_readCondition_65 hl.1 rfl rfl (by decide) cd_X9_isWord ⟨Nat.le_of_ble_eq_true rfl, Nat.le_of_ble_eq_true rfl, Nat.le_of_ble_eq_true rfl, Nat.le_of_ble_eq_true rfl, Nat.le_of_ble_eq_true rfl⟩ (fun v49 q49 => ?_)
                    obtain ⟨q49, fq49⟩ := q49
                    rcases fq49 with ⟨z49, y49⟩ | ⟨z49, y49⟩
                    · skip
                      refine lv_istore_n (lv' := [(2, .int v49), (3, .int v39), (4, .int x4_7), (0, .ref a0), (1, .int x1)]) hx hb dX4_readCondition_68 rfl hl (by decide) rfl (fun ls hl => ?_)
                      refine lv_iload_n hx hb dX4_readCondition_69 rfl (lv_at hl 0 rfl) ?_
                      refine lv_if_ne (tgt := 75) hx hb dX4_readCondition_70 (by decide) (fun c50 => ?_) (fun c50 => ?_)
                      · have b50 : ¬ v49.toInt = (0 : Int32).toInt := fun z9 => c50 (i_eq.mpr z9)
                        refine lv_aload_n hx hb dX4_readCondition_75 rfl (lv_at hl 3 rfl) ?_
                        refine q_grS (T := TX4) C S36.1 ga0 0 kF_X4_39 dX4_readCondition_76 rfl rfl (by decide) rfl (by decide) kSF_X4_tape (fun g51 => ?_)
                        rw [show fR D H36 4 a0 0 = tp from (S36.2.1.fR ga0 rfl (by decide) (by decide +kernel)).trans htp]
                        refine callV_Ev C S36 (c_X9_next_f l D G tp T c4 gtp) kV_X4_47 gtp (⟨trivial, ts36⟩) (by decide +kernel) dX4_readCondition_79 hl.1 rfl rfl (by decide) cd_X9_next ⟨Nat.le_of_ble_eq_true rfl, Nat.le_of_ble_eq_true rfl, Nat.le_of_ble_eq_true rfl, Nat.le_of_ble_eq_true rfl, Nat.le_of_ble_eq_true rfl⟩ (fun H52 L52 S52 K52 q52 => ?_)
                        obtain ⟨q52, fq52⟩ := q52
                        have tk52 : Lw D s.heap H52 a0 := tk36.trans (Lw.keep S36.1 ga0 K52 (by decide +kernel) (by decide +kernel) (by decide +kernel))
                        obtain ⟨v53, ev53⟩ : ∃ y : Int32, y = x4_7 + (1) := ⟨_, rfl⟩
                        have k_1 : (1 : Int32).toInt = 1 := by decide
                        have f54 : v53.toInt = x4_7.toInt + (1) := by rw [ev53]; exact i_addc k_1 (by omega) (by omega)
                        refine lv_iinc (v := v53) (lv' := [(4, .int v53), (2, .int v49), (3, .int v39), (0, .ref a0), (1, .int x1)]) hx hb dX4_readCondition_82 hl (k := 2) rfl (by rw [ev53]; rfl) (by decide) rfl (fun ls hl => ?_)
                        refine lv_goto (tgt := 7) hx hb dX4_readCondition_85 (by decide) ?_
                        exact ih7 v53 v39 v49 (nx T c4) H52 L52 ls S52 (by omega) (by omega) (by omega) fq52 (by rw [u7_1]; exact conR_st (by omega) y4 (by simp [y4, y39, y49])) tk52 (by omega) (lv_sub hl [0, 2, 1, 3, 4] rfl)
                      · have b50 : v49.toInt = (0 : Int32).toInt := i_eq.mp c50
                        exact absurd b50 (by omega)
                    · skip
                      refine lv_istore_n (lv' := [(2, .int v49), (3, .int v39), (4, .int x4_7), (0, .ref a0), (1, .int x1)]) hx hb dX4_readCondition_68 rfl hl (by decide) rfl (fun ls hl => ?_)
                      refine lv_iload_n hx hb dX4_readCondition_69 rfl (lv_at hl 0 rfl) ?_
                      refine lv_if_ne (tgt := 75) hx hb dX4_readCondition_70 (by decide) (fun c55 => ?_) (fun c55 => ?_)
                      · have b55 : ¬ v49.toInt = (0 : Int32).toInt := fun z9 => c55 (i_eq.mpr z9)
                        exact absurd b55 (by omega)
                      · have b55 : v49.toInt = (0 : Int32).toInt := i_eq.mp c55
                        refine lv_iconst (v := 1) hx hb dX4_readCondition_73 (by decide) ?_
                        have k_1 : (1 : Int32).toInt = 1 := by decide
                        exact retE_z hQ C S36 hr dX4_readCondition_74 (z01 (by omega) (by omega)) (⟨⟨by omega, tk36⟩, Rs.ok (by rw [u7_1]; exact conR_ok (by omega) y4 (by simp [y4, y39, y49]) (by simp [y4, y39, y49])) (by omega) ts36⟩)
                  · have b46 : ¬ x2_7.toInt = (0 : Int32).toInt := fun z9 => c46 (i_eq.mpr z9)
                    refine lv_aload_n hx hb dX4_readCondition_53 rfl (lv_at hl 3 rfl) ?_
                    refine lv_bipush (v := -18) hx hb dX4_readCondition_54 (by decide) ?_
                    have k_m18 : (-18 : Int32).toInt = -18 := by decide
                    refine callV_Ev C S36 (c_X4_put l D G a0 (-18 : Int32) ga0) kV_X4_55 ga0 (trivial) (by decide +kernel) dX4_readCondition_56 hl.1 rfl rfl (by decide) cd_X4_put ⟨Nat.le_of_ble_eq_true rfl, Nat.le_of_ble_eq_true rfl, Nat.le_of_ble_eq_true rfl, Nat.le_of_ble_eq_true rfl, Nat.le_of_ble_eq_true rfl⟩ (fun H56 L56 S56 K56 q56 => ?_)
                    obtain ⟨qa56, qb56, tq56⟩ := q56
                    have tk56 : Lw D s.heap H56 a0 := tk36.trans tq56
                    have ts56 := ts36.keep S36.1 gtp K56 (by decide +kernel)
                    refine lv_aload_n hx hb dX4_readCondition_59 rfl (lv_at hl 3 rfl) ?_
                    refine q_grS (T := TX4) C S56.1 ga0 0 kF_X4_39 dX4_readCondition_60 rfl rfl (by decide) rfl (by decide) kSF_X4_tape (fun g57 => ?_)
                    rw [show fR D H56 4 a0 0 = tp from (S56.2.1.fR ga0 rfl (by decide) (by decide +kernel)).trans htp]
                    refine q_lds C ks_X4_80 dX4_readCondition_63 (fun a58 ha58 wa58 => ?_)
                    refine callV_Pi C S56.1 S56.2.1.2.1 (c_X9_isWord_f l D G tp a58 2 w_or T c4 gtp ha58 (Wc.of wa58 kw_or)) kV_X4_61 gtp (⟨trivial, ts56⟩) dX4_readCondition_65 hl.1 rfl rfl (by decide) cd_X9_isWord ⟨Nat.le_of_ble_eq_true rfl, Nat.le_of_ble_eq_true rfl, Nat.le_of_ble_eq_true rfl, Nat.le_of_ble_eq_true rfl, Nat.le_of_ble_eq_true rfl⟩ (fun v59 q59 => ?_)
                    obtain ⟨q59, fq59⟩ := q59
                    rcases fq59 with ⟨z59, y59⟩ | ⟨z59, y59⟩
                    · skip
                      refine lv_istore_n (lv' := [(2, .int v59), (3, .int v39), (4, .int x4_7), (0, .ref a0), (1, .int x1)]) hx hb dX4_readCondition_68 rfl hl (by decide) rfl (fun ls hl => ?_)
                      refine lv_iload_n hx hb dX4_readCondition_69 rfl (lv_at hl 0 rfl) ?_
                      refine lv_if_ne (tgt := 75) hx hb dX4_readCondition_70 (by decide) (fun c60 => ?_) (fun c60 => ?_)
                      · have b60 : ¬ v59.toInt = (0 : Int32).toInt := fun z9 => c60 (i_eq.mpr z9)
                        refine lv_aload_n hx hb dX4_readCondition_75 rfl (lv_at hl 3 rfl) ?_
                        refine q_grS (T := TX4) C S56.1 ga0 0 kF_X4_39 dX4_readCondition_76 rfl rfl (by decide) rfl (by decide) kSF_X4_tape (fun g61 => ?_)
                        rw [show fR D H56 4 a0 0 = tp from (S56.2.1.fR ga0 rfl (by decide) (by decide +kernel)).trans htp]
                        refine callV_Ev C S56 (c_X9_next_f l D G tp T c4 gtp) kV_X4_47 gtp (⟨trivial, ts56⟩) (by decide +kernel) dX4_readCondition_79 hl.1 rfl rfl (by decide) cd_X9_next ⟨Nat.le_of_ble_eq_true rfl, Nat.le_of_ble_eq_true rfl, Nat.le_of_ble_eq_true rfl, Nat.le_of_ble_eq_true rfl, Nat.le_of_ble_eq_true rfl⟩ (fun H62 L62 S62 K62 q62 => ?_)
                        obtain ⟨q62, fq62⟩ := q62
                        have tk62 : Lw D s.heap H62 a0 := tk56.trans (Lw.keep S56.1 ga0 K62 (by decide +kernel) (by decide +kernel) (by decide +kernel))
                        obtain ⟨v63, ev63⟩ : ∃ y : Int32, y = x4_7 + (1) := ⟨_, rfl⟩
                        have k_1 : (1 : Int32).toInt = 1 := by decide
                        have f64 : v63.toInt = x4_7.toInt + (1) := by rw [ev63]; exact i_addc k_1 (by omega) (by omega)
                        refine lv_iinc (v := v63) (lv' := [(4, .int v63), (2, .int v59), (3, .int v39), (0, .ref a0), (1, .int x1)]) hx hb dX4_readCondition_82 hl (k := 2) rfl (by rw [ev63]; rfl) (by decide) rfl (fun ls hl => ?_)
                        refine lv_goto (tgt := 7) hx hb dX4_readCondition_85 (by decide) ?_
                        exact ih7 v63 v39 v59 (nx T c4) H62 L62 ls S62 (by omega) (by omega) (by omega) fq62 (by rw [u7_1]; exact conR_st (by omega) y4 (by simp [y4, y39, y59])) tk62 (by omega) (lv_sub hl [0, 2, 1, 3, 4] rfl)
                      · have b60 : v59.toInt = (0 : Int32).toInt := i_eq.mp c60
                        exact absurd b60 (by omega)
                    · skip
                      refine lv_istore_n (lv' := [(2, .int v59), (3, .int v39), (4, .int x4_7), (0, .ref a0), (1, .int x1)]) hx hb dX4_readCondition_68 rfl hl (by decide) rfl (fun ls hl => ?_)
                      refine lv_iload_n hx hb dX4_readCondition_69 rfl (lv_at hl 0 rfl) ?_
                      refine lv_if_ne (tgt := 75) hx hb dX4_readCondition_70 (by decide) (fun c65 => ?_) (fun c65 => ?_)
                      · have b65 : ¬ v59.toInt = (0 : Int32).toInt := fun z9 => c65 (i_eq.mpr z9)
                        exact absurd b65 (by omega)
                      · have b65 : v59.toInt = (0 : Int32).toInt := i_eq.mp c65
                        refine lv_iconst (v := 1) hx hb dX4_readCondition_73 (by decide) ?_
                        have k_1 : (1 : Int32).toInt = 1 := by decide
                        exact retE_z hQ C S56 hr dX4_readCondition_74 (z01 (by omega) (by omega)) (⟨⟨by omega, tk56⟩, Rs.ok (by rw [u7_1]; exact conR_ok (by omega) y4 (by simp [y4, y39, y59]) (by simp [y4, y39, y59])) (by omega) ts56⟩)
          · have b5 : v4.toInt = (0 : Int32).toInt := i_eq.mp c5
            exact absurd b5 (by omega)
        · skip
          have k_0 : (0 : Int32).toInt = 0 := by decide
          refine lv_if_ne (tgt := 25) hx hb dX4_readCondition_20 (by decide) (fun c66 => ?_) (fun c66 => ?_)
          · have b66 : ¬ v4.toInt = (0 : Int32).toInt := fun z9 => c66 (i_eq.mpr z9)
            exact absurd b66 (by omega)
          · have b66 : v4.toInt = (0 : Int32).toInt := i_eq.mp c66
            refine lv_iconst (v := 0) hx hb dX4_readCondition_23 (by decide) ?_
            exact retE_z hQ C S4 hr dX4_readCondition_24 (z01 (by omega) (by omega)) (⟨⟨by omega, tk4⟩, Rs.no (by rw [u7_1]; exact conR_no (by omega) y4) (by omega) wr4⟩)
  have k_0 : (0 : Int32).toInt = 0 := by decide
  exact Lp7 401 (0 : Int32) (0 : Int32) (0 : Int32) b s.heap [] ls S (by omega) (by omega) (by omega) ts0 (congrArg (fun n9 => conR T (atm T 3) n9 b) (show 400 = 400 - (0 : Int32).toInt.toNat by decide)) tk0  (by omega) (lv_sub hl [0, 1, 2, 3, 4] rfl)

set_option maxRecDepth 100000 in
set_option maxHeartbeats 4000000 in
theorem c_X4_readAtom_d2 (l : Launch) (D : DD) (G : Nat → Nat) (a0 : Nat) (x1 : Int32) (tp : Nat) (T : Tx) (b : Nat) (ga0 : G a0 = 21) (ix1 : 2 ≤ x1.toInt ∧ x1.toInt ≤ 2) : CE l D G yX4_readAtom cX4_readAtom 4 (some .boolean) 15 [.ref a0, .int x1] (fun H => (True) ∧ (fR D H 4 a0 0 = tp ∧ TS D H tp T b)) [(2, 3), (2, 4), (2, 5), (2, 6), (2, 2), (22, 0), (21, 3)] (xI (fun H r H1 => ((0 ≤ r.toInt ∧ r.toInt ≤ 1) ∧ (Lw D H H1 a0)) ∧ (Rs D H1 tp T (atm T 4 b) r))) := by
  refine enter (by decide) (Nat.le_of_ble_eq_true rfl) ?_
  intro p e s m args below meth c ls Q hA hQ C hr hO hpre hl
  have hx := C.1
  have hb := C.2.1
  have S : Sd D G [(2, 3), (2, 4), (2, 5), (2, 6), (2, 2), (22, 0), (21, 3)] s.heap s.heap [] := Sd.start hO
  have hl : lv_has ls 4 [(0, .ref a0), (1, .int x1)] := hl
  obtain ⟨hpre, hf⟩ := hpre
  obtain ⟨htp, ts0⟩ := hf
  have gtp : G tp = 2 := by rw [← htp]; exact hO.rol ga0 rfl (by decide) rfl
  have hT : T.2 ≤ 400 := ts0.le hO gtp
  have tk0 : Lw D s.heap s.heap a0 := Lw.refl
  refine lv_aload_n hx hb dX4_readAtom_0 rfl (lv_at hl 0 rfl) ?_
  refine q_grS (T := TX4) C S.1 ga0 0 kF_X4_39 dX4_readAtom_1 rfl rfl (by decide) rfl (by decide) kSF_X4_tape (fun g1 => ?_)
  rw [show fR D s.heap 4 a0 0 = tp from htp]
  refine q_lds C ks_X4_82 dX4_readAtom_4 (fun a2 ha2 wa2 => ?_)
  refine callV_Pi C S.1 S.2.1.2.1 (c_X9_isWord_f l D G tp a2 3 w_not T b gtp ha2 (Wc.of wa2 kw_not)) kV_X4_61 gtp (⟨trivial, ts0⟩) dX4_readAtom_6 hl.1 rfl rfl (by decide) cd_X9_isWord ⟨Nat.le_of_ble_eq_true rfl, Nat.le_of_ble_eq_true rfl, Nat.le_of_ble_eq_true rfl, Nat.le_of_ble_eq_true rfl, Nat.le_of_ble_eq_true rfl⟩ (fun v3 q3 => ?_)
  obtain ⟨q3, fq3⟩ := q3
  rcases fq3 with ⟨z3, y3⟩ | ⟨z3, y3⟩
  · skip
    refine lv_istore_n (lv' := [(2, .int v3), (0, .ref a0), (1, .int x1)]) hx hb dX4_readAtom_9 rfl hl (by decide) rfl (fun ls hl => ?_)
    refine lv_iload_n hx hb dX4_readAtom_10 rfl (lv_at hl 0 rfl) ?_
    have k_0 : (0 : Int32).toInt = 0 := by decide
    refine lv_if_ne (tgt := 26) hx hb dX4_readAtom_11 (by decide) (fun c4 => ?_) (fun c4 => ?_)
    · have b4 : ¬ v3.toInt = (0 : Int32).toInt := fun z9 => c4 (i_eq.mpr z9)
      refine lv_iload_n hx hb dX4_readAtom_26 rfl (lv_at hl 2 rfl) ?_
      refine lv_bipush (v := 6) hx hb dX4_readAtom_27 (by decide) ?_
      have k_6 : (6 : Int32).toInt = 6 := by decide
      refine lv_icmp_lt (tgt := 40) hx hb dX4_readAtom_29 (by decide) (fun c5 => ?_) (fun c5 => ?_)
      · have b5 : x1.toInt < (6 : Int32).toInt := i_lt.mp c5
        refine lv_aload_n hx hb dX4_readAtom_40 rfl (lv_at hl 1 rfl) ?_
        refine q_grS (T := TX4) C S.1 ga0 0 kF_X4_39 dX4_readAtom_41 rfl rfl (by decide) rfl (by decide) kSF_X4_tape (fun g6 => ?_)
        rw [show fR D s.heap 4 a0 0 = tp from htp]
        refine callV_Ev C S (c_X9_next_f l D G tp T b gtp) kV_X4_47 gtp (⟨trivial, ts0⟩) (by decide +kernel) dX4_readAtom_44 hl.1 rfl rfl (by decide) cd_X9_next ⟨Nat.le_of_ble_eq_true rfl, Nat.le_of_ble_eq_true rfl, Nat.le_of_ble_eq_true rfl, Nat.le_of_ble_eq_true rfl, Nat.le_of_ble_eq_true rfl⟩ (fun H7 L7 S7 K7 q7 => ?_)
        obtain ⟨q7, fq7⟩ := q7
        have tk7 : Lw D s.heap H7 a0 := tk0.trans (Lw.keep S.1 ga0 K7 (by decide +kernel) (by decide +kernel) (by decide +kernel))
        refine lv_iload_n hx hb dX4_readAtom_47 rfl (lv_at hl 0 rfl) ?_
        refine lv_if_ne (tgt := 79) hx hb dX4_readAtom_48 (by decide) (fun c8 => ?_) (fun c8 => ?_)
        · have b8 : ¬ v3.toInt = (0 : Int32).toInt := fun z9 => c8 (i_eq.mpr z9)
          refine lv_aload_n hx hb dX4_readAtom_79 rfl (lv_at hl 1 rfl) ?_
          refine lv_iload_n hx hb dX4_readAtom_80 rfl (lv_at hl 2 rfl) ?_
          refine lv_iconst (v := 1) hx hb dX4_readAtom_81 (by decide) ?_
          have k_1 : (1 : Int32).toInt = 1 := by decide
          refine lv_iadd hx hb dX4_readAtom_82 ?_
          refine lv_topi (fun v9 ev9 => ?_)
          have f10 : v9.toInt = x1.toInt + (1 : Int32).toInt := by rw [ev9]; exact i_add (by omega) (by omega)
          refine callV_Ei C S7 (c_X4_readAtom_d3 l D G a0 v9 tp T (nx T b) ga0 (by omega)) kV_X4_75 ga0 (⟨trivial, ⟨(S7.2.1.fR ga0 rfl (by decide) (by decide +kernel)).trans htp, fq7⟩⟩) (by decide +kernel) dX4_readAtom_83 hl.1 rfl rfl (by decide) cd_X4_readAtom ⟨Nat.le_of_ble_eq_true rfl, Nat.le_of_ble_eq_true rfl, Nat.le_of_ble_eq_true rfl, Nat.le_of_ble_eq_true rfl, Nat.le_of_ble_eq_true rfl⟩ (fun v11 H11 L11 S11 K11 q11 => ?_)
          obtain ⟨q11, fq11⟩ := q11
          obtain ⟨q11, tq11⟩ := q11
          have tk11 : Lw D s.heap H11 a0 := tk7.trans tq11
          rcases fq11 with ⟨c11, y11, z11, ts11⟩ | ⟨e11, y11, z11, wr11⟩
          · skip
            refine lv_if_ne (tgt := 91) hx hb dX4_readAtom_86 (by decide) (fun c12 => ?_) (fun c12 => ?_)
            · have b12 : ¬ v11.toInt = (0 : Int32).toInt := fun z9 => c12 (i_eq.mpr z9)
              refine lv_aload_n hx hb dX4_readAtom_91 rfl (lv_at hl 1 rfl) ?_
              refine lv_bipush (v := -13) hx hb dX4_readAtom_92 (by decide) ?_
              have k_m13 : (-13 : Int32).toInt = -13 := by decide
              refine callV_Ev C S11 (c_X4_put l D G a0 (-13 : Int32) ga0) kV_X4_55 ga0 (trivial) (by decide +kernel) dX4_readAtom_94 hl.1 rfl rfl (by decide) cd_X4_put ⟨Nat.le_of_ble_eq_true rfl, Nat.le_of_ble_eq_true rfl, Nat.le_of_ble_eq_true rfl, Nat.le_of_ble_eq_true rfl, Nat.le_of_ble_eq_true rfl⟩ (fun H13 L13 S13 K13 q13 => ?_)
              obtain ⟨qa13, qb13, tq13⟩ := q13
              have tk13 : Lw D s.heap H13 a0 := tk11.trans tq13
              have ts13 := ts11.keep S11.1 gtp K13 (by decide +kernel)
              refine lv_iconst (v := 1) hx hb dX4_readAtom_97 (by decide) ?_
              exact retE_z hQ C S13 hr dX4_readAtom_98 (z01 (by omega) (by omega)) (⟨⟨by omega, tk13⟩, Rs.ok (by rw [atm_s]; simp [clo, tlF, y3, y11]) (by omega) ts13⟩)
            · have b12 : v11.toInt = (0 : Int32).toInt := i_eq.mp c12
              exact absurd b12 (by omega)
          · skip
            refine lv_if_ne (tgt := 91) hx hb dX4_readAtom_86 (by decide) (fun c14 => ?_) (fun c14 => ?_)
            · have b14 : ¬ v11.toInt = (0 : Int32).toInt := fun z9 => c14 (i_eq.mpr z9)
              exact absurd b14 (by omega)
            · have b14 : v11.toInt = (0 : Int32).toInt := i_eq.mp c14
              refine lv_iconst (v := 0) hx hb dX4_readAtom_89 (by decide) ?_
              exact retE_z hQ C S11 hr dX4_readAtom_90 (z01 (by omega) (by omega)) (⟨⟨by omega, tk11⟩, Rs.no (by rw [atm_s]; simp [clo, tlF, y3, y11]) (by omega) wr11⟩)
        · have b8 : v3.toInt = (0 : Int32).toInt := i_eq.mp c8
          exact absurd b8 (by omega)
      · have b5 : ¬ x1.toInt < (6 : Int32).toInt := fun z9 => c5 (i_lt.mpr z9)
        exact absurd b5 (by omega)
    · have b4 : v3.toInt = (0 : Int32).toInt := i_eq.mp c4
      exact absurd b4 (by omega)
  · skip
    refine lv_istore_n (lv' := [(2, .int v3), (0, .ref a0), (1, .int x1)]) hx hb dX4_readAtom_9 rfl hl (by decide) rfl (fun ls hl => ?_)
    refine lv_iload_n hx hb dX4_readAtom_10 rfl (lv_at hl 0 rfl) ?_
    have k_0 : (0 : Int32).toInt = 0 := by decide
    refine lv_if_ne (tgt := 26) hx hb dX4_readAtom_11 (by decide) (fun c15 => ?_) (fun c15 => ?_)
    · have b15 : ¬ v3.toInt = (0 : Int32).toInt := fun z9 => c15 (i_eq.mpr z9)
      exact absurd b15 (by omega)
    · have b15 : v3.toInt = (0 : Int32).toInt := i_eq.mp c15
      refine lv_aload_n hx hb dX4_readAtom_14 rfl (lv_at hl 1 rfl) ?_
      refine q_grS (T := TX4) C S.1 ga0 0 kF_X4_39 dX4_readAtom_15 rfl rfl (by decide) rfl (by decide) kSF_X4_tape (fun g16 => ?_)
      rw [show fR D s.heap 4 a0 0 = tp from htp]
      refine lv_bipush (v := 40) hx hb dX4_readAtom_18 (by decide) ?_
      have k_40 : (40 : Int32).toInt = 40 := by decide
      refine callV_Pi C S.1 S.2.1.2.1 (c_X9_isSign_f l D G tp (40 : Int32) 40 T b gtp (by omega) (by decide)) kV_X4_84 gtp (⟨trivial, ts0⟩) dX4_readAtom_20 hl.1 rfl rfl (by decide) cd_X9_isSign ⟨Nat.le_of_ble_eq_true rfl, Nat.le_of_ble_eq_true rfl, Nat.le_of_ble_eq_true rfl, Nat.le_of_ble_eq_true rfl, Nat.le_of_ble_eq_true rfl⟩ (fun v17 q17 => ?_)
      obtain ⟨q17, fq17⟩ := q17
      rcases fq17 with ⟨z17, y17⟩ | ⟨z17, y17⟩
      · skip
        refine lv_if_eq (tgt := 99) hx hb dX4_readAtom_23 (by decide) (fun c18 => ?_) (fun c18 => ?_)
        · have b18 : v17.toInt = (0 : Int32).toInt := i_eq.mp c18
          exact absurd b18 (by omega)
        · have b18 : ¬ v17.toInt = (0 : Int32).toInt := fun z9 => c18 (i_eq.mpr z9)
          refine lv_iload_n hx hb dX4_readAtom_26 rfl (lv_at hl 2 rfl) ?_
          refine lv_bipush (v := 6) hx hb dX4_readAtom_27 (by decide) ?_
          have k_6 : (6 : Int32).toInt = 6 := by decide
          refine lv_icmp_lt (tgt := 40) hx hb dX4_readAtom_29 (by decide) (fun c19 => ?_) (fun c19 => ?_)
          · have b19 : x1.toInt < (6 : Int32).toInt := i_lt.mp c19
            refine lv_aload_n hx hb dX4_readAtom_40 rfl (lv_at hl 1 rfl) ?_
            refine q_grS (T := TX4) C S.1 ga0 0 kF_X4_39 dX4_readAtom_41 rfl rfl (by decide) rfl (by decide) kSF_X4_tape (fun g20 => ?_)
            rw [show fR D s.heap 4 a0 0 = tp from htp]
            refine callV_Ev C S (c_X9_next_f l D G tp T b gtp) kV_X4_47 gtp (⟨trivial, ts0⟩) (by decide +kernel) dX4_readAtom_44 hl.1 rfl rfl (by decide) cd_X9_next ⟨Nat.le_of_ble_eq_true rfl, Nat.le_of_ble_eq_true rfl, Nat.le_of_ble_eq_true rfl, Nat.le_of_ble_eq_true rfl, Nat.le_of_ble_eq_true rfl⟩ (fun H21 L21 S21 K21 q21 => ?_)
            obtain ⟨q21, fq21⟩ := q21
            have tk21 : Lw D s.heap H21 a0 := tk0.trans (Lw.keep S.1 ga0 K21 (by decide +kernel) (by decide +kernel) (by decide +kernel))
            refine lv_iload_n hx hb dX4_readAtom_47 rfl (lv_at hl 0 rfl) ?_
            refine lv_if_ne (tgt := 79) hx hb dX4_readAtom_48 (by decide) (fun c22 => ?_) (fun c22 => ?_)
            · have b22 : ¬ v3.toInt = (0 : Int32).toInt := fun z9 => c22 (i_eq.mpr z9)
              exact absurd b22 (by omega)
            · have b22 : v3.toInt = (0 : Int32).toInt := i_eq.mp c22
              refine lv_aload_n hx hb dX4_readAtom_51 rfl (lv_at hl 1 rfl) ?_
              refine lv_iload_n hx hb dX4_readAtom_52 rfl (lv_at hl 2 rfl) ?_
              refine lv_iconst (v := 1) hx hb dX4_readAtom_53 (by decide) ?_
              have k_1 : (1 : Int32).toInt = 1 := by decide
              refine lv_iadd hx hb dX4_readAtom_54 ?_
              refine lv_topi (fun v23 ev23 => ?_)
              have f24 : v23.toInt = x1.toInt + (1 : Int32).toInt := by rw [ev23]; exact i_add (by omega) (by omega)
              refine callV_Ei C S21 (c_X4_readCondition_d3 l D G a0 v23 tp T (nx T b) ga0 (by omega)) kV_X4_65 ga0 (⟨trivial, ⟨(S21.2.1.fR ga0 rfl (by decide) (by decide +kernel)).trans htp, fq21⟩⟩) (by decide +kernel) dX4_readAtom_55 hl.1 rfl rfl (by decide) cd_X4_readCondition ⟨Nat.le_of_ble_eq_true rfl, Nat.le_of_ble_eq_true rfl, Nat.le_of_ble_eq_true rfl, Nat.le_of_ble_eq_true rfl, Nat.le_of_ble_eq_true rfl⟩ (fun v25 H25 L25 S25 K25 q25 => ?_)
              obtain ⟨q25, fq25⟩ := q25
              obtain ⟨q25, tq25⟩ := q25
              have tk25 : Lw D s.heap H25 a0 := tk21.trans tq25
              rcases fq25 with ⟨c25, y25, z25, ts25⟩ | ⟨e25, y25, z25, wr25⟩
              · skip
                refine lv_if_eq (tgt := 77) hx hb dX4_readAtom_58 (by decide) (fun c26 => ?_) (fun c26 => ?_)
                · have b26 : v25.toInt = (0 : Int32).toInt := i_eq.mp c26
                  exact absurd b26 (by omega)
                · have b26 : ¬ v25.toInt = (0 : Int32).toInt := fun z9 => c26 (i_eq.mpr z9)
                  refine lv_aload_n hx hb dX4_readAtom_61 rfl (lv_at hl 1 rfl) ?_
                  refine q_grS (T := TX4) C S25.1 ga0 0 kF_X4_39 dX4_readAtom_62 rfl rfl (by decide) rfl (by decide) kSF_X4_tape (fun g27 => ?_)
                  rw [show fR D H25 4 a0 0 = tp from (S25.2.1.fR ga0 rfl (by decide) (by decide +kernel)).trans htp]
                  refine lv_bipush (v := 41) hx hb dX4_readAtom_65 (by decide) ?_
                  have k_41 : (41 : Int32).toInt = 41 := by decide
                  refine callV_Ei C S25 (c_X9_takeSign_f l D G tp (41 : Int32) 41 T c25 gtp (by omega) (by decide)) kV_X4_88 gtp (⟨trivial, ts25⟩) (by decide +kernel) dX4_readAtom_67 hl.1 rfl rfl (by decide) cd_X9_takeSign ⟨Nat.le_of_ble_eq_true rfl, Nat.le_of_ble_eq_true rfl, Nat.le_of_ble_eq_true rfl, Nat.le_of_ble_eq_true rfl, Nat.le_of_ble_eq_true rfl⟩ (fun v28 H28 L28 S28 K28 q28 => ?_)
                  obtain ⟨q28, fq28⟩ := q28
                  have tk28 : Lw D s.heap H28 a0 := tk25.trans (Lw.keep S25.1 ga0 K28 (by decide +kernel) (by decide +kernel) (by decide +kernel))
                  rcases fq28 with ⟨c28, y28, z28, ts28⟩ | ⟨e28, y28, z28, wr28⟩
                  · skip
                    refine lv_if_eq (tgt := 77) hx hb dX4_readAtom_70 (by decide) (fun c29 => ?_) (fun c29 => ?_)
                    · have b29 : v28.toInt = (0 : Int32).toInt := i_eq.mp c29
                      exact absurd b29 (by omega)
                    · have b29 : ¬ v28.toInt = (0 : Int32).toInt := fun z9 => c29 (i_eq.mpr z9)
                      refine lv_iconst (v := 1) hx hb dX4_readAtom_73 (by decide) ?_
                      refine lv_goto (tgt := 78) hx hb dX4_readAtom_74 (by decide) ?_
                      exact retE_z hQ C S28 hr dX4_readAtom_78 (z01 (by omega) (by omega)) (⟨⟨by omega, tk28⟩, Rs.ok (by rw [atm_s]; simp [clo, tlF, y3, y17, y25, y28]) (by omega) ts28⟩)
                  · skip
                    refine lv_if_eq (tgt := 77) hx hb dX4_readAtom_70 (by decide) (fun c30 => ?_) (fun c30 => ?_)
                    · have b30 : v28.toInt = (0 : Int32).toInt := i_eq.mp c30
                      refine lv_iconst (v := 0) hx hb dX4_readAtom_77 (by decide) ?_
                      exact retE_z hQ C S28 hr dX4_readAtom_78 (z01 (by omega) (by omega)) (⟨⟨by omega, tk28⟩, Rs.no (by rw [atm_s]; simp [clo, tlF, y3, y17, y25, y28]) (by omega) wr28⟩)
                    · have b30 : ¬ v28.toInt = (0 : Int32).toInt := fun z9 => c30 (i_eq.mpr z9)
                      exact absurd b30 (by omega)
              · skip
                refine lv_if_eq (tgt := 77) hx hb dX4_readAtom_58 (by decide) (fun c31 => ?_) (fun c31 => ?_)
                · have b31 : v25.toInt = (0 : Int32).toInt := i_eq.mp c31
                  refine lv_iconst (v := 0) hx hb dX4_readAtom_77 (by decide) ?_
                  exact retE_z hQ C S25 hr dX4_readAtom_78 (z01 (by omega) (by omega)) (⟨⟨by omega, tk25⟩, Rs.no (by rw [atm_s]; simp [clo, tlF, y3, y17, y25]) (by omega) wr25⟩)
                · have b31 : ¬ v25.toInt = (0 : Int32).toInt := fun z9 => c31 (i_eq.mpr z9)
                  exact absurd b31 (by omega)
          · have b19 : ¬ x1.toInt < (6 : Int32).toInt := fun z9 => c19 (i_lt.mpr z9)
            exact absurd b19 (by omega)
      · skip
        refine lv_if_eq (tgt := 99) hx hb dX4_readAtom_23 (by decide) (fun c32 => ?_) (fun c32 => ?_)
        · have b32 : v17.toInt = (0 : Int32).toInt := i_eq.mp c32
          refine lv_aload_n hx hb dX4_readAtom_99 rfl (lv_at hl 1 rfl) ?_
          refine callV_Pi C S.1 S.2.1.2.1 (c_X4_presentTruth l D G a0 tp T b ga0) kV_X4_91 ga0 (⟨trivial, ⟨htp, ts0⟩⟩) dX4_readAtom_100 hl.1 rfl rfl (by decide) cd_X4_presentTruth ⟨Nat.le_of_ble_eq_true rfl, Nat.le_of_ble_eq_true rfl, Nat.le_of_ble_eq_true rfl, Nat.le_of_ble_eq_true rfl, Nat.le_of_ble_eq_true rfl⟩ (fun v33 q33 => ?_)
          obtain ⟨q33, fq33⟩ := q33
          refine lv_istore_n (lv' := [(3, .int v33), (2, .int v3), (0, .ref a0), (1, .int x1)]) hx hb dX4_readAtom_103 rfl hl (by decide) rfl (fun ls hl => ?_)
          refine lv_iload_n hx hb dX4_readAtom_104 rfl (lv_at hl 0 rfl) ?_
          refine lv_iconst (v := -1) hx hb dX4_readAtom_105 (by decide) ?_
          have k_m1 : (-1 : Int32).toInt = -1 := by decide
          refine lv_icmp_ne (tgt := 114) hx hb dX4_readAtom_106 (by decide) (fun c34 => ?_) (fun c34 => ?_)
          · have b34 : ¬ v33.toInt = (-1 : Int32).toInt := fun z9 => c34 (i_eq.mpr z9)
            have yt35 : ¬ tru T b = -1 := by omega
            refine lv_aload_n hx hb dX4_readAtom_114 rfl (lv_at hl 2 rfl) ?_
            refine lv_iload_n hx hb dX4_readAtom_115 rfl (lv_at hl 0 rfl) ?_
            refine callV_Ev C S (c_X4_put l D G a0 v33 ga0) kV_X4_55 ga0 (trivial) (by decide +kernel) dX4_readAtom_116 hl.1 rfl rfl (by decide) cd_X4_put ⟨Nat.le_of_ble_eq_true rfl, Nat.le_of_ble_eq_true rfl, Nat.le_of_ble_eq_true rfl, Nat.le_of_ble_eq_true rfl, Nat.le_of_ble_eq_true rfl⟩ (fun H36 L36 S36 K36 q36 => ?_)
            obtain ⟨qa36, qb36, tq36⟩ := q36
            have tk36 : Lw D s.heap H36 a0 := tk0.trans tq36
            have ts36 := ts0.keep S.1 gtp K36 (by decide +kernel)
            refine lv_aload_n hx hb dX4_readAtom_119 rfl (lv_at hl 2 rfl) ?_
            refine q_grS (T := TX4) C S36.1 ga0 0 kF_X4_39 dX4_readAtom_120 rfl rfl (by decide) rfl (by decide) kSF_X4_tape (fun g37 => ?_)
            rw [show fR D H36 4 a0 0 = tp from (S36.2.1.fR ga0 rfl (by decide) (by decide +kernel)).trans htp]
            refine callV_Ev C S36 (c_X9_next_f l D G tp T b gtp) kV_X4_47 gtp (⟨trivial, ts36⟩) (by decide +kernel) dX4_readAtom_123 hl.1 rfl rfl (by decide) cd_X9_next ⟨Nat.le_of_ble_eq_true rfl, Nat.le_of_ble_eq_true rfl, Nat.le_of_ble_eq_true rfl, Nat.le_of_ble_eq_true rfl, Nat.le_of_ble_eq_true rfl⟩ (fun H38 L38 S38 K38 q38 => ?_)
            obtain ⟨q38, fq38⟩ := q38
            have tk38 : Lw D s.heap H38 a0 := tk36.trans (Lw.keep S36.1 ga0 K38 (by decide +kernel) (by decide +kernel) (by decide +kernel))
            refine lv_iconst (v := 1) hx hb dX4_readAtom_126 (by decide) ?_
            have k_1 : (1 : Int32).toInt = 1 := by decide
            exact retE_z hQ C S38 hr dX4_readAtom_127 (z01 (by omega) (by omega)) (⟨⟨by omega, tk38⟩, Rs.ok (by rw [atm_s]; simp [clo, tlF, y3, y17, yt35]) (by omega) fq38⟩)
          · have b34 : v33.toInt = (-1 : Int32).toInt := i_eq.mp c34
            have yt39 : tru T b = -1 := by omega
            refine lv_aload_n hx hb dX4_readAtom_109 rfl (lv_at hl 2 rfl) ?_
            refine callV_Ei C S (c_X4_readComparison l D G a0 tp T b ga0) kV_X4_94 ga0 (⟨trivial, ⟨htp, ts0⟩⟩) (by decide +kernel) dX4_readAtom_110 hl.1 rfl rfl (by decide) cd_X4_readComparison ⟨Nat.le_of_ble_eq_true rfl, Nat.le_of_ble_eq_true rfl, Nat.le_of_ble_eq_true rfl, Nat.le_of_ble_eq_true rfl, Nat.le_of_ble_eq_true rfl⟩ (fun v40 H40 L40 S40 K40 q40 => ?_)
            obtain ⟨q40, fq40⟩ := q40
            obtain ⟨q40, tq40⟩ := q40
            have tk40 : Lw D s.heap H40 a0 := tk0.trans tq40
            rcases fq40 with ⟨c40, y40, z40, ts40⟩ | ⟨e40, y40, z40, wr40⟩
            · skip
              exact retE_z hQ C S40 hr dX4_readAtom_113 (z01 (by omega) (by omega)) (⟨⟨by omega, tk40⟩, Rs.ok (by rw [atm_s]; simp [clo, tlF, y3, y17, yt39, y40]) (by omega) ts40⟩)
            · skip
              exact retE_z hQ C S40 hr dX4_readAtom_113 (z01 (by omega) (by omega)) (⟨⟨by omega, tk40⟩, Rs.no (by rw [atm_s]; simp [clo, tlF, y3, y17, yt39, y40]) (by omega) wr40⟩)
        · have b32 : ¬ v17.toInt = (0 : Int32).toInt := fun z9 => c32 (i_eq.mpr z9)
          exact absurd b32 (by omega)

set_option maxRecDepth 100000 in
set_option maxHeartbeats 4000000 in
theorem c_X4_readCondition_d2 (l : Launch) (D : DD) (G : Nat → Nat) (a0 : Nat) (x1 : Int32) (tp : Nat) (T : Tx) (b : Nat) (ga0 : G a0 = 21) (ix1 : 2 ≤ x1.toInt ∧ x1.toInt ≤ 2) : CE l D G yX4_readCondition cX4_readCondition 5 (some .boolean) 16 [.ref a0, .int x1] (fun H => (True) ∧ (fR D H 4 a0 0 = tp ∧ TS D H tp T b)) [(2, 3), (2, 4), (2, 5), (2, 6), (2, 2), (22, 0), (21, 3)] (xI (fun H r H1 => ((0 ≤ r.toInt ∧ r.toInt ≤ 1) ∧ (Lw D H H1 a0)) ∧ (Rs D H1 tp T (conF T (atm T 4) b) r))) := by
  refine enter (by decide) (Nat.le_of_ble_eq_true rfl) ?_
  intro p e s m args below meth c ls Q hA hQ C hr hO hpre hl
  have hx := C.1
  have hb := C.2.1
  have S : Sd D G [(2, 3), (2, 4), (2, 5), (2, 6), (2, 2), (22, 0), (21, 3)] s.heap s.heap [] := Sd.start hO
  have hl : lv_has ls 5 [(0, .ref a0), (1, .int x1)] := hl
  obtain ⟨hpre, hf⟩ := hpre
  obtain ⟨htp, ts0⟩ := hf
  have gtp : G tp = 2 := by rw [← htp]; exact hO.rol ga0 rfl (by decide) rfl
  have hT : T.2 ≤ 400 := ts0.le hO gtp
  have tk0 : Lw D s.heap s.heap a0 := Lw.refl
  refine lv_iconst (v := 0) hx hb dX4_readCondition_0 (by decide) ?_
  refine lv_istore_n (lv' := [(2, .int (0 : Int32)), (0, .ref a0), (1, .int x1)]) hx hb dX4_readCondition_1 rfl hl (by decide) rfl (fun ls hl => ?_)
  refine lv_iconst (v := 0) hx hb dX4_readCondition_2 (by decide) ?_
  refine lv_istore_n (lv' := [(3, .int (0 : Int32)), (2, .int (0 : Int32)), (0, .ref a0), (1, .int x1)]) hx hb dX4_readCondition_3 rfl hl (by decide) rfl (fun ls hl => ?_)
  refine lv_iconst (v := 0) hx hb dX4_readCondition_4 (by decide) ?_
  refine lv_istore (lv' := [(4, .int (0 : Int32)), (3, .int (0 : Int32)), (2, .int (0 : Int32)), (0, .ref a0), (1, .int x1)]) hx hb dX4_readCondition_5 hl (by decide) rfl (fun ls hl => ?_)
  have Lp7 : ∀ (n : Nat) (x4_7 : Int32) (x3_7 : Int32) (x2_7 : Int32) (b_7 : Nat) (H_7 : Heap) (L_7 : List Loc) (ls : Array Slot), (Sd D G [(2, 3), (2, 4), (2, 5), (2, 6), (2, 2), (22, 0), (21, 3)] s.heap H_7 L_7) → (0 ≤ x4_7.toInt ∧ x4_7.toInt ≤ 400) → (0 ≤ x3_7.toInt ∧ x3_7.toInt ≤ 1) → (0 ≤ x2_7.toInt ∧ x2_7.toInt ≤ 1) → (TS D H_7 tp T b_7) → (conF T (atm T 4) b = conR T (atm T 4) (400 - x4_7.toInt.toNat) b_7) → (Lw D s.heap H_7 a0) → 401 - x4_7.toInt ≤ (n : Int) → lv_has ls 5 [(4, .int x4_7), (3, .int x3_7), (2, .int x2_7), (0, .ref a0), (1, .int x1)] → W p l e (rmU 16 0 0) s m args below meth c H_7 L_7 0 0 Q (F0 m 7 ls []) := by
    intro n
    induction n with
    | zero =>
      intro x4_7 x3_7 x2_7 b_7 H_7 L_7 ls S_7 j7_0 j7_1 j7_2 u7_0 u7_1 u7_2 hn hl
      exact absurd hn (by omega)
    | succ n ih7 =>
      intro x4_7 x3_7 x2_7 b_7 H_7 L_7 ls S_7 j7_0 j7_1 j7_2 u7_0 u7_1 u7_2 hn hl
      refine lv_iload hx hb dX4_readCondition_7 (lv_at hl 0 rfl) ?_
      refine lv_sipush (v := 400) hx hb dX4_readCondition_9 (by decide) ?_
      have k_400 : (400 : Int32).toInt = 400 := by decide
      refine lv_icmp_ge (tgt := 88) hx hb dX4_readCondition_12 (by decide) (fun c1 => ?_) (fun c1 => ?_)
      · have b1 : (400 : Int32).toInt ≤ x4_7.toInt := i_le.mp c1
        refine lv_aload_n hx hb dX4_readCondition_88 rfl (lv_at hl 3 rfl) ?_
        refine q_grS (T := TX4) C S_7.1 ga0 0 kF_X4_39 dX4_readCondition_89 rfl rfl (by decide) rfl (by decide) kSF_X4_tape (fun g2 => ?_)
        rw [show fR D H_7 4 a0 0 = tp from (S_7.2.1.fR ga0 rfl (by decide) (by decide +kernel)).trans htp]
        refine callV_Ei C S_7 (c_X9_refuse_f l D G tp T b_7 gtp) kV_X4_43 gtp (⟨trivial, u7_0⟩) (by decide +kernel) dX4_readCondition_92 hl.1 rfl rfl (by decide) cd_X9_refuse ⟨Nat.le_of_ble_eq_true rfl, Nat.le_of_ble_eq_true rfl, Nat.le_of_ble_eq_true rfl, Nat.le_of_ble_eq_true rfl, Nat.le_of_ble_eq_true rfl⟩ (fun v3 H3 L3 S3 K3 q3 => ?_)
        obtain ⟨q3, fq3⟩ := q3
        have tk3 : Lw D s.heap H3 a0 := u7_2.trans (Lw.keep S_7.1 ga0 K3 (by decide +kernel) (by decide +kernel) (by decide +kernel))
        have z3 := fq3.1
        exact retE_z hQ C S3 hr dX4_readCondition_95 (z01 (by omega) (by omega)) (⟨⟨by omega, tk3⟩, Rs.no (by rw [u7_1, show 400 - x4_7.toInt.toNat = 0 by omega]; rfl) (by omega) fq3.2⟩)
      · have b1 : ¬ (400 : Int32).toInt ≤ x4_7.toInt := fun z9 => c1 (i_le.mpr z9)
        refine lv_aload_n hx hb dX4_readCondition_15 rfl (lv_at hl 3 rfl) ?_
        refine lv_iload_n hx hb dX4_readCondition_16 rfl (lv_at hl 4 rfl) ?_
        refine callV_Ei C S_7 (c_X4_readAtom_d2 l D G a0 x1 tp T b_7 ga0 (by omega)) kV_X4_75 ga0 (⟨trivial, ⟨(S_7.2.1.fR ga0 rfl (by decide) (by decide +kernel)).trans htp, u7_0⟩⟩) (by decide +kernel) dX4_readCondition_17 hl.1 rfl rfl (by decide) cd_X4_readAtom ⟨Nat.le_of_ble_eq_true rfl, Nat.le_of_ble_eq_true rfl, Nat.le_of_ble_eq_true rfl, Nat.le_of_ble_eq_true rfl, Nat.le_of_ble_eq_true rfl⟩ (fun v4 H4 L4 S4 K4 q4 => ?_)
        obtain ⟨q4, fq4⟩ := q4
        obtain ⟨q4, tq4⟩ := q4
        have tk4 : Lw D s.heap H4 a0 := u7_2.trans tq4
        rcases fq4 with ⟨c4, y4, z4, ts4⟩ | ⟨e4, y4, z4, wr4⟩
        · skip
          have k_0 : (0 : Int32).toInt = 0 := by decide
          refine lv_if_ne (tgt := 25) hx hb dX4_readCondition_20 (by decide) (fun c5 => ?_) (fun c5 => ?_)
          · have b5 : ¬ v4.toInt = (0 : Int32).toInt := fun z9 => c5 (i_eq.mpr z9)
            refine lv_iload_n hx hb dX4_readCondition_25 rfl (lv_at hl 1 rfl) ?_
            refine lv_if_eq (tgt := 35) hx hb dX4_readCondition_26 (by decide) (fun c6 => ?_) (fun c6 => ?_)
            · have b6 : x3_7.toInt = (0 : Int32).toInt := i_eq.mp c6
              refine lv_aload_n hx hb dX4_readCondition_35 rfl (lv_at hl 3 rfl) ?_
              refine q_grS (T := TX4) C S4.1 ga0 0 kF_X4_39 dX4_readCondition_36 rfl rfl (by decide) rfl (by decide) kSF_X4_tape (fun g7 => ?_)
              rw [show fR D H4 4 a0 0 = tp from (S4.2.1.fR ga0 rfl (by decide) (by decide +kernel)).trans htp]
              refine q_lds C ks_X4_78 dX4_readCondition_39 (fun a8 ha8 wa8 => ?_)
              refine callV_Pi C S4.1 S4.2.1.2.1 (c_X9_isWord_f l D G tp a8 3 w_and T c4 gtp ha8 (Wc.of wa8 kw_and)) kV_X4_61 gtp (⟨trivial, ts4⟩) dX4_readCondition_41 hl.1 rfl rfl (by decide) cd_X9_isWord ⟨Nat.le_of_ble_eq_true rfl, Nat.le_of_ble_eq_true rfl, Nat.le_of_ble_eq_true rfl, Nat.le_of_ble_eq_true rfl, Nat.le_of_ble_eq_true rfl⟩ (fun v9 q9 => ?_)
              obtain ⟨q9, fq9⟩ := q9
              rcases fq9 with ⟨z9, y9⟩ | ⟨z9, y9⟩
              · skip
                refine lv_istore_n (lv' := [(3, .int v9), (4, .int x4_7), (2, .int x2_7), (0, .ref a0), (1, .int x1)]) hx hb dX4_readCondition_44 rfl hl (by decide) rfl (fun ls hl => ?_)
                refine lv_iload_n hx hb dX4_readCondition_45 rfl (lv_at hl 0 rfl) ?_
                refine lv_if_ne (tgt := 75) hx hb dX4_readCondition_46 (by decide) (fun c10 => ?_) (fun c10 => ?_)
                · have b10 : ¬ v9.toInt = (0 : Int32).toInt := fun z9 => c10 (i_eq.mpr z9)
                  refine lv_aload_n hx hb dX4_readCondition_75 rfl (lv_at hl 3 rfl) ?_
                  refine q_grS (T := TX4) C S4.1 ga0 0 kF_X4_39 dX4_readCondition_76 rfl rfl (by decide) rfl (by decide) kSF_X4_tape (fun g11 => ?_)
                  rw [show fR D H4 4 a0 0 = tp from (S4.2.1.fR ga0 rfl (by decide) (by decide +kernel)).trans htp]
                  refine callV_Ev C S4 (c_X9_next_f l D G tp T c4 gtp) kV_X4_47 gtp (⟨trivial, ts4⟩) (by decide +kernel) dX4_readCondition_79 hl.1 rfl rfl (by decide) cd_X9_next ⟨Nat.le_of_ble_eq_true rfl, Nat.le_of_ble_eq_true rfl, Nat.le_of_ble_eq_true rfl, Nat.le_of_ble_eq_true rfl, Nat.le_of_ble_eq_true rfl⟩ (fun H12 L12 S12 K12 q12 => ?_)
                  obtain ⟨q12, fq12⟩ := q12
                  have tk12 : Lw D s.heap H12 a0 := tk4.trans (Lw.keep S4.1 ga0 K12 (by decide +kernel) (by decide +kernel) (by decide +kernel))
                  obtain ⟨v13, ev13⟩ : ∃ y : Int32, y = x4_7 + (1) := ⟨_, rfl⟩
                  have k_1 : (1 : Int32).toInt = 1 := by decide
                  have f14 : v13.toInt = x4_7.toInt + (1) := by rw [ev13]; exact i_addc k_1 (by omega) (by omega)
                  refine lv_iinc (v := v13) (lv' := [(4, .int v13), (3, .int v9), (2, .int x2_7), (0, .ref a0), (1, .int x1)]) hx hb dX4_readCondition_82 hl (k := 1) rfl (by rw [ev13]; rfl) (by decide) rfl (fun ls hl => ?_)
                  refine lv_goto (tgt := 7) hx hb dX4_readCondition_85 (by decide) ?_
                  exact ih7 v13 v9 x2_7 (nx T c4) H12 L12 ls S12 (by omega) (by omega) (by omega) fq12 (by rw [u7_1]; exact conR_st (by omega) y4 (by simp [y4, y9])) tk12 (by omega) (lv_sub hl [0, 1, 2, 3, 4] rfl)
                · have b10 : v9.toInt = (0 : Int32).toInt := i_eq.mp c10
                  exact absurd b10 (by omega)
              · skip
                refine lv_istore_n (lv' := [(3, .int v9), (4, .int x4_7), (2, .int x2_7), (0, .ref a0), (1, .int x1)]) hx hb dX4_readCondition_44 rfl hl (by decide) rfl (fun ls hl => ?_)
                refine lv_iload_n hx hb dX4_readCondition_45 rfl (lv_at hl 0 rfl) ?_
                refine lv_if_ne (tgt := 75) hx hb dX4_readCondition_46 (by decide) (fun c15 => ?_) (fun c15 => ?_)
                · have b15 : ¬ v9.toInt = (0 : Int32).toInt := fun z9 => c15 (i_eq.mpr z9)
                  exact absurd b15 (by omega)
                · have b15 : v9.toInt = (0 : Int32).toInt := i_eq.mp c15
                  refine lv_iload_n hx hb dX4_readCondition_49 rfl (lv_at hl 2 rfl) ?_
                  refine lv_if_eq (tgt := 59) hx hb dX4_readCondition_50 (by decide) (fun c16 => ?_) (fun c16 => ?_)
                  · have b16 : x2_7.toInt = (0 : Int32).toInt := i_eq.mp c16
                    refine lv_aload_n hx hb dX4_readCondition_59 rfl (lv_at hl 3 rfl) ?_
                    refine q_grS (T := TX4) C S4.1 ga0 0 kF_X4_39 dX4_readCondition_60 rfl rfl (by decide) rfl (by decide) kSF_X4_tape (fun g17 => ?_)
                    rw [show fR D H4 4 a0 0 = tp from (S4.2.1.fR ga0 rfl (by decide) (by decide +kernel)).trans htp]
                    refine q_lds C ks_X4_80 dX4_readCondition_63 (fun a18 ha18 wa18 => ?_)
                    refine callV_Pi C S4.1 S4.2.1.2.1 (c_X9_isWord_f l D G tp a18 2 w_or T c4 gtp ha18 (Wc.of wa18 kw_or)) kV_X4_61 gtp (⟨trivial, ts4⟩) dX4_readCondition_65 hl.1 rfl rfl (by decide) cd_X9_isWord ⟨Nat.le_of_ble_eq_true rfl, Nat.le_of_ble_eq_true rfl, Nat.le_of_ble_eq_true rfl, Nat.le_of_ble_eq_true rfl, Nat.le_of_ble_eq_true rfl⟩ (fun v19 q19 => ?_)
                    obtain ⟨q19, fq19⟩ := q19
                    rcases fq19 with ⟨z19, y19⟩ | ⟨z19, y19⟩
                    · skip
                      refine lv_istore_n (lv' := [(2, .int v19), (3, .int v9), (4, .int x4_7), (0, .ref a0), (1, .int x1)]) hx hb dX4_readCondition_68 rfl hl (by decide) rfl (fun ls hl => ?_)
                      refine lv_iload_n hx hb dX4_readCondition_69 rfl (lv_at hl 0 rfl) ?_
                      refine lv_if_ne (tgt := 75) hx hb dX4_readCondition_70 (by decide) (fun c20 => ?_) (fun c20 => ?_)
                      · have b20 : ¬ v19.toInt = (0 : Int32).toInt := fun z9 => c20 (i_eq.mpr z9)
                        refine lv_aload_n hx hb dX4_readCondition_75 rfl (lv_at hl 3 rfl) ?_
                        refine q_grS (T := TX4) C S4.1 ga0 0 kF_X4_39 dX4_readCondition_76 rfl rfl (by decide) rfl (by decide) kSF_X4_tape (fun g21 => ?_)
                        rw [show fR D H4 4 a0 0 = tp from (S4.2.1.fR ga0 rfl (by decide) (by decide +kernel)).trans htp]
                        refine callV_Ev C S4 (c_X9_next_f l D G tp T c4 gtp) kV_X4_47 gtp (⟨trivial, ts4⟩) (by decide +kernel) dX4_readCondition_79 hl.1 rfl rfl (by decide) cd_X9_next ⟨Nat.le_of_ble_eq_true rfl, Nat.le_of_ble_eq_true rfl, Nat.le_of_ble_eq_true rfl, Nat.le_of_ble_eq_true rfl, Nat.le_of_ble_eq_true rfl⟩ (fun H22 L22 S22 K22 q22 => ?_)
                        obtain ⟨q22, fq22⟩ := q22
                        have tk22 : Lw D s.heap H22 a0 := tk4.trans (Lw.keep S4.1 ga0 K22 (by decide +kernel) (by decide +kernel) (by decide +kernel))
                        obtain ⟨v23, ev23⟩ : ∃ y : Int32, y = x4_7 + (1) := ⟨_, rfl⟩
                        have k_1 : (1 : Int32).toInt = 1 := by decide
                        have f24 : v23.toInt = x4_7.toInt + (1) := by rw [ev23]; exact i_addc k_1 (by omega) (by omega)
                        refine lv_iinc (v := v23) (lv' := [(4, .int v23), (2, .int v19), (3, .int v9), (0, .ref a0), (1, .int x1)]) hx hb dX4_readCondition_82 hl (k := 2) rfl (by rw [ev23]; rfl) (by decide) rfl (fun ls hl => ?_)
                        refine lv_goto (tgt := 7) hx hb dX4_readCondition_85 (by decide) ?_
                        exact ih7 v23 v9 v19 (nx T c4) H22 L22 ls S22 (by omega) (by omega) (by omega) fq22 (by rw [u7_1]; exact conR_st (by omega) y4 (by simp [y4, y9, y19])) tk22 (by omega) (lv_sub hl [0, 2, 1, 3, 4] rfl)
                      · have b20 : v19.toInt = (0 : Int32).toInt := i_eq.mp c20
                        exact absurd b20 (by omega)
                    · skip
                      refine lv_istore_n (lv' := [(2, .int v19), (3, .int v9), (4, .int x4_7), (0, .ref a0), (1, .int x1)]) hx hb dX4_readCondition_68 rfl hl (by decide) rfl (fun ls hl => ?_)
                      refine lv_iload_n hx hb dX4_readCondition_69 rfl (lv_at hl 0 rfl) ?_
                      refine lv_if_ne (tgt := 75) hx hb dX4_readCondition_70 (by decide) (fun c25 => ?_) (fun c25 => ?_)
                      · have b25 : ¬ v19.toInt = (0 : Int32).toInt := fun z9 => c25 (i_eq.mpr z9)
                        exact absurd b25 (by omega)
                      · have b25 : v19.toInt = (0 : Int32).toInt := i_eq.mp c25
                        refine lv_iconst (v := 1) hx hb dX4_readCondition_73 (by decide) ?_
                        have k_1 : (1 : Int32).toInt = 1 := by decide
                        exact retE_z hQ C S4 hr dX4_readCondition_74 (z01 (by omega) (by omega)) (⟨⟨by omega, tk4⟩, Rs.ok (by rw [u7_1]; exact conR_ok (by omega) y4 (by simp [y4, y9, y19]) (by simp [y4, y9, y19])) (by omega) ts4⟩)
                  · have b16 : ¬ x2_7.toInt = (0 : Int32).toInt := fun z9 => c16 (i_eq.mpr z9)
                    refine lv_aload_n hx hb dX4_readCondition_53 rfl (lv_at hl 3 rfl) ?_
                    refine lv_bipush (v := -18) hx hb dX4_readCondition_54 (by decide) ?_
                    have k_m18 : (-18 : Int32).toInt = -18 := by decide
                    refine callV_Ev C S4 (c_X4_put l D G a0 (-18 : Int32) ga0) kV_X4_55 ga0 (trivial) (by decide +kernel) dX4_readCondition_56 hl.1 rfl rfl (by decide) cd_X4_put ⟨Nat.le_of_ble_eq_true rfl, Nat.le_of_ble_eq_true rfl, Nat.le_of_ble_eq_true rfl, Nat.le_of_ble_eq_true rfl, Nat.le_of_ble_eq_true rfl⟩ (fun H26 L26 S26 K26 q26 => ?_)
                    obtain ⟨qa26, qb26, tq26⟩ := q26
                    have tk26 : Lw D s.heap H26 a0 := tk4.trans tq26
                    have ts26 := ts4.keep S4.1 gtp K26 (by decide +kernel)
                    refine lv_aload_n hx hb dX4_readCondition_59 rfl (lv_at hl 3 rfl) ?_
                    refine q_grS (T := TX4) C S26.1 ga0 0 kF_X4_39 dX4_readCondition_60 rfl rfl (by decide) rfl (by decide) kSF_X4_tape (fun g27 => ?_)
                    rw [show fR D H26 4 a0 0 = tp from (S26.2.1.fR ga0 rfl (by decide) (by decide +kernel)).trans htp]
                    refine q_lds C ks_X4_80 dX4_readCondition_63 (fun a28 ha28 wa28 => ?_)
                    refine callV_Pi C S26.1 S26.2.1.2.1 (c_X9_isWord_f l D G tp a28 2 w_or T c4 gtp ha28 (Wc.of wa28 kw_or)) kV_X4_61 gtp (⟨trivial, ts26⟩) dX4_readCondition_65 hl.1 rfl rfl (by decide) cd_X9_isWord ⟨Nat.le_of_ble_eq_true rfl, Nat.le_of_ble_eq_true rfl, Nat.le_of_ble_eq_true rfl, Nat.le_of_ble_eq_true rfl, Nat.le_of_ble_eq_true rfl⟩ (fun v29 q29 => ?_)
                    obtain ⟨q29, fq29⟩ := q29
                    rcases fq29 with ⟨z29, y29⟩ | ⟨z29, y29⟩
                    · skip
                      refine lv_istore_n (lv' := [(2, .int v29), (3, .int v9), (4, .int x4_7), (0, .ref a0), (1, .int x1)]) hx hb dX4_readCondition_68 rfl hl (by decide) rfl (fun ls hl => ?_)
                      refine lv_iload_n hx hb dX4_readCondition_69 rfl (lv_at hl 0 rfl) ?_
                      refine lv_if_ne (tgt := 75) hx hb dX4_readCondition_70 (by decide) (fun c30 => ?_) (fun c30 => ?_)
                      · have b30 : ¬ v29.toInt = (0 : Int32).toInt := fun z9 => c30 (i_eq.mpr z9)
                        refine lv_aload_n hx hb dX4_readCondition_75 rfl (lv_at hl 3 rfl) ?_
                        refine q_grS (T := TX4) C S26.1 ga0 0 kF_X4_39 dX4_readCondition_76 rfl rfl (by decide) rfl (by decide) kSF_X4_tape (fun g31 => ?_)
                        rw [show fR D H26 4 a0 0 = tp from (S26.2.1.fR ga0 rfl (by decide) (by decide +kernel)).trans htp]
                        refine callV_Ev C S26 (c_X9_next_f l D G tp T c4 gtp) kV_X4_47 gtp (⟨trivial, ts26⟩) (by decide +kernel) dX4_readCondition_79 hl.1 rfl rfl (by decide) cd_X9_next ⟨Nat.le_of_ble_eq_true rfl, Nat.le_of_ble_eq_true rfl, Nat.le_of_ble_eq_true rfl, Nat.le_of_ble_eq_true rfl, Nat.le_of_ble_eq_true rfl⟩ (fun H32 L32 S32 K32 q32 => ?_)
                        obtain ⟨q32, fq32⟩ := q32
                        have tk32 : Lw D s.heap H32 a0 := tk26.trans (Lw.keep S26.1 ga0 K32 (by decide +kernel) (by decide +kernel) (by decide +kernel))
                        obtain ⟨v33, ev33⟩ : ∃ y : Int32, y = x4_7 + (1) := ⟨_, rfl⟩
                        have k_1 : (1 : Int32).toInt = 1 := by decide
                        have f34 : v33.toInt = x4_7.toInt + (1) := by rw [ev33]; exact i_addc k_1 (by omega) (by omega)
                        refine lv_iinc (v := v33) (lv' := [(4, .int v33), (2, .int v29), (3, .int v9), (0, .ref a0), (1, .int x1)]) hx hb dX4_readCondition_82 hl (k := 2) rfl (by rw [ev33]; rfl) (by decide) rfl (fun ls hl => ?_)
                        refine lv_goto (tgt := 7) hx hb dX4_readCondition_85 (by decide) ?_
                        exact ih7 v33 v9 v29 (nx T c4) H32 L32 ls S32 (by omega) (by omega) (by omega) fq32 (by rw [u7_1]; exact conR_st (by omega) y4 (by simp [y4, y9, y29])) tk32 (by omega) (lv_sub hl [0, 2, 1, 3, 4] rfl)
                      · have b30 : v29.toInt = (0 : Int32).toInt := i_eq.mp c30
                        exact absurd b30 (by omega)
                    · skip
                      refine lv_istore_n (lv' := [(2, .int v29), (3, .int v9), (4, .int x4_7), (0, .ref a0), (1, .int x1)]) hx hb dX4_readCondition_68 rfl hl (by decide) rfl (fun ls hl => ?_)
                      refine lv_iload_n hx hb dX4_readCondition_69 rfl (lv_at hl 0 rfl) ?_
                      refine lv_if_ne (tgt := 75) hx hb dX4_readCondition_70 (by decide) (fun c35 => ?_) (fun c35 => ?_)
                      · have b35 : ¬ v29.toInt = (0 : Int32).toInt := fun z9 => c35 (i_eq.mpr z9)
                        exact absurd b35 (by omega)
                      · have b35 : v29.toInt = (0 : Int32).toInt := i_eq.mp c35
                        refine lv_iconst (v := 1) hx hb dX4_readCondition_73 (by decide) ?_
                        have k_1 : (1 : Int32).toInt = 1 := by decide
                        exact retE_z hQ C S26 hr dX4_readCondition_74 (z01 (by omega) (by omega)) (⟨⟨by omega, tk26⟩, Rs.ok (by rw [u7_1]; exact conR_ok (by omega) y4 (by simp [y4, y9, y29]) (by simp [y4, y9, y29])) (by omega) ts26⟩)
            · have b6 : ¬ x3_7.toInt = (0 : Int32).toInt := fun z9 => c6 (i_eq.mpr z9)
              refine lv_aload_n hx hb dX4_readCondition_29 rfl (lv_at hl 3 rfl) ?_
              refine lv_bipush (v := -17) hx hb dX4_readCondition_30 (by decide) ?_
              have k_m17 : (-17 : Int32).toInt = -17 := by decide
              refine callV_Ev C S4 (c_X4_put l D G a0 (-17 : Int32) ga0) kV_X4_55 ga0 (trivial) (by decide +kernel) dX4_readCondition_32 hl.1 rfl rfl (by decide) cd_X4_put ⟨Nat.le_of_ble_eq_true rfl, Nat.le_of_ble_eq_true rfl, Nat.le_of_ble_eq_true rfl, Nat.le_of_ble_eq_true rfl, Nat.le_of_ble_eq_true rfl⟩ (fun H36 L36 S36 K36 q36 => ?_)
              obtain ⟨qa36, qb36, tq36⟩ := q36
              have tk36 : Lw D s.heap H36 a0 := tk4.trans tq36
              have ts36 := ts4.keep S4.1 gtp K36 (by decide +kernel)
              refine lv_aload_n hx hb dX4_readCondition_35 rfl (lv_at hl 3 rfl) ?_
              refine q_grS (T := TX4) C S36.1 ga0 0 kF_X4_39 dX4_readCondition_36 rfl rfl (by decide) rfl (by decide) kSF_X4_tape (fun g37 => ?_)
              rw [show fR D H36 4 a0 0 = tp from (S36.2.1.fR ga0 rfl (by decide) (by decide +kernel)).trans htp]
              refine q_lds C ks_X4_78 dX4_readCondition_39 (fun a38 ha38 wa38 => ?_)
              refine callV_Pi C S36.1 S36.2.1.2.1 (c_X9_isWord_f l D G tp a38 3 w_and T c4 gtp ha38 (Wc.of wa38 kw_and)) kV_X4_61 gtp (⟨trivial, ts36⟩) dX4_readCondition_41 hl.1 rfl rfl (by decide) cd_X9_isWord ⟨Nat.le_of_ble_eq_true rfl, Nat.le_of_ble_eq_true rfl, Nat.le_of_ble_eq_true rfl, Nat.le_of_ble_eq_true rfl, Nat.le_of_ble_eq_true rfl⟩ (fun v39 q39 => ?_)
              obtain ⟨q39, fq39⟩ := q39
              rcases fq39 with ⟨z39, y39⟩ | ⟨z39, y39⟩
              · skip
                refine lv_istore_n (lv' := [(3, .int v39), (4, .int x4_7), (2, .int x2_7), (0, .ref a0), (1, .int x1)]) hx hb dX4_readCondition_44 rfl hl (by decide) rfl (fun ls hl => ?_)
                refine lv_iload_n hx hb dX4_readCondition_45 rfl (lv_at hl 0 rfl) ?_
                refine lv_if_ne (tgt := 75) hx hb dX4_readCondition_46 (by decide) (fun c40 => ?_) (fun c40 => ?_)
                · have b40 : ¬ v39.toInt = (0 : Int32).toInt := fun z9 => c40 (i_eq.mpr z9)
                  refine lv_aload_n hx hb dX4_readCondition_75 rfl (lv_at hl 3 rfl) ?_
                  refine q_grS (T := TX4) C S36.1 ga0 0 kF_X4_39 dX4_readCondition_76 rfl rfl (by decide) rfl (by decide) kSF_X4_tape (fun g41 => ?_)
                  rw [show fR D H36 4 a0 0 = tp from (S36.2.1.fR ga0 rfl (by decide) (by decide +kernel)).trans htp]
                  refine callV_Ev C S36 (c_X9_next_f l D G tp T c4 gtp) kV_X4_47 gtp (⟨trivial, ts36⟩) (by decide +kernel) dX4_readCondition_79 hl.1 rfl rfl (by decide) cd_X9_next ⟨Nat.le_of_ble_eq_true rfl, Nat.le_of_ble_eq_true rfl, Nat.le_of_ble_eq_true rfl, Nat.le_of_ble_eq_true rfl, Nat.le_of_ble_eq_true rfl⟩ (fun H42 L42 S42 K42 q42 => ?_)
                  obtain ⟨q42, fq42⟩ := q42
                  have tk42 : Lw D s.heap H42 a0 := tk36.trans (Lw.keep S36.1 ga0 K42 (by decide +kernel) (by decide +kernel) (by decide +kernel))
                  obtain ⟨v43, ev43⟩ : ∃ y : Int32, y = x4_7 + (1) := ⟨_, rfl⟩
                  have k_1 : (1 : Int32).toInt = 1 := by decide
                  have f44 : v43.toInt = x4_7.toInt + (1) := by rw [ev43]; exact i_addc k_1 (by omega) (by omega)
                  refine lv_iinc (v := v43) (lv' := [(4, .int v43), (3, .int v39), (2, .int x2_7), (0, .ref a0), (1, .int x1)]) hx hb dX4_readCondition_82 hl (k := 1) rfl (by rw [ev43]; rfl) (by decide) rfl (fun ls hl => ?_)
                  refine lv_goto (tgt := 7) hx hb dX4_readCondition_85 (by decide) ?_
                  exact ih7 v43 v39 x2_7 (nx T c4) H42 L42 ls S42 (by omega) (by omega) (by omega) fq42 (by rw [u7_1]; exact conR_st (by omega) y4 (by simp [y4, y39])) tk42 (by omega) (lv_sub hl [0, 1, 2, 3, 4] rfl)
                · have b40 : v39.toInt = (0 : Int32).toInt := i_eq.mp c40
                  exact absurd b40 (by omega)
              · skip
                refine lv_istore_n (lv' := [(3, .int v39), (4, .int x4_7), (2, .int x2_7), (0, .ref a0), (1, .int x1)]) hx hb dX4_readCondition_44 rfl hl (by decide) rfl (fun ls hl => ?_)
                refine lv_iload_n hx hb dX4_readCondition_45 rfl (lv_at hl 0 rfl) ?_
                refine lv_if_ne (tgt := 75) hx hb dX4_readCondition_46 (by decide) (fun c45 => ?_) (fun c45 => ?_)
                · have b45 : ¬ v39.toInt = (0 : Int32).toInt := fun z9 => c45 (i_eq.mpr z9)
                  exact absurd b45 (by omega)
                · have b45 : v39.toInt = (0 : Int32).toInt := i_eq.mp c45
                  refine lv_iload_n hx hb dX4_readCondition_49 rfl (lv_at hl 2 rfl) ?_
                  refine lv_if_eq (tgt := 59) hx hb dX4_readCondition_50 (by decide) (fun c46 => ?_) (fun c46 => ?_)
                  · have b46 : x2_7.toInt = (0 : Int32).toInt := i_eq.mp c46
                    refine lv_aload_n hx hb dX4_readCondition_59 rfl (lv_at hl 3 rfl) ?_
                    refine q_grS (T := TX4) C S36.1 ga0 0 kF_X4_39 dX4_readCondition_60 rfl rfl (by decide) rfl (by decide) kSF_X4_tape (fun g47 => ?_)
                    rw [show fR D H36 4 a0 0 = tp from (S36.2.1.fR ga0 rfl (by decide) (by decide +kernel)).trans htp]
                    refine q_lds C ks_X4_80 dX4_readCondition_63 (fun a48 ha48 wa48 => ?_)
                    refine callV_Pi C S36.1 S36.2.1.2.1 (c_X9_isWord_f l D G tp a48 2 w_or T c4 gtp ha48 (Wc.of wa48 kw_or)) kV_X4_61 gtp (⟨trivial, ts36⟩) dX4_readCondition_65 hl.1 rfl rfl (by decide) cd_X9_isWord ⟨Nat.le_of_ble_eq_true rfl, Nat.le_of_ble_eq_true rfl, Nat.le_of_ble_eq_true rfl, Nat.le_of_ble_eq_true rfl, Nat.le_of_ble_eq_true rfl⟩ (fun v49 q49 => ?_)
                    obtain ⟨q49, fq49⟩ := q49
                    rcases fq49 with ⟨z49, y49⟩ | ⟨z49, y49⟩
                    · skip
                      refine lv_istore_n (lv' := [(2, .int v49), (3, .int v39), (4, .int x4_7), (0, .ref a0), (1, .int x1)]) hx hb dX4_readCondition_68 rfl hl (by decide) rfl (fun ls hl => ?_)
                      refine lv_iload_n hx hb dX4_readCondition_69 rfl (lv_at hl 0 rfl) ?_
                      refine lv_if_ne (tgt := 75) hx hb dX4_readCondition_70 (by decide) (fun c50 => ?_) (fun c50 => ?_)
                      · have b50 : ¬ v49.toInt = (0 : Int32).toInt := fun z9 => c50 (i_eq.mpr z9)
                        refine lv_aload_n hx hb dX4_readCondition_75 rfl (lv_at hl 3 rfl) ?_
                        refine q_grS (T := TX4) C S36.1 ga0 0 kF_X4_39 dX4_readCondition_76 rfl rfl (by decide) rfl (by decide) kSF_X4_tape (fun g51 => ?_)
                        rw [show fR D H36 4 a0 0 = tp from (S36.2.1.fR ga0 rfl (by decide) (by decide +kernel)).trans htp]
                        refine callV_Ev C S36 (c_X9_next_f l D G tp T c4 gtp) kV_X4_47 gtp (⟨trivial, ts36⟩) (by decide +kernel) dX4_readCondition_79 hl.1 rfl rfl (by decide) cd_X9_next ⟨Nat.le_of_ble_eq_true rfl, Nat.le_of_ble_eq_true rfl, Nat.le_of_ble_eq_true rfl, Nat.le_of_ble_eq_true rfl, Nat.le_of_ble_eq_true rfl⟩ (fun H52 L52 S52 K52 q52 => ?_)
                        obtain ⟨q52, fq52⟩ := q52
                        have tk52 : Lw D s.heap H52 a0 := tk36.trans (Lw.keep S36.1 ga0 K52 (by decide +kernel) (by decide +kernel) (by decide +kernel))
                        obtain ⟨v53, ev53⟩ : ∃ y : Int32, y = x4_7 + (1) := ⟨_, rfl⟩
                        have k_1 : (1 : Int32).toInt = 1 := by decide
                        have f54 : v53.toInt = x4_7.toInt + (1) := by rw [ev53]; exact i_addc k_1 (by omega) (by omega)
                        refine lv_iinc (v := v53) (lv' := [(4, .int v53), (2, .int v49), (3, .int v39), (0, .ref a0), (1, .int x1)]) hx hb dX4_readCondition_82 hl (k := 2) rfl (by rw [ev53]; rfl) (by decide) rfl (fun ls hl => ?_)
                        refine lv_goto (tgt := 7) hx hb dX4_readCondition_85 (by decide) ?_
                        exact ih7 v53 v39 v49 (nx T c4) H52 L52 ls S52 (by omega) (by omega) (by omega) fq52 (by rw [u7_1]; exact conR_st (by omega) y4 (by simp [y4, y39, y49])) tk52 (by omega) (lv_sub hl [0, 2, 1, 3, 4] rfl)
                      · have b50 : v49.toInt = (0 : Int32).toInt := i_eq.mp c50
                        exact absurd b50 (by omega)
                    · skip
                      refine lv_istore_n (lv' := [(2, .int v49), (3, .int v39), (4, .int x4_7), (0, .ref a0), (1, .int x1)]) hx hb dX4_readCondition_68 rfl hl (by decide) rfl (fun ls hl => ?_)
                      refine lv_iload_n hx hb dX4_readCondition_69 rfl (lv_at hl 0 rfl) ?_
                      refine lv_if_ne (tgt := 75) hx hb dX4_readCondition_70 (by decide) (fun c55 => ?_) (fun c55 => ?_)
                      · have b55 : ¬ v49.toInt = (0 : Int32).toInt := fun z9 => c55 (i_eq.mpr z9)
                        exact absurd b55 (by omega)
                      · have b55 : v49.toInt = (0 : Int32).toInt := i_eq.mp c55
                        refine lv_iconst (v := 1) hx hb dX4_readCondition_73 (by decide) ?_
                        have k_1 : (1 : Int32).toInt = 1 := by decide
                        exact retE_z hQ C S36 hr dX4_readCondition_74 (z01 (by omega) (by omega)) (⟨⟨by omega, tk36⟩, Rs.ok (by rw [u7_1]; exact conR_ok (by omega) y4 (by simp [y4, y39, y49]) (by simp [y4, y39, y49])) (by omega) ts36⟩)
                  · have b46 : ¬ x2_7.toInt = (0 : Int32).toInt := fun z9 => c46 (i_eq.mpr z9)
                    refine lv_aload_n hx hb dX4_readCondition_53 rfl (lv_at hl 3 rfl) ?_
                    refine lv_bipush (v := -18) hx hb dX4_readCondition_54 (by decide) ?_
                    have k_m18 : (-18 : Int32).toInt = -18 := by decide
                    refine callV_Ev C S36 (c_X4_put l D G a0 (-18 : Int32) ga0) kV_X4_55 ga0 (trivial) (by decide +kernel) dX4_readCondition_56 hl.1 rfl rfl (by decide) cd_X4_put ⟨Nat.le_of_ble_eq_true rfl, Nat.le_of_ble_eq_true rfl, Nat.le_of_ble_eq_true rfl, Nat.le_of_ble_eq_true rfl, Nat.le_of_ble_eq_true rfl⟩ (fun H56 L56 S56 K56 q56 => ?_)
                    obtain ⟨qa56, qb56, tq56⟩ := q56
                    have tk56 : Lw D s.heap H56 a0 := tk36.trans tq56
                    have ts56 := ts36.keep S36.1 gtp K56 (by decide +kernel)
                    refine lv_aload_n hx hb dX4_readCondition_59 rfl (lv_at hl 3 rfl) ?_
                    refine q_grS (T := TX4) C S56.1 ga0 0 kF_X4_39 dX4_readCondition_60 rfl rfl (by decide) rfl (by decide) kSF_X4_tape (fun g57 => ?_)
                    rw [show fR D H56 4 a0 0 = tp from (S56.2.1.fR ga0 rfl (by decide) (by decide +kernel)).trans htp]
                    refine q_lds C ks_X4_80 dX4_readCondition_63 (fun a58 ha58 wa58 => ?_)
                    refine callV_Pi C S56.1 S56.2.1.2.1 (c_X9_isWord_f l D G tp a58 2 w_or T c4 gtp ha58 (Wc.of wa58 kw_or)) kV_X4_61 gtp (⟨trivial, ts56⟩) dX4_readCondition_65 hl.1 rfl rfl (by decide) cd_X9_isWord ⟨Nat.le_of_ble_eq_true rfl, Nat.le_of_ble_eq_true rfl, Nat.le_of_ble_eq_true rfl, Nat.le_of_ble_eq_true rfl, Nat.le_of_ble_eq_true rfl⟩ (fun v59 q59 => ?_)
                    obtain ⟨q59, fq59⟩ := q59
                    rcases fq59 with ⟨z59, y59⟩ | ⟨z59, y59⟩
                    · skip
                      refine lv_istore_n (lv' := [(2, .int v59), (3, .int v39), (4, .int x4_7), (0, .ref a0), (1, .int x1)]) hx hb dX4_readCondition_68 rfl hl (by decide) rfl (fun ls hl => ?_)
                      refine lv_iload_n hx hb dX4_readCondition_69 rfl (lv_at hl 0 rfl) ?_
                      refine lv_if_ne (tgt := 75) hx hb dX4_readCondition_70 (by decide) (fun c60 => ?_) (fun c60 => ?_)
                      · have b60 : ¬ v59.toInt = (0 : Int32).toInt := fun z9 => c60 (i_eq.mpr z9)
                        refine lv_aload_n hx hb dX4_readCondition_75 rfl (lv_at hl 3 rfl) ?_
                        refine q_grS (T := TX4) C S56.1 ga0 0 kF_X4_39 dX4_readCondition_76 rfl rfl (by decide) rfl (by decide) kSF_X4_tape (fun g61 => ?_)
                        rw [show fR D H56 4 a0 0 = tp from (S56.2.1.fR ga0 rfl (by decide) (by decide +kernel)).trans htp]
                        refine callV_Ev C S56 (c_X9_next_f l D G tp T c4 gtp) kV_X4_47 gtp (⟨trivial, ts56⟩) (by decide +kernel) dX4_readCondition_79 hl.1 rfl rfl (by decide) cd_X9_next ⟨Nat.le_of_ble_eq_true rfl, Nat.le_of_ble_eq_true rfl, Nat.le_of_ble_eq_true rfl, Nat.le_of_ble_eq_true rfl, Nat.le_of_ble_eq_true rfl⟩ (fun H62 L62 S62 K62 q62 => ?_)
                        obtain ⟨q62, fq62⟩ := q62
                        have tk62 : Lw D s.heap H62 a0 := tk56.trans (Lw.keep S56.1 ga0 K62 (by decide +kernel) (by decide +kernel) (by decide +kernel))
                        obtain ⟨v63, ev63⟩ : ∃ y : Int32, y = x4_7 + (1) := ⟨_, rfl⟩
                        have k_1 : (1 : Int32).toInt = 1 := by decide
                        have f64 : v63.toInt = x4_7.toInt + (1) := by rw [ev63]; exact i_addc k_1 (by omega) (by omega)
                        refine lv_iinc (v := v63) (lv' := [(4, .int v63), (2, .int v59), (3, .int v39), (0, .ref a0), (1, .int x1)]) hx hb dX4_readCondition_82 hl (k := 2) rfl (by rw [ev63]; rfl) (by decide) rfl (fun ls hl => ?_)
                        refine lv_goto (tgt := 7) hx hb dX4_readCondition_85 (by decide) ?_
                        exact ih7 v63 v39 v59 (nx T c4) H62 L62 ls S62 (by omega) (by omega) (by omega) fq62 (by rw [u7_1]; exact conR_st (by omega) y4 (by simp [y4, y39, y59])) tk62 (by omega) (lv_sub hl [0, 2, 1, 3, 4] rfl)
                      · have b60 : v59.toInt = (0 : Int32).toInt := i_eq.mp c60
                        exact absurd b60 (by omega)
                    · skip
                      refine lv_istore_n (lv' := [(2, .int v59), (3, .int v39), (4, .int x4_7), (0, .ref a0), (1, .int x1)]) hx hb dX4_readCondition_68 rfl hl (by decide) rfl (fun ls hl => ?_)
                      refine lv_iload_n hx hb dX4_readCondition_69 rfl (lv_at hl 0 rfl) ?_
                      refine lv_if_ne (tgt := 75) hx hb dX4_readCondition_70 (by decide) (fun c65 => ?_) (fun c65 => ?_)
                      · have b65 : ¬ v59.toInt = (0 : Int32).toInt := fun z9 => c65 (i_eq.mpr z9)
                        exact absurd b65 (by omega)
                      · have b65 : v59.toInt = (0 : Int32).toInt := i_eq.mp c65
                        refine lv_iconst (v := 1) hx hb dX4_readCondition_73 (by decide) ?_
                        have k_1 : (1 : Int32).toInt = 1 := by decide
                        exact retE_z hQ C S56 hr dX4_readCondition_74 (z01 (by omega) (by omega)) (⟨⟨by omega, tk56⟩, Rs.ok (by rw [u7_1]; exact conR_ok (by omega) y4 (by simp [y4, y39, y59]) (by simp [y4, y39, y59])) (by omega) ts56⟩)
          · have b5 : v4.toInt = (0 : Int32).toInt := i_eq.mp c5
            exact absurd b5 (by omega)
        · skip
          have k_0 : (0 : Int32).toInt = 0 := by decide
          refine lv_if_ne (tgt := 25) hx hb dX4_readCondition_20 (by decide) (fun c66 => ?_) (fun c66 => ?_)
          · have b66 : ¬ v4.toInt = (0 : Int32).toInt := fun z9 => c66 (i_eq.mpr z9)
            exact absurd b66 (by omega)
          · have b66 : v4.toInt = (0 : Int32).toInt := i_eq.mp c66
            refine lv_iconst (v := 0) hx hb dX4_readCondition_23 (by decide) ?_
            exact retE_z hQ C S4 hr dX4_readCondition_24 (z01 (by omega) (by omega)) (⟨⟨by omega, tk4⟩, Rs.no (by rw [u7_1]; exact conR_no (by omega) y4) (by omega) wr4⟩)
  have k_0 : (0 : Int32).toInt = 0 := by decide
  exact Lp7 401 (0 : Int32) (0 : Int32) (0 : Int32) b s.heap [] ls S (by omega) (by omega) (by omega) ts0 (congrArg (fun n9 => conR T (atm T 4) n9 b) (show 400 = 400 - (0 : Int32).toInt.toNat by decide)) tk0  (by omega) (lv_sub hl [0, 1, 2, 3, 4] rfl)

set_option maxRecDepth 100000 in
set_option maxHeartbeats 4000000 in
theorem c_X4_readAtom_d1 (l : Launch) (D : DD) (G : Nat → Nat) (a0 : Nat) (x1 : Int32) (tp : Nat) (T : Tx) (b : Nat) (ga0 : G a0 = 21) (ix1 : 1 ≤ x1.toInt ∧ x1.toInt ≤ 1) : CE l D G yX4_readAtom cX4_readAtom 4 (some .boolean) 17 [.ref a0, .int x1] (fun H => (True) ∧ (fR D H 4 a0 0 = tp ∧ TS D H tp T b)) [(2, 3), (2, 4), (2, 5), (2, 6), (2, 2), (22, 0), (21, 3)] (xI (fun H r H1 => ((0 ≤ r.toInt ∧ r.toInt ≤ 1) ∧ (Lw D H H1 a0)) ∧ (Rs D H1 tp T (atm T 5 b) r))) := by
  refine enter (by decide) (Nat.le_of_ble_eq_true rfl) ?_
  intro p e s m args below meth c ls Q hA hQ C hr hO hpre hl
  have hx := C.1
  have hb := C.2.1
  have S : Sd D G [(2, 3), (2, 4), (2, 5), (2, 6), (2, 2), (22, 0), (21, 3)] s.heap s.heap [] := Sd.start hO
  have hl : lv_has ls 4 [(0, .ref a0), (1, .int x1)] := hl
  obtain ⟨hpre, hf⟩ := hpre
  obtain ⟨htp, ts0⟩ := hf
  have gtp : G tp = 2 := by rw [← htp]; exact hO.rol ga0 rfl (by decide) rfl
  have hT : T.2 ≤ 400 := ts0.le hO gtp
  have tk0 : Lw D s.heap s.heap a0 := Lw.refl
  refine lv_aload_n hx hb dX4_readAtom_0 rfl (lv_at hl 0 rfl) ?_
  refine q_grS (T := TX4) C S.1 ga0 0 kF_X4_39 dX4_readAtom_1 rfl rfl (by decide) rfl (by decide) kSF_X4_tape (fun g1 => ?_)
  rw [show fR D s.heap 4 a0 0 = tp from htp]
  refine q_lds C ks_X4_82 dX4_readAtom_4 (fun a2 ha2 wa2 => ?_)
  refine callV_Pi C S.1 S.2.1.2.1 (c_X9_isWord_f l D G tp a2 3 w_not T b gtp ha2 (Wc.of wa2 kw_not)) kV_X4_61 gtp (⟨trivial, ts0⟩) dX4_readAtom_6 hl.1 rfl rfl (by decide) cd_X9_isWord ⟨Nat.le_of_ble_eq_true rfl, Nat.le_of_ble_eq_true rfl, Nat.le_of_ble_eq_true rfl, Nat.le_of_ble_eq_true rfl, Nat.le_of_ble_eq_true rfl⟩ (fun v3 q3 => ?_)
  obtain ⟨q3, fq3⟩ := q3
  rcases fq3 with ⟨z3, y3⟩ | ⟨z3, y3⟩
  · skip
    refine lv_istore_n (lv' := [(2, .int v3), (0, .ref a0), (1, .int x1)]) hx hb dX4_readAtom_9 rfl hl (by decide) rfl (fun ls hl => ?_)
    refine lv_iload_n hx hb dX4_readAtom_10 rfl (lv_at hl 0 rfl) ?_
    have k_0 : (0 : Int32).toInt = 0 := by decide
    refine lv_if_ne (tgt := 26) hx hb dX4_readAtom_11 (by decide) (fun c4 => ?_) (fun c4 => ?_)
    · have b4 : ¬ v3.toInt = (0 : Int32).toInt := fun z9 => c4 (i_eq.mpr z9)
      refine lv_iload_n hx hb dX4_readAtom_26 rfl (lv_at hl 2 rfl) ?_
      refine lv_bipush (v := 6) hx hb dX4_readAtom_27 (by decide) ?_
      have k_6 : (6 : Int32).toInt = 6 := by decide
      refine lv_icmp_lt (tgt := 40) hx hb dX4_readAtom_29 (by decide) (fun c5 => ?_) (fun c5 => ?_)
      · have b5 : x1.toInt < (6 : Int32).toInt := i_lt.mp c5
        refine lv_aload_n hx hb dX4_readAtom_40 rfl (lv_at hl 1 rfl) ?_
        refine q_grS (T := TX4) C S.1 ga0 0 kF_X4_39 dX4_readAtom_41 rfl rfl (by decide) rfl (by decide) kSF_X4_tape (fun g6 => ?_)
        rw [show fR D s.heap 4 a0 0 = tp from htp]
        refine callV_Ev C S (c_X9_next_f l D G tp T b gtp) kV_X4_47 gtp (⟨trivial, ts0⟩) (by decide +kernel) dX4_readAtom_44 hl.1 rfl rfl (by decide) cd_X9_next ⟨Nat.le_of_ble_eq_true rfl, Nat.le_of_ble_eq_true rfl, Nat.le_of_ble_eq_true rfl, Nat.le_of_ble_eq_true rfl, Nat.le_of_ble_eq_true rfl⟩ (fun H7 L7 S7 K7 q7 => ?_)
        obtain ⟨q7, fq7⟩ := q7
        have tk7 : Lw D s.heap H7 a0 := tk0.trans (Lw.keep S.1 ga0 K7 (by decide +kernel) (by decide +kernel) (by decide +kernel))
        refine lv_iload_n hx hb dX4_readAtom_47 rfl (lv_at hl 0 rfl) ?_
        refine lv_if_ne (tgt := 79) hx hb dX4_readAtom_48 (by decide) (fun c8 => ?_) (fun c8 => ?_)
        · have b8 : ¬ v3.toInt = (0 : Int32).toInt := fun z9 => c8 (i_eq.mpr z9)
          refine lv_aload_n hx hb dX4_readAtom_79 rfl (lv_at hl 1 rfl) ?_
          refine lv_iload_n hx hb dX4_readAtom_80 rfl (lv_at hl 2 rfl) ?_
          refine lv_iconst (v := 1) hx hb dX4_readAtom_81 (by decide) ?_
          have k_1 : (1 : Int32).toInt = 1 := by decide
          refine lv_iadd hx hb dX4_readAtom_82 ?_
          refine lv_topi (fun v9 ev9 => ?_)
          have f10 : v9.toInt = x1.toInt + (1 : Int32).toInt := by rw [ev9]; exact i_add (by omega) (by omega)
          refine callV_Ei C S7 (c_X4_readAtom_d2 l D G a0 v9 tp T (nx T b) ga0 (by omega)) kV_X4_75 ga0 (⟨trivial, ⟨(S7.2.1.fR ga0 rfl (by decide) (by decide +kernel)).trans htp, fq7⟩⟩) (by decide +kernel) dX4_readAtom_83 hl.1 rfl rfl (by decide) cd_X4_readAtom ⟨Nat.le_of_ble_eq_true rfl, Nat.le_of_ble_eq_true rfl, Nat.le_of_ble_eq_true rfl, Nat.le_of_ble_eq_true rfl, Nat.le_of_ble_eq_true rfl⟩ (fun v11 H11 L11 S11 K11 q11 => ?_)
          obtain ⟨q11, fq11⟩ := q11
          obtain ⟨q11, tq11⟩ := q11
          have tk11 : Lw D s.heap H11 a0 := tk7.trans tq11
          rcases fq11 with ⟨c11, y11, z11, ts11⟩ | ⟨e11, y11, z11, wr11⟩
          · skip
            refine lv_if_ne (tgt := 91) hx hb dX4_readAtom_86 (by decide) (fun c12 => ?_) (fun c12 => ?_)
            · have b12 : ¬ v11.toInt = (0 : Int32).toInt := fun z9 => c12 (i_eq.mpr z9)
              refine lv_aload_n hx hb dX4_readAtom_91 rfl (lv_at hl 1 rfl) ?_
              refine lv_bipush (v := -13) hx hb dX4_readAtom_92 (by decide) ?_
              have k_m13 : (-13 : Int32).toInt = -13 := by decide
              refine callV_Ev C S11 (c_X4_put l D G a0 (-13 : Int32) ga0) kV_X4_55 ga0 (trivial) (by decide +kernel) dX4_readAtom_94 hl.1 rfl rfl (by decide) cd_X4_put ⟨Nat.le_of_ble_eq_true rfl, Nat.le_of_ble_eq_true rfl, Nat.le_of_ble_eq_true rfl, Nat.le_of_ble_eq_true rfl, Nat.le_of_ble_eq_true rfl⟩ (fun H13 L13 S13 K13 q13 => ?_)
              obtain ⟨qa13, qb13, tq13⟩ := q13
              have tk13 : Lw D s.heap H13 a0 := tk11.trans tq13
              have ts13 := ts11.keep S11.1 gtp K13 (by decide +kernel)
              refine lv_iconst (v := 1) hx hb dX4_readAtom_97 (by decide) ?_
              exact retE_z hQ C S13 hr dX4_readAtom_98 (z01 (by omega) (by omega)) (⟨⟨by omega, tk13⟩, Rs.ok (by rw [atm_s]; simp [clo, tlF, y3, y11]) (by omega) ts13⟩)
            · have b12 : v11.toInt = (0 : Int32).toInt := i_eq.mp c12
              exact absurd b12 (by omega)
          · skip
            refine lv_if_ne (tgt := 91) hx hb dX4_readAtom_86 (by decide) (fun c14 => ?_) (fun c14 => ?_)
            · have b14 : ¬ v11.toInt = (0 : Int32).toInt := fun z9 => c14 (i_eq.mpr z9)
              exact absurd b14 (by omega)
            · have b14 : v11.toInt = (0 : Int32).toInt := i_eq.mp c14
              refine lv_iconst (v := 0) hx hb dX4_readAtom_89 (by decide) ?_
              exact retE_z hQ C S11 hr dX4_readAtom_90 (z01 (by omega) (by omega)) (⟨⟨by omega, tk11⟩, Rs.no (by rw [atm_s]; simp [clo, tlF, y3, y11]) (by omega) wr11⟩)
        · have b8 : v3.toInt = (0 : Int32).toInt := i_eq.mp c8
          exact absurd b8 (by omega)
      · have b5 : ¬ x1.toInt < (6 : Int32).toInt := fun z9 => c5 (i_lt.mpr z9)
        exact absurd b5 (by omega)
    · have b4 : v3.toInt = (0 : Int32).toInt := i_eq.mp c4
      exact absurd b4 (by omega)
  · skip
    refine lv_istore_n (lv' := [(2, .int v3), (0, .ref a0), (1, .int x1)]) hx hb dX4_readAtom_9 rfl hl (by decide) rfl (fun ls hl => ?_)
    refine lv_iload_n hx hb dX4_readAtom_10 rfl (lv_at hl 0 rfl) ?_
    have k_0 : (0 : Int32).toInt = 0 := by decide
    refine lv_if_ne (tgt := 26) hx hb dX4_readAtom_11 (by decide) (fun c15 => ?_) (fun c15 => ?_)
    · have b15 : ¬ v3.toInt = (0 : Int32).toInt := fun z9 => c15 (i_eq.mpr z9)
      exact absurd b15 (by omega)
    · have b15 : v3.toInt = (0 : Int32).toInt := i_eq.mp c15
      refine lv_aload_n hx hb dX4_readAtom_14 rfl (lv_at hl 1 rfl) ?_
      refine q_grS (T := TX4) C S.1 ga0 0 kF_X4_39 dX4_readAtom_15 rfl rfl (by decide) rfl (by decide) kSF_X4_tape (fun g16 => ?_)
      rw [show fR D s.heap 4 a0 0 = tp from htp]
      refine lv_bipush (v := 40) hx hb dX4_readAtom_18 (by decide) ?_
      have k_40 : (40 : Int32).toInt = 40 := by decide
      refine callV_Pi C S.1 S.2.1.2.1 (c_X9_isSign_f l D G tp (40 : Int32) 40 T b gtp (by omega) (by decide)) kV_X4_84 gtp (⟨trivial, ts0⟩) dX4_readAtom_20 hl.1 rfl rfl (by decide) cd_X9_isSign ⟨Nat.le_of_ble_eq_true rfl, Nat.le_of_ble_eq_true rfl, Nat.le_of_ble_eq_true rfl, Nat.le_of_ble_eq_true rfl, Nat.le_of_ble_eq_true rfl⟩ (fun v17 q17 => ?_)
      obtain ⟨q17, fq17⟩ := q17
      rcases fq17 with ⟨z17, y17⟩ | ⟨z17, y17⟩
      · skip
        refine lv_if_eq (tgt := 99) hx hb dX4_readAtom_23 (by decide) (fun c18 => ?_) (fun c18 => ?_)
        · have b18 : v17.toInt = (0 : Int32).toInt := i_eq.mp c18
          exact absurd b18 (by omega)
        · have b18 : ¬ v17.toInt = (0 : Int32).toInt := fun z9 => c18 (i_eq.mpr z9)
          refine lv_iload_n hx hb dX4_readAtom_26 rfl (lv_at hl 2 rfl) ?_
          refine lv_bipush (v := 6) hx hb dX4_readAtom_27 (by decide) ?_
          have k_6 : (6 : Int32).toInt = 6 := by decide
          refine lv_icmp_lt (tgt := 40) hx hb dX4_readAtom_29 (by decide) (fun c19 => ?_) (fun c19 => ?_)
          · have b19 : x1.toInt < (6 : Int32).toInt := i_lt.mp c19
            refine lv_aload_n hx hb dX4_readAtom_40 rfl (lv_at hl 1 rfl) ?_
            refine q_grS (T := TX4) C S.1 ga0 0 kF_X4_39 dX4_readAtom_41 rfl rfl (by decide) rfl (by decide) kSF_X4_tape (fun g20 => ?_)
            rw [show fR D s.heap 4 a0 0 = tp from htp]
            refine callV_Ev C S (c_X9_next_f l D G tp T b gtp) kV_X4_47 gtp (⟨trivial, ts0⟩) (by decide +kernel) dX4_readAtom_44 hl.1 rfl rfl (by decide) cd_X9_next ⟨Nat.le_of_ble_eq_true rfl, Nat.le_of_ble_eq_true rfl, Nat.le_of_ble_eq_true rfl, Nat.le_of_ble_eq_true rfl, Nat.le_of_ble_eq_true rfl⟩ (fun H21 L21 S21 K21 q21 => ?_)
            obtain ⟨q21, fq21⟩ := q21
            have tk21 : Lw D s.heap H21 a0 := tk0.trans (Lw.keep S.1 ga0 K21 (by decide +kernel) (by decide +kernel) (by decide +kernel))
            refine lv_iload_n hx hb dX4_readAtom_47 rfl (lv_at hl 0 rfl) ?_
            refine lv_if_ne (tgt := 79) hx hb dX4_readAtom_48 (by decide) (fun c22 => ?_) (fun c22 => ?_)
            · have b22 : ¬ v3.toInt = (0 : Int32).toInt := fun z9 => c22 (i_eq.mpr z9)
              exact absurd b22 (by omega)
            · have b22 : v3.toInt = (0 : Int32).toInt := i_eq.mp c22
              refine lv_aload_n hx hb dX4_readAtom_51 rfl (lv_at hl 1 rfl) ?_
              refine lv_iload_n hx hb dX4_readAtom_52 rfl (lv_at hl 2 rfl) ?_
              refine lv_iconst (v := 1) hx hb dX4_readAtom_53 (by decide) ?_
              have k_1 : (1 : Int32).toInt = 1 := by decide
              refine lv_iadd hx hb dX4_readAtom_54 ?_
              refine lv_topi (fun v23 ev23 => ?_)
              have f24 : v23.toInt = x1.toInt + (1 : Int32).toInt := by rw [ev23]; exact i_add (by omega) (by omega)
              refine callV_Ei C S21 (c_X4_readCondition_d2 l D G a0 v23 tp T (nx T b) ga0 (by omega)) kV_X4_65 ga0 (⟨trivial, ⟨(S21.2.1.fR ga0 rfl (by decide) (by decide +kernel)).trans htp, fq21⟩⟩) (by decide +kernel) dX4_readAtom_55 hl.1 rfl rfl (by decide) cd_X4_readCondition ⟨Nat.le_of_ble_eq_true rfl, Nat.le_of_ble_eq_true rfl, Nat.le_of_ble_eq_true rfl, Nat.le_of_ble_eq_true rfl, Nat.le_of_ble_eq_true rfl⟩ (fun v25 H25 L25 S25 K25 q25 => ?_)
              obtain ⟨q25, fq25⟩ := q25
              obtain ⟨q25, tq25⟩ := q25
              have tk25 : Lw D s.heap H25 a0 := tk21.trans tq25
              rcases fq25 with ⟨c25, y25, z25, ts25⟩ | ⟨e25, y25, z25, wr25⟩
              · skip
                refine lv_if_eq (tgt := 77) hx hb dX4_readAtom_58 (by decide) (fun c26 => ?_) (fun c26 => ?_)
                · have b26 : v25.toInt = (0 : Int32).toInt := i_eq.mp c26
                  exact absurd b26 (by omega)
                · have b26 : ¬ v25.toInt = (0 : Int32).toInt := fun z9 => c26 (i_eq.mpr z9)
                  refine lv_aload_n hx hb dX4_readAtom_61 rfl (lv_at hl 1 rfl) ?_
                  refine q_grS (T := TX4) C S25.1 ga0 0 kF_X4_39 dX4_readAtom_62 rfl rfl (by decide) rfl (by decide) kSF_X4_tape (fun g27 => ?_)
                  rw [show fR D H25 4 a0 0 = tp from (S25.2.1.fR ga0 rfl (by decide) (by decide +kernel)).trans htp]
                  refine lv_bipush (v := 41) hx hb dX4_readAtom_65 (by decide) ?_
                  have k_41 : (41 : Int32).toInt = 41 := by decide
                  refine callV_Ei C S25 (c_X9_takeSign_f l D G tp (41 : Int32) 41 T c25 gtp (by omega) (by decide)) kV_X4_88 gtp (⟨trivial, ts25⟩) (by decide +kernel) dX4_readAtom_67 hl.1 rfl rfl (by decide) cd_X9_takeSign ⟨Nat.le_of_ble_eq_true rfl, Nat.le_of_ble_eq_true rfl, Nat.le_of_ble_eq_true rfl, Nat.le_of_ble_eq_true rfl, Nat.le_of_ble_eq_true rfl⟩ (fun v28 H28 L28 S28 K28 q28 => ?_)
                  obtain ⟨q28, fq28⟩ := q28
                  have tk28 : Lw D s.heap H28 a0 := tk25.trans (Lw.keep S25.1 ga0 K28 (by decide +kernel) (by decide +kernel) (by decide +kernel))
                  rcases fq28 with ⟨c28, y28, z28, ts28⟩ | ⟨e28, y28, z28, wr28⟩
                  · skip
                    refine lv_if_eq (tgt := 77) hx hb dX4_readAtom_70 (by decide) (fun c29 => ?_) (fun c29 => ?_)
                    · have b29 : v28.toInt = (0 : Int32).toInt := i_eq.mp c29
                      exact absurd b29 (by omega)
                    · have b29 : ¬ v28.toInt = (0 : Int32).toInt := fun z9 => c29 (i_eq.mpr z9)
                      refine lv_iconst (v := 1) hx hb dX4_readAtom_73 (by decide) ?_
                      refine lv_goto (tgt := 78) hx hb dX4_readAtom_74 (by decide) ?_
                      exact retE_z hQ C S28 hr dX4_readAtom_78 (z01 (by omega) (by omega)) (⟨⟨by omega, tk28⟩, Rs.ok (by rw [atm_s]; simp [clo, tlF, y3, y17, y25, y28]) (by omega) ts28⟩)
                  · skip
                    refine lv_if_eq (tgt := 77) hx hb dX4_readAtom_70 (by decide) (fun c30 => ?_) (fun c30 => ?_)
                    · have b30 : v28.toInt = (0 : Int32).toInt := i_eq.mp c30
                      refine lv_iconst (v := 0) hx hb dX4_readAtom_77 (by decide) ?_
                      exact retE_z hQ C S28 hr dX4_readAtom_78 (z01 (by omega) (by omega)) (⟨⟨by omega, tk28⟩, Rs.no (by rw [atm_s]; simp [clo, tlF, y3, y17, y25, y28]) (by omega) wr28⟩)
                    · have b30 : ¬ v28.toInt = (0 : Int32).toInt := fun z9 => c30 (i_eq.mpr z9)
                      exact absurd b30 (by omega)
              · skip
                refine lv_if_eq (tgt := 77) hx hb dX4_readAtom_58 (by decide) (fun c31 => ?_) (fun c31 => ?_)
                · have b31 : v25.toInt = (0 : Int32).toInt := i_eq.mp c31
                  refine lv_iconst (v := 0) hx hb dX4_readAtom_77 (by decide) ?_
                  exact retE_z hQ C S25 hr dX4_readAtom_78 (z01 (by omega) (by omega)) (⟨⟨by omega, tk25⟩, Rs.no (by rw [atm_s]; simp [clo, tlF, y3, y17, y25]) (by omega) wr25⟩)
                · have b31 : ¬ v25.toInt = (0 : Int32).toInt := fun z9 => c31 (i_eq.mpr z9)
                  exact absurd b31 (by omega)
          · have b19 : ¬ x1.toInt < (6 : Int32).toInt := fun z9 => c19 (i_lt.mpr z9)
            exact absurd b19 (by omega)
      · skip
        refine lv_if_eq (tgt := 99) hx hb dX4_readAtom_23 (by decide) (fun c32 => ?_) (fun c32 => ?_)
        · have b32 : v17.toInt = (0 : Int32).toInt := i_eq.mp c32
          refine lv_aload_n hx hb dX4_readAtom_99 rfl (lv_at hl 1 rfl) ?_
          refine callV_Pi C S.1 S.2.1.2.1 (c_X4_presentTruth l D G a0 tp T b ga0) kV_X4_91 ga0 (⟨trivial, ⟨htp, ts0⟩⟩) dX4_readAtom_100 hl.1 rfl rfl (by decide) cd_X4_presentTruth ⟨Nat.le_of_ble_eq_true rfl, Nat.le_of_ble_eq_true rfl, Nat.le_of_ble_eq_true rfl, Nat.le_of_ble_eq_true rfl, Nat.le_of_ble_eq_true rfl⟩ (fun v33 q33 => ?_)
          obtain ⟨q33, fq33⟩ := q33
          refine lv_istore_n (lv' := [(3, .int v33), (2, .int v3), (0, .ref a0), (1, .int x1)]) hx hb dX4_readAtom_103 rfl hl (by decide) rfl (fun ls hl => ?_)
          refine lv_iload_n hx hb dX4_readAtom_104 rfl (lv_at hl 0 rfl) ?_
          refine lv_iconst (v := -1) hx hb dX4_readAtom_105 (by decide) ?_
          have k_m1 : (-1 : Int32).toInt = -1 := by decide
          refine lv_icmp_ne (tgt := 114) hx hb dX4_readAtom_106 (by decide) (fun c34 => ?_) (fun c34 => ?_)
          · have b34 : ¬ v33.toInt = (-1 : Int32).toInt := fun z9 => c34 (i_eq.mpr z9)
            have yt35 : ¬ tru T b = -1 := by omega
            refine lv_aload_n hx hb dX4_readAtom_114 rfl (lv_at hl 2 rfl) ?_
            refine lv_iload_n hx hb dX4_readAtom_115 rfl (lv_at hl 0 rfl) ?_
            refine callV_Ev C S (c_X4_put l D G a0 v33 ga0) kV_X4_55 ga0 (trivial) (by decide +kernel) dX4_readAtom_116 hl.1 rfl rfl (by decide) cd_X4_put ⟨Nat.le_of_ble_eq_true rfl, Nat.le_of_ble_eq_true rfl, Nat.le_of_ble_eq_true rfl, Nat.le_of_ble_eq_true rfl, Nat.le_of_ble_eq_true rfl⟩ (fun H36 L36 S36 K36 q36 => ?_)
            obtain ⟨qa36, qb36, tq36⟩ := q36
            have tk36 : Lw D s.heap H36 a0 := tk0.trans tq36
            have ts36 := ts0.keep S.1 gtp K36 (by decide +kernel)
            refine lv_aload_n hx hb dX4_readAtom_119 rfl (lv_at hl 2 rfl) ?_
            refine q_grS (T := TX4) C S36.1 ga0 0 kF_X4_39 dX4_readAtom_120 rfl rfl (by decide) rfl (by decide) kSF_X4_tape (fun g37 => ?_)
            rw [show fR D H36 4 a0 0 = tp from (S36.2.1.fR ga0 rfl (by decide) (by decide +kernel)).trans htp]
            refine callV_Ev C S36 (c_X9_next_f l D G tp T b gtp) kV_X4_47 gtp (⟨trivial, ts36⟩) (by decide +kernel) dX4_readAtom_123 hl.1 rfl rfl (by decide) cd_X9_next ⟨Nat.le_of_ble_eq_true rfl, Nat.le_of_ble_eq_true rfl, Nat.le_of_ble_eq_true rfl, Nat.le_of_ble_eq_true rfl, Nat.le_of_ble_eq_true rfl⟩ (fun H38 L38 S38 K38 q38 => ?_)
            obtain ⟨q38, fq38⟩ := q38
            have tk38 : Lw D s.heap H38 a0 := tk36.trans (Lw.keep S36.1 ga0 K38 (by decide +kernel) (by decide +kernel) (by decide +kernel))
            refine lv_iconst (v := 1) hx hb dX4_readAtom_126 (by decide) ?_
            have k_1 : (1 : Int32).toInt = 1 := by decide
            exact retE_z hQ C S38 hr dX4_readAtom_127 (z01 (by omega) (by omega)) (⟨⟨by omega, tk38⟩, Rs.ok (by rw [atm_s]; simp [clo, tlF, y3, y17, yt35]) (by omega) fq38⟩)
          · have b34 : v33.toInt = (-1 : Int32).toInt := i_eq.mp c34
            have yt39 : tru T b = -1 := by omega
            refine lv_aload_n hx hb dX4_readAtom_109 rfl (lv_at hl 2 rfl) ?_
            refine callV_Ei C S (c_X4_readComparison l D G a0 tp T b ga0) kV_X4_94 ga0 (⟨trivial, ⟨htp, ts0⟩⟩) (by decide +kernel) dX4_readAtom_110 hl.1 rfl rfl (by decide) cd_X4_readComparison ⟨Nat.le_of_ble_eq_true rfl, Nat.le_of_ble_eq_true rfl, Nat.le_of_ble_eq_true rfl, Nat.le_of_ble_eq_true rfl, Nat.le_of_ble_eq_true rfl⟩ (fun v40 H40 L40 S40 K40 q40 => ?_)
            obtain ⟨q40, fq40⟩ := q40
            obtain ⟨q40, tq40⟩ := q40
            have tk40 : Lw D s.heap H40 a0 := tk0.trans tq40
            rcases fq40 with ⟨c40, y40, z40, ts40⟩ | ⟨e40, y40, z40, wr40⟩
            · skip
              exact retE_z hQ C S40 hr dX4_readAtom_113 (z01 (by omega) (by omega)) (⟨⟨by omega, tk40⟩, Rs.ok (by rw [atm_s]; simp [clo, tlF, y3, y17, yt39, y40]) (by omega) ts40⟩)
            · skip
              exact retE_z hQ C S40 hr dX4_readAtom_113 (z01 (by omega) (by omega)) (⟨⟨by omega, tk40⟩, Rs.no (by rw [atm_s]; simp [clo, tlF, y3, y17, yt39, y40]) (by omega) wr40⟩)
        · have b32 : ¬ v17.toInt = (0 : Int32).toInt := fun z9 => c32 (i_eq.mpr z9)
          exact absurd b32 (by omega)

set_option maxRecDepth 100000 in
set_option maxHeartbeats 4000000 in
theorem c_X4_readCondition_d1 (l : Launch) (D : DD) (G : Nat → Nat) (a0 : Nat) (x1 : Int32) (tp : Nat) (T : Tx) (b : Nat) (ga0 : G a0 = 21) (ix1 : 1 ≤ x1.toInt ∧ x1.toInt ≤ 1) : CE l D G yX4_readCondition cX4_readCondition 5 (some .boolean) 18 [.ref a0, .int x1] (fun H => (True) ∧ (fR D H 4 a0 0 = tp ∧ TS D H tp T b)) [(2, 3), (2, 4), (2, 5), (2, 6), (2, 2), (22, 0), (21, 3)] (xI (fun H r H1 => ((0 ≤ r.toInt ∧ r.toInt ≤ 1) ∧ (Lw D H H1 a0)) ∧ (Rs D H1 tp T (conF T (atm T 5) b) r))) := by
  refine enter (by decide) (Nat.le_of_ble_eq_true rfl) ?_
  intro p e s m args below meth c ls Q hA hQ C hr hO hpre hl
  have hx := C.1
  have hb := C.2.1
  have S : Sd D G [(2, 3), (2, 4), (2, 5), (2, 6), (2, 2), (22, 0), (21, 3)] s.heap s.heap [] := Sd.start hO
  have hl : lv_has ls 5 [(0, .ref a0), (1, .int x1)] := hl
  obtain ⟨hpre, hf⟩ := hpre
  obtain ⟨htp, ts0⟩ := hf
  have gtp : G tp = 2 := by rw [← htp]; exact hO.rol ga0 rfl (by decide) rfl
  have hT : T.2 ≤ 400 := ts0.le hO gtp
  have tk0 : Lw D s.heap s.heap a0 := Lw.refl
  refine lv_iconst (v := 0) hx hb dX4_readCondition_0 (by decide) ?_
  refine lv_istore_n (lv' := [(2, .int (0 : Int32)), (0, .ref a0), (1, .int x1)]) hx hb dX4_readCondition_1 rfl hl (by decide) rfl (fun ls hl => ?_)
  refine lv_iconst (v := 0) hx hb dX4_readCondition_2 (by decide) ?_
  refine lv_istore_n (lv' := [(3, .int (0 : Int32)), (2, .int (0 : Int32)), (0, .ref a0), (1, .int x1)]) hx hb dX4_readCondition_3 rfl hl (by decide) rfl (fun ls hl => ?_)
  refine lv_iconst (v := 0) hx hb dX4_readCondition_4 (by decide) ?_
  refine lv_istore (lv' := [(4, .int (0 : Int32)), (3, .int (0 : Int32)), (2, .int (0 : Int32)), (0, .ref a0), (1, .int x1)]) hx hb dX4_readCondition_5 hl (by decide) rfl (fun ls hl => ?_)
  have Lp7 : ∀ (n : Nat) (x4_7 : Int32) (x3_7 : Int32) (x2_7 : Int32) (b_7 : Nat) (H_7 : Heap) (L_7 : List Loc) (ls : Array Slot), (Sd D G [(2, 3), (2, 4), (2, 5), (2, 6), (2, 2), (22, 0), (21, 3)] s.heap H_7 L_7) → (0 ≤ x4_7.toInt ∧ x4_7.toInt ≤ 400) → (0 ≤ x3_7.toInt ∧ x3_7.toInt ≤ 1) → (0 ≤ x2_7.toInt ∧ x2_7.toInt ≤ 1) → (TS D H_7 tp T b_7) → (conF T (atm T 5) b = conR T (atm T 5) (400 - x4_7.toInt.toNat) b_7) → (Lw D s.heap H_7 a0) → 401 - x4_7.toInt ≤ (n : Int) → lv_has ls 5 [(4, .int x4_7), (3, .int x3_7), (2, .int x2_7), (0, .ref a0), (1, .int x1)] → W p l e (rmU 18 0 0) s m args below meth c H_7 L_7 0 0 Q (F0 m 7 ls []) := by
    intro n
    induction n with
    | zero =>
      intro x4_7 x3_7 x2_7 b_7 H_7 L_7 ls S_7 j7_0 j7_1 j7_2 u7_0 u7_1 u7_2 hn hl
      exact absurd hn (by omega)
    | succ n ih7 =>
      intro x4_7 x3_7 x2_7 b_7 H_7 L_7 ls S_7 j7_0 j7_1 j7_2 u7_0 u7_1 u7_2 hn hl
      refine lv_iload hx hb dX4_readCondition_7 (lv_at hl 0 rfl) ?_
      refine lv_sipush (v := 400) hx hb dX4_readCondition_9 (by decide) ?_
      have k_400 : (400 : Int32).toInt = 400 := by decide
      refine lv_icmp_ge (tgt := 88) hx hb dX4_readCondition_12 (by decide) (fun c1 => ?_) (fun c1 => ?_)
      · have b1 : (400 : Int32).toInt ≤ x4_7.toInt := i_le.mp c1
        refine lv_aload_n hx hb dX4_readCondition_88 rfl (lv_at hl 3 rfl) ?_
        refine q_grS (T := TX4) C S_7.1 ga0 0 kF_X4_39 dX4_readCondition_89 rfl rfl (by decide) rfl (by decide) kSF_X4_tape (fun g2 => ?_)
        rw [show fR D H_7 4 a0 0 = tp from (S_7.2.1.fR ga0 rfl (by decide) (by decide +kernel)).trans htp]
        refine callV_Ei C S_7 (c_X9_refuse_f l D G tp T b_7 gtp) kV_X4_43 gtp (⟨trivial, u7_0⟩) (by decide +kernel) dX4_readCondition_92 hl.1 rfl rfl (by decide) cd_X9_refuse ⟨Nat.le_of_ble_eq_true rfl, Nat.le_of_ble_eq_true rfl, Nat.le_of_ble_eq_true rfl, Nat.le_of_ble_eq_true rfl, Nat.le_of_ble_eq_true rfl⟩ (fun v3 H3 L3 S3 K3 q3 => ?_)
        obtain ⟨q3, fq3⟩ := q3
        have tk3 : Lw D s.heap H3 a0 := u7_2.trans (Lw.keep S_7.1 ga0 K3 (by decide +kernel) (by decide +kernel) (by decide +kernel))
        have z3 := fq3.1
        exact retE_z hQ C S3 hr dX4_readCondition_95 (z01 (by omega) (by omega)) (⟨⟨by omega, tk3⟩, Rs.no (by rw [u7_1, show 400 - x4_7.toInt.toNat = 0 by omega]; rfl) (by omega) fq3.2⟩)
      · have b1 : ¬ (400 : Int32).toInt ≤ x4_7.toInt := fun z9 => c1 (i_le.mpr z9)
        refine lv_aload_n hx hb dX4_readCondition_15 rfl (lv_at hl 3 rfl) ?_
        refine lv_iload_n hx hb dX4_readCondition_16 rfl (lv_at hl 4 rfl) ?_
        refine callV_Ei C S_7 (c_X4_readAtom_d1 l D G a0 x1 tp T b_7 ga0 (by omega)) kV_X4_75 ga0 (⟨trivial, ⟨(S_7.2.1.fR ga0 rfl (by decide) (by decide +kernel)).trans htp, u7_0⟩⟩) (by decide +kernel) dX4_readCondition_17 hl.1 rfl rfl (by decide) cd_X4_readAtom ⟨Nat.le_of_ble_eq_true rfl, Nat.le_of_ble_eq_true rfl, Nat.le_of_ble_eq_true rfl, Nat.le_of_ble_eq_true rfl, Nat.le_of_ble_eq_true rfl⟩ (fun v4 H4 L4 S4 K4 q4 => ?_)
        obtain ⟨q4, fq4⟩ := q4
        obtain ⟨q4, tq4⟩ := q4
        have tk4 : Lw D s.heap H4 a0 := u7_2.trans tq4
        rcases fq4 with ⟨c4, y4, z4, ts4⟩ | ⟨e4, y4, z4, wr4⟩
        · skip
          have k_0 : (0 : Int32).toInt = 0 := by decide
          refine lv_if_ne (tgt := 25) hx hb dX4_readCondition_20 (by decide) (fun c5 => ?_) (fun c5 => ?_)
          · have b5 : ¬ v4.toInt = (0 : Int32).toInt := fun z9 => c5 (i_eq.mpr z9)
            refine lv_iload_n hx hb dX4_readCondition_25 rfl (lv_at hl 1 rfl) ?_
            refine lv_if_eq (tgt := 35) hx hb dX4_readCondition_26 (by decide) (fun c6 => ?_) (fun c6 => ?_)
            · have b6 : x3_7.toInt = (0 : Int32).toInt := i_eq.mp c6
              refine lv_aload_n hx hb dX4_readCondition_35 rfl (lv_at hl 3 rfl) ?_
              refine q_grS (T := TX4) C S4.1 ga0 0 kF_X4_39 dX4_readCondition_36 rfl rfl (by decide) rfl (by decide) kSF_X4_tape (fun g7 => ?_)
              rw [show fR D H4 4 a0 0 = tp from (S4.2.1.fR ga0 rfl (by decide) (by decide +kernel)).trans htp]
              refine q_lds C ks_X4_78 dX4_readCondition_39 (fun a8 ha8 wa8 => ?_)
              refine callV_Pi C S4.1 S4.2.1.2.1 (c_X9_isWord_f l D G tp a8 3 w_and T c4 gtp ha8 (Wc.of wa8 kw_and)) kV_X4_61 gtp (⟨trivial, ts4⟩) dX4_readCondition_41 hl.1 rfl rfl (by decide) cd_X9_isWord ⟨Nat.le_of_ble_eq_true rfl, Nat.le_of_ble_eq_true rfl, Nat.le_of_ble_eq_true rfl, Nat.le_of_ble_eq_true rfl, Nat.le_of_ble_eq_true rfl⟩ (fun v9 q9 => ?_)
              obtain ⟨q9, fq9⟩ := q9
              rcases fq9 with ⟨z9, y9⟩ | ⟨z9, y9⟩
              · skip
                refine lv_istore_n (lv' := [(3, .int v9), (4, .int x4_7), (2, .int x2_7), (0, .ref a0), (1, .int x1)]) hx hb dX4_readCondition_44 rfl hl (by decide) rfl (fun ls hl => ?_)
                refine lv_iload_n hx hb dX4_readCondition_45 rfl (lv_at hl 0 rfl) ?_
                refine lv_if_ne (tgt := 75) hx hb dX4_readCondition_46 (by decide) (fun c10 => ?_) (fun c10 => ?_)
                · have b10 : ¬ v9.toInt = (0 : Int32).toInt := fun z9 => c10 (i_eq.mpr z9)
                  refine lv_aload_n hx hb dX4_readCondition_75 rfl (lv_at hl 3 rfl) ?_
                  refine q_grS (T := TX4) C S4.1 ga0 0 kF_X4_39 dX4_readCondition_76 rfl rfl (by decide) rfl (by decide) kSF_X4_tape (fun g11 => ?_)
                  rw [show fR D H4 4 a0 0 = tp from (S4.2.1.fR ga0 rfl (by decide) (by decide +kernel)).trans htp]
                  refine callV_Ev C S4 (c_X9_next_f l D G tp T c4 gtp) kV_X4_47 gtp (⟨trivial, ts4⟩) (by decide +kernel) dX4_readCondition_79 hl.1 rfl rfl (by decide) cd_X9_next ⟨Nat.le_of_ble_eq_true rfl, Nat.le_of_ble_eq_true rfl, Nat.le_of_ble_eq_true rfl, Nat.le_of_ble_eq_true rfl, Nat.le_of_ble_eq_true rfl⟩ (fun H12 L12 S12 K12 q12 => ?_)
                  obtain ⟨q12, fq12⟩ := q12
                  have tk12 : Lw D s.heap H12 a0 := tk4.trans (Lw.keep S4.1 ga0 K12 (by decide +kernel) (by decide +kernel) (by decide +kernel))
                  obtain ⟨v13, ev13⟩ : ∃ y : Int32, y = x4_7 + (1) := ⟨_, rfl⟩
                  have k_1 : (1 : Int32).toInt = 1 := by decide
                  have f14 : v13.toInt = x4_7.toInt + (1) := by rw [ev13]; exact i_addc k_1 (by omega) (by omega)
                  refine lv_iinc (v := v13) (lv' := [(4, .int v13), (3, .int v9), (2, .int x2_7), (0, .ref a0), (1, .int x1)]) hx hb dX4_readCondition_82 hl (k := 1) rfl (by rw [ev13]; rfl) (by decide) rfl (fun ls hl => ?_)
                  refine lv_goto (tgt := 7) hx hb dX4_readCondition_85 (by decide) ?_
                  exact ih7 v13 v9 x2_7 (nx T c4) H12 L12 ls S12 (by omega) (by omega) (by omega) fq12 (by rw [u7_1]; exact conR_st (by omega) y4 (by simp [y4, y9])) tk12 (by omega) (lv_sub hl [0, 1, 2, 3, 4] rfl)
                · have b10 : v9.toInt = (0 : Int32).toInt := i_eq.mp c10
                  exact absurd b10 (by omega)
              · skip
                refine lv_istore_n (lv' := [(3, .int v9), (4, .int x4_7), (2, .int x2_7), (0, .ref a0), (1, .int x1)]) hx hb dX4_readCondition_44 rfl hl (by decide) rfl (fun ls hl => ?_)
                refine lv_iload_n hx hb dX4_readCondition_45 rfl (lv_at hl 0 rfl) ?_
                refine lv_if_ne (tgt := 75) hx hb dX4_readCondition_46 (by decide) (fun c15 => ?_) (fun c15 => ?_)
                · have b15 : ¬ v9.toInt = (0 : Int32).toInt := fun z9 => c15 (i_eq.mpr z9)
                  exact absurd b15 (by omega)
                · have b15 : v9.toInt = (0 : Int32).toInt := i_eq.mp c15
                  refine lv_iload_n hx hb dX4_readCondition_49 rfl (lv_at hl 2 rfl) ?_
                  refine lv_if_eq (tgt := 59) hx hb dX4_readCondition_50 (by decide) (fun c16 => ?_) (fun c16 => ?_)
                  · have b16 : x2_7.toInt = (0 : Int32).toInt := i_eq.mp c16
                    refine lv_aload_n hx hb dX4_readCondition_59 rfl (lv_at hl 3 rfl) ?_
                    refine q_grS (T := TX4) C S4.1 ga0 0 kF_X4_39 dX4_readCondition_60 rfl rfl (by decide) rfl (by decide) kSF_X4_tape (fun g17 => ?_)
                    rw [show fR D H4 4 a0 0 = tp from (S4.2.1.fR ga0 rfl (by decide) (by decide +kernel)).trans htp]
                    refine q_lds C ks_X4_80 dX4_readCondition_63 (fun a18 ha18 wa18 => ?_)
                    refine callV_Pi C S4.1 S4.2.1.2.1 (c_X9_isWord_f l D G tp a18 2 w_or T c4 gtp ha18 (Wc.of wa18 kw_or)) kV_X4_61 gtp (⟨trivial, ts4⟩) dX4_readCondition_65 hl.1 rfl rfl (by decide) cd_X9_isWord ⟨Nat.le_of_ble_eq_true rfl, Nat.le_of_ble_eq_true rfl, Nat.le_of_ble_eq_true rfl, Nat.le_of_ble_eq_true rfl, Nat.le_of_ble_eq_true rfl⟩ (fun v19 q19 => ?_)
                    obtain ⟨q19, fq19⟩ := q19
                    rcases fq19 with ⟨z19, y19⟩ | ⟨z19, y19⟩
                    · skip
                      refine lv_istore_n (lv' := [(2, .int v19), (3, .int v9), (4, .int x4_7), (0, .ref a0), (1, .int x1)]) hx hb dX4_readCondition_68 rfl hl (by decide) rfl (fun ls hl => ?_)
                      refine lv_iload_n hx hb dX4_readCondition_69 rfl (lv_at hl 0 rfl) ?_
                      refine lv_if_ne (tgt := 75) hx hb dX4_readCondition_70 (by decide) (fun c20 => ?_) (fun c20 => ?_)
                      · have b20 : ¬ v19.toInt = (0 : Int32).toInt := fun z9 => c20 (i_eq.mpr z9)
                        refine lv_aload_n hx hb dX4_readCondition_75 rfl (lv_at hl 3 rfl) ?_
                        refine q_grS (T := TX4) C S4.1 ga0 0 kF_X4_39 dX4_readCondition_76 rfl rfl (by decide) rfl (by decide) kSF_X4_tape (fun g21 => ?_)
                        rw [show fR D H4 4 a0 0 = tp from (S4.2.1.fR ga0 rfl (by decide) (by decide +kernel)).trans htp]
                        refine callV_Ev C S4 (c_X9_next_f l D G tp T c4 gtp) kV_X4_47 gtp (⟨trivial, ts4⟩) (by decide +kernel) dX4_readCondition_79 hl.1 rfl rfl (by decide) cd_X9_next ⟨Nat.le_of_ble_eq_true rfl, Nat.le_of_ble_eq_true rfl, Nat.le_of_ble_eq_true rfl, Nat.le_of_ble_eq_true rfl, Nat.le_of_ble_eq_true rfl⟩ (fun H22 L22 S22 K22 q22 => ?_)
                        obtain ⟨q22, fq22⟩ := q22
                        have tk22 : Lw D s.heap H22 a0 := tk4.trans (Lw.keep S4.1 ga0 K22 (by decide +kernel) (by decide +kernel) (by decide +kernel))
                        obtain ⟨v23, ev23⟩ : ∃ y : Int32, y = x4_7 + (1) := ⟨_, rfl⟩
                        have k_1 : (1 : Int32).toInt = 1 := by decide
                        have f24 : v23.toInt = x4_7.toInt + (1) := by rw [ev23]; exact i_addc k_1 (by omega) (by omega)
                        refine lv_iinc (v := v23) (lv' := [(4, .int v23), (2, .int v19), (3, .int v9), (0, .ref a0), (1, .int x1)]) hx hb dX4_readCondition_82 hl (k := 2) rfl (by rw [ev23]; rfl) (by decide) rfl (fun ls hl => ?_)
                        refine lv_goto (tgt := 7) hx hb dX4_readCondition_85 (by decide) ?_
                        exact ih7 v23 v9 v19 (nx T c4) H22 L22 ls S22 (by omega) (by omega) (by omega) fq22 (by rw [u7_1]; exact conR_st (by omega) y4 (by simp [y4, y9, y19])) tk22 (by omega) (lv_sub hl [0, 2, 1, 3, 4] rfl)
                      · have b20 : v19.toInt = (0 : Int32).toInt := i_eq.mp c20
                        exact absurd b20 (by omega)
                    · skip
                      refine lv_istore_n (lv' := [(2, .int v19), (3, .int v9), (4, .int x4_7), (0, .ref a0), (1, .int x1)]) hx hb dX4_readCondition_68 rfl hl (by decide) rfl (fun ls hl => ?_)
                      refine lv_iload_n hx hb dX4_readCondition_69 rfl (lv_at hl 0 rfl) ?_
                      refine lv_if_ne (tgt := 75) hx hb dX4_readCondition_70 (by decide) (fun c25 => ?_) (fun c25 => ?_)
                      · have b25 : ¬ v19.toInt = (0 : Int32).toInt := fun z9 => c25 (i_eq.mpr z9)
                        exact absurd b25 (by omega)
                      · have b25 : v19.toInt = (0 : Int32).toInt := i_eq.mp c25
                        refine lv_iconst (v := 1) hx hb dX4_readCondition_73 (by decide) ?_
                        have k_1 : (1 : Int32).toInt = 1 := by decide
                        exact retE_z hQ C S4 hr dX4_readCondition_74 (z01 (by omega) (by omega)) (⟨⟨by omega, tk4⟩, Rs.ok (by rw [u7_1]; exact conR_ok (by omega) y4 (by simp [y4, y9, y19]) (by simp [y4, y9, y19])) (by omega) ts4⟩)
                  · have b16 : ¬ x2_7.toInt = (0 : Int32).toInt := fun z9 => c16 (i_eq.mpr z9)
                    refine lv_aload_n hx hb dX4_readCondition_53 rfl (lv_at hl 3 rfl) ?_
                    refine lv_bipush (v := -18) hx hb dX4_readCondition_54 (by decide) ?_
                    have k_m18 : (-18 : Int32).toInt = -18 := by decide
                    refine callV_Ev C S4 (c_X4_put l D G a0 (-18 : Int32) ga0) kV_X4_55 ga0 (trivial) (by decide +kernel) dX4_readCondition_56 hl.1 rfl rfl (by decide) cd_X4_put ⟨Nat.le_of_ble_eq_true rfl, Nat.le_of_ble_eq_true rfl, Nat.le_of_ble_eq_true rfl, Nat.le_of_ble_eq_true rfl, Nat.le_of_ble_eq_true rfl⟩ (fun H26 L26 S26 K26 q26 => ?_)
                    obtain ⟨qa26, qb26, tq26⟩ := q26
                    have tk26 : Lw D s.heap H26 a0 := tk4.trans tq26
                    have ts26 := ts4.keep S4.1 gtp K26 (by decide +kernel)
                    refine lv_aload_n hx hb dX4_readCondition_59 rfl (lv_at hl 3 rfl) ?_
                    refine q_grS (T := TX4) C S26.1 ga0 0 kF_X4_39 dX4_readCondition_60 rfl rfl (by decide) rfl (by decide) kSF_X4_tape (fun g27 => ?_)
                    rw [show fR D H26 4 a0 0 = tp from (S26.2.1.fR ga0 rfl (by decide) (by decide +kernel)).trans htp]
                    refine q_lds C ks_X4_80 dX4_readCondition_63 (fun a28 ha28 wa28 => ?_)
                    refine callV_Pi C S26.1 S26.2.1.2.1 (c_X9_isWord_f l D G tp a28 2 w_or T c4 gtp ha28 (Wc.of wa28 kw_or)) kV_X4_61 gtp (⟨trivial, ts26⟩) dX4_readCondition_65 hl.1 rfl rfl (by decide) cd_X9_isWord ⟨Nat.le_of_ble_eq_true rfl, Nat.le_of_ble_eq_true rfl, Nat.le_of_ble_eq_true rfl, Nat.le_of_ble_eq_true rfl, Nat.le_of_ble_eq_true rfl⟩ (fun v29 q29 => ?_)
                    obtain ⟨q29, fq29⟩ := q29
                    rcases fq29 with ⟨z29, y29⟩ | ⟨z29, y29⟩
                    · skip
                      refine lv_istore_n (lv' := [(2, .int v29), (3, .int v9), (4, .int x4_7), (0, .ref a0), (1, .int x1)]) hx hb dX4_readCondition_68 rfl hl (by decide) rfl (fun ls hl => ?_)
                      refine lv_iload_n hx hb dX4_readCondition_69 rfl (lv_at hl 0 rfl) ?_
                      refine lv_if_ne (tgt := 75) hx hb dX4_readCondition_70 (by decide) (fun c30 => ?_) (fun c30 => ?_)
                      · have b30 : ¬ v29.toInt = (0 : Int32).toInt := fun z9 => c30 (i_eq.mpr z9)
                        refine lv_aload_n hx hb dX4_readCondition_75 rfl (lv_at hl 3 rfl) ?_
                        refine q_grS (T := TX4) C S26.1 ga0 0 kF_X4_39 dX4_readCondition_76 rfl rfl (by decide) rfl (by decide) kSF_X4_tape (fun g31 => ?_)
                        rw [show fR D H26 4 a0 0 = tp from (S26.2.1.fR ga0 rfl (by decide) (by decide +kernel)).trans htp]
                        refine callV_Ev C S26 (c_X9_next_f l D G tp T c4 gtp) kV_X4_47 gtp (⟨trivial, ts26⟩) (by decide +kernel) dX4_readCondition_79 hl.1 rfl rfl (by decide) cd_X9_next ⟨Nat.le_of_ble_eq_true rfl, Nat.le_of_ble_eq_true rfl, Nat.le_of_ble_eq_true rfl, Nat.le_of_ble_eq_true rfl, Nat.le_of_ble_eq_true rfl⟩ (fun H32 L32 S32 K32 q32 => ?_)
                        obtain ⟨q32, fq32⟩ := q32
                        have tk32 : Lw D s.heap H32 a0 := tk26.trans (Lw.keep S26.1 ga0 K32 (by decide +kernel) (by decide +kernel) (by decide +kernel))
                        obtain ⟨v33, ev33⟩ : ∃ y : Int32, y = x4_7 + (1) := ⟨_, rfl⟩
                        have k_1 : (1 : Int32).toInt = 1 := by decide
                        have f34 : v33.toInt = x4_7.toInt + (1) := by rw [ev33]; exact i_addc k_1 (by omega) (by omega)
                        refine lv_iinc (v := v33) (lv' := [(4, .int v33), (2, .int v29), (3, .int v9), (0, .ref a0), (1, .int x1)]) hx hb dX4_readCondition_82 hl (k := 2) rfl (by rw [ev33]; rfl) (by decide) rfl (fun ls hl => ?_)
                        refine lv_goto (tgt := 7) hx hb dX4_readCondition_85 (by decide) ?_
                        exact ih7 v33 v9 v29 (nx T c4) H32 L32 ls S32 (by omega) (by omega) (by omega) fq32 (by rw [u7_1]; exact conR_st (by omega) y4 (by simp [y4, y9, y29])) tk32 (by omega) (lv_sub hl [0, 2, 1, 3, 4] rfl)
                      · have b30 : v29.toInt = (0 : Int32).toInt := i_eq.mp c30
                        exact absurd b30 (by omega)
                    · skip
                      refine lv_istore_n (lv' := [(2, .int v29), (3, .int v9), (4, .int x4_7), (0, .ref a0), (1, .int x1)]) hx hb dX4_readCondition_68 rfl hl (by decide) rfl (fun ls hl => ?_)
                      refine lv_iload_n hx hb dX4_readCondition_69 rfl (lv_at hl 0 rfl) ?_
                      refine lv_if_ne (tgt := 75) hx hb dX4_readCondition_70 (by decide) (fun c35 => ?_) (fun c35 => ?_)
                      · have b35 : ¬ v29.toInt = (0 : Int32).toInt := fun z9 => c35 (i_eq.mpr z9)
                        exact absurd b35 (by omega)
                      · have b35 : v29.toInt = (0 : Int32).toInt := i_eq.mp c35
                        refine lv_iconst (v := 1) hx hb dX4_readCondition_73 (by decide) ?_
                        have k_1 : (1 : Int32).toInt = 1 := by decide
                        exact retE_z hQ C S26 hr dX4_readCondition_74 (z01 (by omega) (by omega)) (⟨⟨by omega, tk26⟩, Rs.ok (by rw [u7_1]; exact conR_ok (by omega) y4 (by simp [y4, y9, y29]) (by simp [y4, y9, y29])) (by omega) ts26⟩)
            · have b6 : ¬ x3_7.toInt = (0 : Int32).toInt := fun z9 => c6 (i_eq.mpr z9)
              refine lv_aload_n hx hb dX4_readCondition_29 rfl (lv_at hl 3 rfl) ?_
              refine lv_bipush (v := -17) hx hb dX4_readCondition_30 (by decide) ?_
              have k_m17 : (-17 : Int32).toInt = -17 := by decide
              refine callV_Ev C S4 (c_X4_put l D G a0 (-17 : Int32) ga0) kV_X4_55 ga0 (trivial) (by decide +kernel) dX4_readCondition_32 hl.1 rfl rfl (by decide) cd_X4_put ⟨Nat.le_of_ble_eq_true rfl, Nat.le_of_ble_eq_true rfl, Nat.le_of_ble_eq_true rfl, Nat.le_of_ble_eq_true rfl, Nat.le_of_ble_eq_true rfl⟩ (fun H36 L36 S36 K36 q36 => ?_)
              obtain ⟨qa36, qb36, tq36⟩ := q36
              have tk36 : Lw D s.heap H36 a0 := tk4.trans tq36
              have ts36 := ts4.keep S4.1 gtp K36 (by decide +kernel)
              refine lv_aload_n hx hb dX4_readCondition_35 rfl (lv_at hl 3 rfl) ?_
              refine q_grS (T := TX4) C S36.1 ga0 0 kF_X4_39 dX4_readCondition_36 rfl rfl (by decide) rfl (by decide) kSF_X4_tape (fun g37 => ?_)
              rw [show fR D H36 4 a0 0 = tp from (S36.2.1.fR ga0 rfl (by decide) (by decide +kernel)).trans htp]
              refine q_lds C ks_X4_78 dX4_readCondition_39 (fun a38 ha38 wa38 => ?_)
              refine callV_Pi C S36.1 S36.2.1.2.1 (c_X9_isWord_f l D G tp a38 3 w_and T c4 gtp ha38 (Wc.of wa38 kw_and)) kV_X4_61 gtp (⟨trivial, ts36⟩) dX4_readCondition_41 hl.1 rfl rfl (by decide) cd_X9_isWord ⟨Nat.le_of_ble_eq_true rfl, Nat.le_of_ble_eq_true rfl, Nat.le_of_ble_eq_true rfl, Nat.le_of_ble_eq_true rfl, Nat.le_of_ble_eq_true rfl⟩ (fun v39 q39 => ?_)
              obtain ⟨q39, fq39⟩ := q39
              rcases fq39 with ⟨z39, y39⟩ | ⟨z39, y39⟩
              · skip
                refine lv_istore_n (lv' := [(3, .int v39), (4, .int x4_7), (2, .int x2_7), (0, .ref a0), (1, .int x1)]) hx hb dX4_readCondition_44 rfl hl (by decide) rfl (fun ls hl => ?_)
                refine lv_iload_n hx hb dX4_readCondition_45 rfl (lv_at hl 0 rfl) ?_
                refine lv_if_ne (tgt := 75) hx hb dX4_readCondition_46 (by decide) (fun c40 => ?_) (fun c40 => ?_)
                · have b40 : ¬ v39.toInt = (0 : Int32).toInt := fun z9 => c40 (i_eq.mpr z9)
                  refine lv_aload_n hx hb dX4_readCondition_75 rfl (lv_at hl 3 rfl) ?_
                  refine q_grS (T := TX4) C S36.1 ga0 0 kF_X4_39 dX4_readCondition_76 rfl rfl (by decide) rfl (by decide) kSF_X4_tape (fun g41 => ?_)
                  rw [show fR D H36 4 a0 0 = tp from (S36.2.1.fR ga0 rfl (by decide) (by decide +kernel)).trans htp]
                  refine callV_Ev C S36 (c_X9_next_f l D G tp T c4 gtp) kV_X4_47 gtp (⟨trivial, ts36⟩) (by decide +kernel) dX4_readCondition_79 hl.1 rfl rfl (by decide) cd_X9_next ⟨Nat.le_of_ble_eq_true rfl, Nat.le_of_ble_eq_true rfl, Nat.le_of_ble_eq_true rfl, Nat.le_of_ble_eq_true rfl, Nat.le_of_ble_eq_true rfl⟩ (fun H42 L42 S42 K42 q42 => ?_)
                  obtain ⟨q42, fq42⟩ := q42
                  have tk42 : Lw D s.heap H42 a0 := tk36.trans (Lw.keep S36.1 ga0 K42 (by decide +kernel) (by decide +kernel) (by decide +kernel))
                  obtain ⟨v43, ev43⟩ : ∃ y : Int32, y = x4_7 + (1) := ⟨_, rfl⟩
                  have k_1 : (1 : Int32).toInt = 1 := by decide
                  have f44 : v43.toInt = x4_7.toInt + (1) := by rw [ev43]; exact i_addc k_1 (by omega) (by omega)
                  refine lv_iinc (v := v43) (lv' := [(4, .int v43), (3, .int v39), (2, .int x2_7), (0, .ref a0), (1, .int x1)]) hx hb dX4_readCondition_82 hl (k := 1) rfl (by rw [ev43]; rfl) (by decide) rfl (fun ls hl => ?_)
                  refine lv_goto (tgt := 7) hx hb dX4_readCondition_85 (by decide) ?_
                  exact ih7 v43 v39 x2_7 (nx T c4) H42 L42 ls S42 (by omega) (by omega) (by omega) fq42 (by rw [u7_1]; exact conR_st (by omega) y4 (by simp [y4, y39])) tk42 (by omega) (lv_sub hl [0, 1, 2, 3, 4] rfl)
                · have b40 : v39.toInt = (0 : Int32).toInt := i_eq.mp c40
                  exact absurd b40 (by omega)
              · skip
                refine lv_istore_n (lv' := [(3, .int v39), (4, .int x4_7), (2, .int x2_7), (0, .ref a0), (1, .int x1)]) hx hb dX4_readCondition_44 rfl hl (by decide) rfl (fun ls hl => ?_)
                refine lv_iload_n hx hb dX4_readCondition_45 rfl (lv_at hl 0 rfl) ?_
                refine lv_if_ne (tgt := 75) hx hb dX4_readCondition_46 (by decide) (fun c45 => ?_) (fun c45 => ?_)
                · have b45 : ¬ v39.toInt = (0 : Int32).toInt := fun z9 => c45 (i_eq.mpr z9)
                  exact absurd b45 (by omega)
                · have b45 : v39.toInt = (0 : Int32).toInt := i_eq.mp c45
                  refine lv_iload_n hx hb dX4_readCondition_49 rfl (lv_at hl 2 rfl) ?_
                  refine lv_if_eq (tgt := 59) hx hb dX4_readCondition_50 (by decide) (fun c46 => ?_) (fun c46 => ?_)
                  · have b46 : x2_7.toInt = (0 : Int32).toInt := i_eq.mp c46
                    refine lv_aload_n hx hb dX4_readCondition_59 rfl (lv_at hl 3 rfl) ?_
                    refine q_grS (T := TX4) C S36.1 ga0 0 kF_X4_39 dX4_readCondition_60 rfl rfl (by decide) rfl (by decide) kSF_X4_tape (fun g47 => ?_)
                    rw [show fR D H36 4 a0 0 = tp from (S36.2.1.fR ga0 rfl (by decide) (by decide +kernel)).trans htp]
                    refine q_lds C ks_X4_80 dX4_readCondition_63 (fun a48 ha48 wa48 => ?_)
                    refine callV_Pi C S36.1 S36.2.1.2.1 (c_X9_isWord_f l D G tp a48 2 w_or T c4 gtp ha48 (Wc.of wa48 kw_or)) kV_X4_61 gtp (⟨trivial, ts36⟩) dX4_readCondition_65 hl.1 rfl rfl (by decide) cd_X9_isWord ⟨Nat.le_of_ble_eq_true rfl, Nat.le_of_ble_eq_true rfl, Nat.le_of_ble_eq_true rfl, Nat.le_of_ble_eq_true rfl, Nat.le_of_ble_eq_true rfl⟩ (fun v49 q49 => ?_)
                    obtain ⟨q49, fq49⟩ := q49
                    rcases fq49 with ⟨z49, y49⟩ | ⟨z49, y49⟩
                    · skip
                      refine lv_istore_n (lv' := [(2, .int v49), (3, .int v39), (4, .int x4_7), (0, .ref a0), (1, .int x1)]) hx hb dX4_readCondition_68 rfl hl (by decide) rfl (fun ls hl => ?_)
                      refine lv_iload_n hx hb dX4_readCondition_69 rfl (lv_at hl 0 rfl) ?_
                      refine lv_if_ne (tgt := 75) hx hb dX4_readCondition_70 (by decide) (fun c50 => ?_) (fun c50 => ?_)
                      · have b50 : ¬ v49.toInt = (0 : Int32).toInt := fun z9 => c50 (i_eq.mpr z9)
                        refine lv_aload_n hx hb dX4_readCondition_75 rfl (lv_at hl 3 rfl) ?_
                        refine q_grS (T := TX4) C S36.1 ga0 0 kF_X4_39 dX4_readCondition_76 rfl rfl (by decide) rfl (by decide) kSF_X4_tape (fun g51 => ?_)
                        rw [show fR D H36 4 a0 0 = tp from (S36.2.1.fR ga0 rfl (by decide) (by decide +kernel)).trans htp]
                        refine callV_Ev C S36 (c_X9_next_f l D G tp T c4 gtp) kV_X4_47 gtp (⟨trivial, ts36⟩) (by decide +kernel) dX4_readCondition_79 hl.1 rfl rfl (by decide) cd_X9_next ⟨Nat.le_of_ble_eq_true rfl, Nat.le_of_ble_eq_true rfl, Nat.le_of_ble_eq_true rfl, Nat.le_of_ble_eq_true rfl, Nat.le_of_ble_eq_true rfl⟩ (fun H52 L52 S52 K52 q52 => ?_)
                        obtain ⟨q52, fq52⟩ := q52
                        have tk52 : Lw D s.heap H52 a0 := tk36.trans (Lw.keep S36.1 ga0 K52 (by decide +kernel) (by decide +kernel) (by decide +kernel))
                        obtain ⟨v53, ev53⟩ : ∃ y : Int32, y = x4_7 + (1) := ⟨_, rfl⟩
                        have k_1 : (1 : Int32).toInt = 1 := by decide
                        have f54 : v53.toInt = x4_7.toInt + (1) := by rw [ev53]; exact i_addc k_1 (by omega) (by omega)
                        refine lv_iinc (v := v53) (lv' := [(4, .int v53), (2, .int v49), (3, .int v39), (0, .ref a0), (1, .int x1)]) hx hb dX4_readCondition_82 hl (k := 2) rfl (by rw [ev53]; rfl) (by decide) rfl (fun ls hl => ?_)
                        refine lv_goto (tgt := 7) hx hb dX4_readCondition_85 (by decide) ?_
                        exact ih7 v53 v39 v49 (nx T c4) H52 L52 ls S52 (by omega) (by omega) (by omega) fq52 (by rw [u7_1]; exact conR_st (by omega) y4 (by simp [y4, y39, y49])) tk52 (by omega) (lv_sub hl [0, 2, 1, 3, 4] rfl)
                      · have b50 : v49.toInt = (0 : Int32).toInt := i_eq.mp c50
                        exact absurd b50 (by omega)
                    · skip
                      refine lv_istore_n (lv' := [(2, .int v49), (3, .int v39), (4, .int x4_7), (0, .ref a0), (1, .int x1)]) hx hb dX4_readCondition_68 rfl hl (by decide) rfl (fun ls hl => ?_)
                      refine lv_iload_n hx hb dX4_readCondition_69 rfl (lv_at hl 0 rfl) ?_
                      refine lv_if_ne (tgt := 75) hx hb dX4_readCondition_70 (by decide) (fun c55 => ?_) (fun c55 => ?_)
                      · have b55 : ¬ v49.toInt = (0 : Int32).toInt := fun z9 => c55 (i_eq.mpr z9)
                        exact absurd b55 (by omega)
                      · have b55 : v49.toInt = (0 : Int32).toInt := i_eq.mp c55
                        refine lv_iconst (v := 1) hx hb dX4_readCondition_73 (by decide) ?_
                        have k_1 : (1 : Int32).toInt = 1 := by decide
                        exact retE_z hQ C S36 hr dX4_readCondition_74 (z01 (by omega) (by omega)) (⟨⟨by omega, tk36⟩, Rs.ok (by rw [u7_1]; exact conR_ok (by omega) y4 (by simp [y4, y39, y49]) (by simp [y4, y39, y49])) (by omega) ts36⟩)
                  · have b46 : ¬ x2_7.toInt = (0 : Int32).toInt := fun z9 => c46 (i_eq.mpr z9)
                    refine lv_aload_n hx hb dX4_readCondition_53 rfl (lv_at hl 3 rfl) ?_
                    refine lv_bipush (v := -18) hx hb dX4_readCondition_54 (by decide) ?_
                    have k_m18 : (-18 : Int32).toInt = -18 := by decide
                    refine callV_Ev C S36 (c_X4_put l D G a0 (-18 : Int32) ga0) kV_X4_55 ga0 (trivial) (by decide +kernel) dX4_readCondition_56 hl.1 rfl rfl (by decide) cd_X4_put ⟨Nat.le_of_ble_eq_true rfl, Nat.le_of_ble_eq_true rfl, Nat.le_of_ble_eq_true rfl, Nat.le_of_ble_eq_true rfl, Nat.le_of_ble_eq_true rfl⟩ (fun H56 L56 S56 K56 q56 => ?_)
                    obtain ⟨qa56, qb56, tq56⟩ := q56
                    have tk56 : Lw D s.heap H56 a0 := tk36.trans tq56
                    have ts56 := ts36.keep S36.1 gtp K56 (by decide +kernel)
                    refine lv_aload_n hx hb dX4_readCondition_59 rfl (lv_at hl 3 rfl) ?_
                    refine q_grS (T := TX4) C S56.1 ga0 0 kF_X4_39 dX4_readCondition_60 rfl rfl (by decide) rfl (by decide) kSF_X4_tape (fun g57 => ?_)
                    rw [show fR D H56 4 a0 0 = tp from (S56.2.1.fR ga0 rfl (by decide) (by decide +kernel)).trans htp]
                    refine q_lds C ks_X4_80 dX4_readCondition_63 (fun a58 ha58 wa58 => ?_)
                    refine callV_Pi C S56.1 S56.2.1.2.1 (c_X9_isWord_f l D G tp a58 2 w_or T c4 gtp ha58 (Wc.of wa58 kw_or)) kV_X4_61 gtp (⟨trivial, ts56⟩) dX4_readCondition_65 hl.1 rfl rfl (by decide) cd_X9_isWord ⟨Nat.le_of_ble_eq_true rfl, Nat.le_of_ble_eq_true rfl, Nat.le_of_ble_eq_true rfl, Nat.le_of_ble_eq_true rfl, Nat.le_of_ble_eq_true rfl⟩ (fun v59 q59 => ?_)
                    obtain ⟨q59, fq59⟩ := q59
                    rcases fq59 with ⟨z59, y59⟩ | ⟨z59, y59⟩
                    · skip
                      refine lv_istore_n (lv' := [(2, .int v59), (3, .int v39), (4, .int x4_7), (0, .ref a0), (1, .int x1)]) hx hb dX4_readCondition_68 rfl hl (by decide) rfl (fun ls hl => ?_)
                      refine lv_iload_n hx hb dX4_readCondition_69 rfl (lv_at hl 0 rfl) ?_
                      refine lv_if_ne (tgt := 75) hx hb dX4_readCondition_70 (by decide) (fun c60 => ?_) (fun c60 => ?_)
                      · have b60 : ¬ v59.toInt = (0 : Int32).toInt := fun z9 => c60 (i_eq.mpr z9)
                        refine lv_aload_n hx hb dX4_readCondition_75 rfl (lv_at hl 3 rfl) ?_
                        refine q_grS (T := TX4) C S56.1 ga0 0 kF_X4_39 dX4_readCondition_76 rfl rfl (by decide) rfl (by decide) kSF_X4_tape (fun g61 => ?_)
                        rw [show fR D H56 4 a0 0 = tp from (S56.2.1.fR ga0 rfl (by decide) (by decide +kernel)).trans htp]
                        refine callV_Ev C S56 (c_X9_next_f l D G tp T c4 gtp) kV_X4_47 gtp (⟨trivial, ts56⟩) (by decide +kernel) dX4_readCondition_79 hl.1 rfl rfl (by decide) cd_X9_next ⟨Nat.le_of_ble_eq_true rfl, Nat.le_of_ble_eq_true rfl, Nat.le_of_ble_eq_true rfl, Nat.le_of_ble_eq_true rfl, Nat.le_of_ble_eq_true rfl⟩ (fun H62 L62 S62 K62 q62 => ?_)
                        obtain ⟨q62, fq62⟩ := q62
                        have tk62 : Lw D s.heap H62 a0 := tk56.trans (Lw.keep S56.1 ga0 K62 (by decide +kernel) (by decide +kernel) (by decide +kernel))
                        obtain ⟨v63, ev63⟩ : ∃ y : Int32, y = x4_7 + (1) := ⟨_, rfl⟩
                        have k_1 : (1 : Int32).toInt = 1 := by decide
                        have f64 : v63.toInt = x4_7.toInt + (1) := by rw [ev63]; exact i_addc k_1 (by omega) (by omega)
                        refine lv_iinc (v := v63) (lv' := [(4, .int v63), (2, .int v59), (3, .int v39), (0, .ref a0), (1, .int x1)]) hx hb dX4_readCondition_82 hl (k := 2) rfl (by rw [ev63]; rfl) (by decide) rfl (fun ls hl => ?_)
                        refine lv_goto (tgt := 7) hx hb dX4_readCondition_85 (by decide) ?_
                        exact ih7 v63 v39 v59 (nx T c4) H62 L62 ls S62 (by omega) (by omega) (by omega) fq62 (by rw [u7_1]; exact conR_st (by omega) y4 (by simp [y4, y39, y59])) tk62 (by omega) (lv_sub hl [0, 2, 1, 3, 4] rfl)
                      · have b60 : v59.toInt = (0 : Int32).toInt := i_eq.mp c60
                        exact absurd b60 (by omega)
                    · skip
                      refine lv_istore_n (lv' := [(2, .int v59), (3, .int v39), (4, .int x4_7), (0, .ref a0), (1, .int x1)]) hx hb dX4_readCondition_68 rfl hl (by decide) rfl (fun ls hl => ?_)
                      refine lv_iload_n hx hb dX4_readCondition_69 rfl (lv_at hl 0 rfl) ?_
                      refine lv_if_ne (tgt := 75) hx hb dX4_readCondition_70 (by decide) (fun c65 => ?_) (fun c65 => ?_)
                      · have b65 : ¬ v59.toInt = (0 : Int32).toInt := fun z9 => c65 (i_eq.mpr z9)
                        exact absurd b65 (by omega)
                      · have b65 : v59.toInt = (0 : Int32).toInt := i_eq.mp c65
                        refine lv_iconst (v := 1) hx hb dX4_readCondition_73 (by decide) ?_
                        have k_1 : (1 : Int32).toInt = 1 := by decide
                        exact retE_z hQ C S56 hr dX4_readCondition_74 (z01 (by omega) (by omega)) (⟨⟨by omega, tk56⟩, Rs.ok (by rw [u7_1]; exact conR_ok (by omega) y4 (by simp [y4, y39, y59]) (by simp [y4, y39, y59])) (by omega) ts56⟩)
          · have b5 : v4.toInt = (0 : Int32).toInt := i_eq.mp c5
            exact absurd b5 (by omega)
        · skip
          have k_0 : (0 : Int32).toInt = 0 := by decide
          refine lv_if_ne (tgt := 25) hx hb dX4_readCondition_20 (by decide) (fun c66 => ?_) (fun c66 => ?_)
          · have b66 : ¬ v4.toInt = (0 : Int32).toInt := fun z9 => c66 (i_eq.mpr z9)
            exact absurd b66 (by omega)
          · have b66 : v4.toInt = (0 : Int32).toInt := i_eq.mp c66
            refine lv_iconst (v := 0) hx hb dX4_readCondition_23 (by decide) ?_
            exact retE_z hQ C S4 hr dX4_readCondition_24 (z01 (by omega) (by omega)) (⟨⟨by omega, tk4⟩, Rs.no (by rw [u7_1]; exact conR_no (by omega) y4) (by omega) wr4⟩)
  have k_0 : (0 : Int32).toInt = 0 := by decide
  exact Lp7 401 (0 : Int32) (0 : Int32) (0 : Int32) b s.heap [] ls S (by omega) (by omega) (by omega) ts0 (congrArg (fun n9 => conR T (atm T 5) n9 b) (show 400 = 400 - (0 : Int32).toInt.toNat by decide)) tk0  (by omega) (lv_sub hl [0, 1, 2, 3, 4] rfl)

set_option maxRecDepth 100000 in
set_option maxHeartbeats 4000000 in
theorem c_X4_readAtom_d0 (l : Launch) (D : DD) (G : Nat → Nat) (a0 : Nat) (x1 : Int32) (tp : Nat) (T : Tx) (b : Nat) (ga0 : G a0 = 21) (ix1 : 0 ≤ x1.toInt ∧ x1.toInt ≤ 0) : CE l D G yX4_readAtom cX4_readAtom 4 (some .boolean) 19 [.ref a0, .int x1] (fun H => (True) ∧ (fR D H 4 a0 0 = tp ∧ TS D H tp T b)) [(2, 3), (2, 4), (2, 5), (2, 6), (2, 2), (22, 0), (21, 3)] (xI (fun H r H1 => ((0 ≤ r.toInt ∧ r.toInt ≤ 1) ∧ (Lw D H H1 a0)) ∧ (Rs D H1 tp T (atm T 6 b) r))) := by
  refine enter (by decide) (Nat.le_of_ble_eq_true rfl) ?_
  intro p e s m args below meth c ls Q hA hQ C hr hO hpre hl
  have hx := C.1
  have hb := C.2.1
  have S : Sd D G [(2, 3), (2, 4), (2, 5), (2, 6), (2, 2), (22, 0), (21, 3)] s.heap s.heap [] := Sd.start hO
  have hl : lv_has ls 4 [(0, .ref a0), (1, .int x1)] := hl
  obtain ⟨hpre, hf⟩ := hpre
  obtain ⟨htp, ts0⟩ := hf
  have gtp : G tp = 2 := by rw [← htp]; exact hO.rol ga0 rfl (by decide) rfl
  have hT : T.2 ≤ 400 := ts0.le hO gtp
  have tk0 : Lw D s.heap s.heap a0 := Lw.refl
  refine lv_aload_n hx hb dX4_readAtom_0 rfl (lv_at hl 0 rfl) ?_
  refine q_grS (T := TX4) C S.1 ga0 0 kF_X4_39 dX4_readAtom_1 rfl rfl (by decide) rfl (by decide) kSF_X4_tape (fun g1 => ?_)
  rw [show fR D s.heap 4 a0 0 = tp from htp]
  refine q_lds C ks_X4_82 dX4_readAtom_4 (fun a2 ha2 wa2 => ?_)
  refine callV_Pi C S.1 S.2.1.2.1 (c_X9_isWord_f l D G tp a2 3 w_not T b gtp ha2 (Wc.of wa2 kw_not)) kV_X4_61 gtp (⟨trivial, ts0⟩) dX4_readAtom_6 hl.1 rfl rfl (by decide) cd_X9_isWord ⟨Nat.le_of_ble_eq_true rfl, Nat.le_of_ble_eq_true rfl, Nat.le_of_ble_eq_true rfl, Nat.le_of_ble_eq_true rfl, Nat.le_of_ble_eq_true rfl⟩ (fun v3 q3 => ?_)
  obtain ⟨q3, fq3⟩ := q3
  rcases fq3 with ⟨z3, y3⟩ | ⟨z3, y3⟩
  · skip
    refine lv_istore_n (lv' := [(2, .int v3), (0, .ref a0), (1, .int x1)]) hx hb dX4_readAtom_9 rfl hl (by decide) rfl (fun ls hl => ?_)
    refine lv_iload_n hx hb dX4_readAtom_10 rfl (lv_at hl 0 rfl) ?_
    have k_0 : (0 : Int32).toInt = 0 := by decide
    refine lv_if_ne (tgt := 26) hx hb dX4_readAtom_11 (by decide) (fun c4 => ?_) (fun c4 => ?_)
    · have b4 : ¬ v3.toInt = (0 : Int32).toInt := fun z9 => c4 (i_eq.mpr z9)
      refine lv_iload_n hx hb dX4_readAtom_26 rfl (lv_at hl 2 rfl) ?_
      refine lv_bipush (v := 6) hx hb dX4_readAtom_27 (by decide) ?_
      have k_6 : (6 : Int32).toInt = 6 := by decide
      refine lv_icmp_lt (tgt := 40) hx hb dX4_readAtom_29 (by decide) (fun c5 => ?_) (fun c5 => ?_)
      · have b5 : x1.toInt < (6 : Int32).toInt := i_lt.mp c5
        refine lv_aload_n hx hb dX4_readAtom_40 rfl (lv_at hl 1 rfl) ?_
        refine q_grS (T := TX4) C S.1 ga0 0 kF_X4_39 dX4_readAtom_41 rfl rfl (by decide) rfl (by decide) kSF_X4_tape (fun g6 => ?_)
        rw [show fR D s.heap 4 a0 0 = tp from htp]
        refine callV_Ev C S (c_X9_next_f l D G tp T b gtp) kV_X4_47 gtp (⟨trivial, ts0⟩) (by decide +kernel) dX4_readAtom_44 hl.1 rfl rfl (by decide) cd_X9_next ⟨Nat.le_of_ble_eq_true rfl, Nat.le_of_ble_eq_true rfl, Nat.le_of_ble_eq_true rfl, Nat.le_of_ble_eq_true rfl, Nat.le_of_ble_eq_true rfl⟩ (fun H7 L7 S7 K7 q7 => ?_)
        obtain ⟨q7, fq7⟩ := q7
        have tk7 : Lw D s.heap H7 a0 := tk0.trans (Lw.keep S.1 ga0 K7 (by decide +kernel) (by decide +kernel) (by decide +kernel))
        refine lv_iload_n hx hb dX4_readAtom_47 rfl (lv_at hl 0 rfl) ?_
        refine lv_if_ne (tgt := 79) hx hb dX4_readAtom_48 (by decide) (fun c8 => ?_) (fun c8 => ?_)
        · have b8 : ¬ v3.toInt = (0 : Int32).toInt := fun z9 => c8 (i_eq.mpr z9)
          refine lv_aload_n hx hb dX4_readAtom_79 rfl (lv_at hl 1 rfl) ?_
          refine lv_iload_n hx hb dX4_readAtom_80 rfl (lv_at hl 2 rfl) ?_
          refine lv_iconst (v := 1) hx hb dX4_readAtom_81 (by decide) ?_
          have k_1 : (1 : Int32).toInt = 1 := by decide
          refine lv_iadd hx hb dX4_readAtom_82 ?_
          refine lv_topi (fun v9 ev9 => ?_)
          have f10 : v9.toInt = x1.toInt + (1 : Int32).toInt := by rw [ev9]; exact i_add (by omega) (by omega)
          refine callV_Ei C S7 (c_X4_readAtom_d1 l D G a0 v9 tp T (nx T b) ga0 (by omega)) kV_X4_75 ga0 (⟨trivial, ⟨(S7.2.1.fR ga0 rfl (by decide) (by decide +kernel)).trans htp, fq7⟩⟩) (by decide +kernel) dX4_readAtom_83 hl.1 rfl rfl (by decide) cd_X4_readAtom ⟨Nat.le_of_ble_eq_true rfl, Nat.le_of_ble_eq_true rfl, Nat.le_of_ble_eq_true rfl, Nat.le_of_ble_eq_true rfl, Nat.le_of_ble_eq_true rfl⟩ (fun v11 H11 L11 S11 K11 q11 => ?_)
          obtain ⟨q11, fq11⟩ := q11
          obtain ⟨q11, tq11⟩ := q11
          have tk11 : Lw D s.heap H11 a0 := tk7.trans tq11
          rcases fq11 with ⟨c11, y11, z11, ts11⟩ | ⟨e11, y11, z11, wr11⟩
          · skip
            refine lv_if_ne (tgt := 91) hx hb dX4_readAtom_86 (by decide) (fun c12 => ?_) (fun c12 => ?_)
            · have b12 : ¬ v11.toInt = (0 : Int32).toInt := fun z9 => c12 (i_eq.mpr z9)
              refine lv_aload_n hx hb dX4_readAtom_91 rfl (lv_at hl 1 rfl) ?_
              refine lv_bipush (v := -13) hx hb dX4_readAtom_92 (by decide) ?_
              have k_m13 : (-13 : Int32).toInt = -13 := by decide
              refine callV_Ev C S11 (c_X4_put l D G a0 (-13 : Int32) ga0) kV_X4_55 ga0 (trivial) (by decide +kernel) dX4_readAtom_94 hl.1 rfl rfl (by decide) cd_X4_put ⟨Nat.le_of_ble_eq_true rfl, Nat.le_of_ble_eq_true rfl, Nat.le_of_ble_eq_true rfl, Nat.le_of_ble_eq_true rfl, Nat.le_of_ble_eq_true rfl⟩ (fun H13 L13 S13 K13 q13 => ?_)
              obtain ⟨qa13, qb13, tq13⟩ := q13
              have tk13 : Lw D s.heap H13 a0 := tk11.trans tq13
              have ts13 := ts11.keep S11.1 gtp K13 (by decide +kernel)
              refine lv_iconst (v := 1) hx hb dX4_readAtom_97 (by decide) ?_
              exact retE_z hQ C S13 hr dX4_readAtom_98 (z01 (by omega) (by omega)) (⟨⟨by omega, tk13⟩, Rs.ok (by rw [atm_s]; simp [clo, tlF, y3, y11]) (by omega) ts13⟩)
            · have b12 : v11.toInt = (0 : Int32).toInt := i_eq.mp c12
              exact absurd b12 (by omega)
          · skip
            refine lv_if_ne (tgt := 91) hx hb dX4_readAtom_86 (by decide) (fun c14 => ?_) (fun c14 => ?_)
            · have b14 : ¬ v11.toInt = (0 : Int32).toInt := fun z9 => c14 (i_eq.mpr z9)
              exact absurd b14 (by omega)
            · have b14 : v11.toInt = (0 : Int32).toInt := i_eq.mp c14
              refine lv_iconst (v := 0) hx hb dX4_readAtom_89 (by decide) ?_
              exact retE_z hQ C S11 hr dX4_readAtom_90 (z01 (by omega) (by omega)) (⟨⟨by omega, tk11⟩, Rs.no (by rw [atm_s]; simp [clo, tlF, y3, y11]) (by omega) wr11⟩)
        · have b8 : v3.toInt = (0 : Int32).toInt := i_eq.mp c8
          exact absurd b8 (by omega)
      · have b5 : ¬ x1.toInt < (6 : Int32).toInt := fun z9 => c5 (i_lt.mpr z9)
        exact absurd b5 (by omega)
    · have b4 : v3.toInt = (0 : Int32).toInt := i_eq.mp c4
      exact absurd b4 (by omega)
  · skip
    refine lv_istore_n (lv' := [(2, .int v3), (0, .ref a0), (1, .int x1)]) hx hb dX4_readAtom_9 rfl hl (by decide) rfl (fun ls hl => ?_)
    refine lv_iload_n hx hb dX4_readAtom_10 rfl (lv_at hl 0 rfl) ?_
    have k_0 : (0 : Int32).toInt = 0 := by decide
    refine lv_if_ne (tgt := 26) hx hb dX4_readAtom_11 (by decide) (fun c15 => ?_) (fun c15 => ?_)
    · have b15 : ¬ v3.toInt = (0 : Int32).toInt := fun z9 => c15 (i_eq.mpr z9)
      exact absurd b15 (by omega)
    · have b15 : v3.toInt = (0 : Int32).toInt := i_eq.mp c15
      refine lv_aload_n hx hb dX4_readAtom_14 rfl (lv_at hl 1 rfl) ?_
      refine q_grS (T := TX4) C S.1 ga0 0 kF_X4_39 dX4_readAtom_15 rfl rfl (by decide) rfl (by decide) kSF_X4_tape (fun g16 => ?_)
      rw [show fR D s.heap 4 a0 0 = tp from htp]
      refine lv_bipush (v := 40) hx hb dX4_readAtom_18 (by decide) ?_
      have k_40 : (40 : Int32).toInt = 40 := by decide
      refine callV_Pi C S.1 S.2.1.2.1 (c_X9_isSign_f l D G tp (40 : Int32) 40 T b gtp (by omega) (by decide)) kV_X4_84 gtp (⟨trivial, ts0⟩) dX4_readAtom_20 hl.1 rfl rfl (by decide) cd_X9_isSign ⟨Nat.le_of_ble_eq_true rfl, Nat.le_of_ble_eq_true rfl, Nat.le_of_ble_eq_true rfl, Nat.le_of_ble_eq_true rfl, Nat.le_of_ble_eq_true rfl⟩ (fun v17 q17 => ?_)
      obtain ⟨q17, fq17⟩ := q17
      rcases fq17 with ⟨z17, y17⟩ | ⟨z17, y17⟩
      · skip
        refine lv_if_eq (tgt := 99) hx hb dX4_readAtom_23 (by decide) (fun c18 => ?_) (fun c18 => ?_)
        · have b18 : v17.toInt = (0 : Int32).toInt := i_eq.mp c18
          exact absurd b18 (by omega)
        · have b18 : ¬ v17.toInt = (0 : Int32).toInt := fun z9 => c18 (i_eq.mpr z9)
          refine lv_iload_n hx hb dX4_readAtom_26 rfl (lv_at hl 2 rfl) ?_
          refine lv_bipush (v := 6) hx hb dX4_readAtom_27 (by decide) ?_
          have k_6 : (6 : Int32).toInt = 6 := by decide
          refine lv_icmp_lt (tgt := 40) hx hb dX4_readAtom_29 (by decide) (fun c19 => ?_) (fun c19 => ?_)
          · have b19 : x1.toInt < (6 : Int32).toInt := i_lt.mp c19
            refine lv_aload_n hx hb dX4_readAtom_40 rfl (lv_at hl 1 rfl) ?_
            refine q_grS (T := TX4) C S.1 ga0 0 kF_X4_39 dX4_readAtom_41 rfl rfl (by decide) rfl (by decide) kSF_X4_tape (fun g20 => ?_)
            rw [show fR D s.heap 4 a0 0 = tp from htp]
            refine callV_Ev C S (c_X9_next_f l D G tp T b gtp) kV_X4_47 gtp (⟨trivial, ts0⟩) (by decide +kernel) dX4_readAtom_44 hl.1 rfl rfl (by decide) cd_X9_next ⟨Nat.le_of_ble_eq_true rfl, Nat.le_of_ble_eq_true rfl, Nat.le_of_ble_eq_true rfl, Nat.le_of_ble_eq_true rfl, Nat.le_of_ble_eq_true rfl⟩ (fun H21 L21 S21 K21 q21 => ?_)
            obtain ⟨q21, fq21⟩ := q21
            have tk21 : Lw D s.heap H21 a0 := tk0.trans (Lw.keep S.1 ga0 K21 (by decide +kernel) (by decide +kernel) (by decide +kernel))
            refine lv_iload_n hx hb dX4_readAtom_47 rfl (lv_at hl 0 rfl) ?_
            refine lv_if_ne (tgt := 79) hx hb dX4_readAtom_48 (by decide) (fun c22 => ?_) (fun c22 => ?_)
            · have b22 : ¬ v3.toInt = (0 : Int32).toInt := fun z9 => c22 (i_eq.mpr z9)
              exact absurd b22 (by omega)
            · have b22 : v3.toInt = (0 : Int32).toInt := i_eq.mp c22
              refine lv_aload_n hx hb dX4_readAtom_51 rfl (lv_at hl 1 rfl) ?_
              refine lv_iload_n hx hb dX4_readAtom_52 rfl (lv_at hl 2 rfl) ?_
              refine lv_iconst (v := 1) hx hb dX4_readAtom_53 (by decide) ?_
              have k_1 : (1 : Int32).toInt = 1 := by decide
              refine lv_iadd hx hb dX4_readAtom_54 ?_
              refine lv_topi (fun v23 ev23 => ?_)
              have f24 : v23.toInt = x1.toInt + (1 : Int32).toInt := by rw [ev23]; exact i_add (by omega) (by omega)
              refine callV_Ei C S21 (c_X4_readCondition_d1 l D G a0 v23 tp T (nx T b) ga0 (by omega)) kV_X4_65 ga0 (⟨trivial, ⟨(S21.2.1.fR ga0 rfl (by decide) (by decide +kernel)).trans htp, fq21⟩⟩) (by decide +kernel) dX4_readAtom_55 hl.1 rfl rfl (by decide) cd_X4_readCondition ⟨Nat.le_of_ble_eq_true rfl, Nat.le_of_ble_eq_true rfl, Nat.le_of_ble_eq_true rfl, Nat.le_of_ble_eq_true rfl, Nat.le_of_ble_eq_true rfl⟩ (fun v25 H25 L25 S25 K25 q25 => ?_)
              obtain ⟨q25, fq25⟩ := q25
              obtain ⟨q25, tq25⟩ := q25
              have tk25 : Lw D s.heap H25 a0 := tk21.trans tq25
              rcases fq25 with ⟨c25, y25, z25, ts25⟩ | ⟨e25, y25, z25, wr25⟩
              · skip
                refine lv_if_eq (tgt := 77) hx hb dX4_readAtom_58 (by decide) (fun c26 => ?_) (fun c26 => ?_)
                · have b26 : v25.toInt = (0 : Int32).toInt := i_eq.mp c26
                  exact absurd b26 (by omega)
                · have b26 : ¬ v25.toInt = (0 : Int32).toInt := fun z9 => c26 (i_eq.mpr z9)
                  refine lv_aload_n hx hb dX4_readAtom_61 rfl (lv_at hl 1 rfl) ?_
                  refine q_grS (T := TX4) C S25.1 ga0 0 kF_X4_39 dX4_readAtom_62 rfl rfl (by decide) rfl (by decide) kSF_X4_tape (fun g27 => ?_)
                  rw [show fR D H25 4 a0 0 = tp from (S25.2.1.fR ga0 rfl (by decide) (by decide +kernel)).trans htp]
                  refine lv_bipush (v := 41) hx hb dX4_readAtom_65 (by decide) ?_
                  have k_41 : (41 : Int32).toInt = 41 := by decide
                  refine callV_Ei C S25 (c_X9_takeSign_f l D G tp (41 : Int32) 41 T c25 gtp (by omega) (by decide)) kV_X4_88 gtp (⟨trivial, ts25⟩) (by decide +kernel) dX4_readAtom_67 hl.1 rfl rfl (by decide) cd_X9_takeSign ⟨Nat.le_of_ble_eq_true rfl, Nat.le_of_ble_eq_true rfl, Nat.le_of_ble_eq_true rfl, Nat.le_of_ble_eq_true rfl, Nat.le_of_ble_eq_true rfl⟩ (fun v28 H28 L28 S28 K28 q28 => ?_)
                  obtain ⟨q28, fq28⟩ := q28
                  have tk28 : Lw D s.heap H28 a0 := tk25.trans (Lw.keep S25.1 ga0 K28 (by decide +kernel) (by decide +kernel) (by decide +kernel))
                  rcases fq28 with ⟨c28, y28, z28, ts28⟩ | ⟨e28, y28, z28, wr28⟩
                  · skip
                    refine lv_if_eq (tgt := 77) hx hb dX4_readAtom_70 (by decide) (fun c29 => ?_) (fun c29 => ?_)
                    · have b29 : v28.toInt = (0 : Int32).toInt := i_eq.mp c29
                      exact absurd b29 (by omega)
                    · have b29 : ¬ v28.toInt = (0 : Int32).toInt := fun z9 => c29 (i_eq.mpr z9)
                      refine lv_iconst (v := 1) hx hb dX4_readAtom_73 (by decide) ?_
                      refine lv_goto (tgt := 78) hx hb dX4_readAtom_74 (by decide) ?_
                      exact retE_z hQ C S28 hr dX4_readAtom_78 (z01 (by omega) (by omega)) (⟨⟨by omega, tk28⟩, Rs.ok (by rw [atm_s]; simp [clo, tlF, y3, y17, y25, y28]) (by omega) ts28⟩)
                  · skip
                    refine lv_if_eq (tgt := 77) hx hb dX4_readAtom_70 (by decide) (fun c30 => ?_) (fun c30 => ?_)
                    · have b30 : v28.toInt = (0 : Int32).toInt := i_eq.mp c30
                      refine lv_iconst (v := 0) hx hb dX4_readAtom_77 (by decide) ?_
                      exact retE_z hQ C S28 hr dX4_readAtom_78 (z01 (by omega) (by omega)) (⟨⟨by omega, tk28⟩, Rs.no (by rw [atm_s]; simp [clo, tlF, y3, y17, y25, y28]) (by omega) wr28⟩)
                    · have b30 : ¬ v28.toInt = (0 : Int32).toInt := fun z9 => c30 (i_eq.mpr z9)
                      exact absurd b30 (by omega)
              · skip
                refine lv_if_eq (tgt := 77) hx hb dX4_readAtom_58 (by decide) (fun c31 => ?_) (fun c31 => ?_)
                · have b31 : v25.toInt = (0 : Int32).toInt := i_eq.mp c31
                  refine lv_iconst (v := 0) hx hb dX4_readAtom_77 (by decide) ?_
                  exact retE_z hQ C S25 hr dX4_readAtom_78 (z01 (by omega) (by omega)) (⟨⟨by omega, tk25⟩, Rs.no (by rw [atm_s]; simp [clo, tlF, y3, y17, y25]) (by omega) wr25⟩)
                · have b31 : ¬ v25.toInt = (0 : Int32).toInt := fun z9 => c31 (i_eq.mpr z9)
                  exact absurd b31 (by omega)
          · have b19 : ¬ x1.toInt < (6 : Int32).toInt := fun z9 => c19 (i_lt.mpr z9)
            exact absurd b19 (by omega)
      · skip
        refine lv_if_eq (tgt := 99) hx hb dX4_readAtom_23 (by decide) (fun c32 => ?_) (fun c32 => ?_)
        · have b32 : v17.toInt = (0 : Int32).toInt := i_eq.mp c32
          refine lv_aload_n hx hb dX4_readAtom_99 rfl (lv_at hl 1 rfl) ?_
          refine callV_Pi C S.1 S.2.1.2.1 (c_X4_presentTruth l D G a0 tp T b ga0) kV_X4_91 ga0 (⟨trivial, ⟨htp, ts0⟩⟩) dX4_readAtom_100 hl.1 rfl rfl (by decide) cd_X4_presentTruth ⟨Nat.le_of_ble_eq_true rfl, Nat.le_of_ble_eq_true rfl, Nat.le_of_ble_eq_true rfl, Nat.le_of_ble_eq_true rfl, Nat.le_of_ble_eq_true rfl⟩ (fun v33 q33 => ?_)
          obtain ⟨q33, fq33⟩ := q33
          refine lv_istore_n (lv' := [(3, .int v33), (2, .int v3), (0, .ref a0), (1, .int x1)]) hx hb dX4_readAtom_103 rfl hl (by decide) rfl (fun ls hl => ?_)
          refine lv_iload_n hx hb dX4_readAtom_104 rfl (lv_at hl 0 rfl) ?_
          refine lv_iconst (v := -1) hx hb dX4_readAtom_105 (by decide) ?_
          have k_m1 : (-1 : Int32).toInt = -1 := by decide
          refine lv_icmp_ne (tgt := 114) hx hb dX4_readAtom_106 (by decide) (fun c34 => ?_) (fun c34 => ?_)
          · have b34 : ¬ v33.toInt = (-1 : Int32).toInt := fun z9 => c34 (i_eq.mpr z9)
            have yt35 : ¬ tru T b = -1 := by omega
            refine lv_aload_n hx hb dX4_readAtom_114 rfl (lv_at hl 2 rfl) ?_
            refine lv_iload_n hx hb dX4_readAtom_115 rfl (lv_at hl 0 rfl) ?_
            refine callV_Ev C S (c_X4_put l D G a0 v33 ga0) kV_X4_55 ga0 (trivial) (by decide +kernel) dX4_readAtom_116 hl.1 rfl rfl (by decide) cd_X4_put ⟨Nat.le_of_ble_eq_true rfl, Nat.le_of_ble_eq_true rfl, Nat.le_of_ble_eq_true rfl, Nat.le_of_ble_eq_true rfl, Nat.le_of_ble_eq_true rfl⟩ (fun H36 L36 S36 K36 q36 => ?_)
            obtain ⟨qa36, qb36, tq36⟩ := q36
            have tk36 : Lw D s.heap H36 a0 := tk0.trans tq36
            have ts36 := ts0.keep S.1 gtp K36 (by decide +kernel)
            refine lv_aload_n hx hb dX4_readAtom_119 rfl (lv_at hl 2 rfl) ?_
            refine q_grS (T := TX4) C S36.1 ga0 0 kF_X4_39 dX4_readAtom_120 rfl rfl (by decide) rfl (by decide) kSF_X4_tape (fun g37 => ?_)
            rw [show fR D H36 4 a0 0 = tp from (S36.2.1.fR ga0 rfl (by decide) (by decide +kernel)).trans htp]
            refine callV_Ev C S36 (c_X9_next_f l D G tp T b gtp) kV_X4_47 gtp (⟨trivial, ts36⟩) (by decide +kernel) dX4_readAtom_123 hl.1 rfl rfl (by decide) cd_X9_next ⟨Nat.le_of_ble_eq_true rfl, Nat.le_of_ble_eq_true rfl, Nat.le_of_ble_eq_true rfl, Nat.le_of_ble_eq_true rfl, Nat.le_of_ble_eq_true rfl⟩ (fun H38 L38 S38 K38 q38 => ?_)
            obtain ⟨q38, fq38⟩ := q38
            have tk38 : Lw D s.heap H38 a0 := tk36.trans (Lw.keep S36.1 ga0 K38 (by decide +kernel) (by decide +kernel) (by decide +kernel))
            refine lv_iconst (v := 1) hx hb dX4_readAtom_126 (by decide) ?_
            have k_1 : (1 : Int32).toInt = 1 := by decide
            exact retE_z hQ C S38 hr dX4_readAtom_127 (z01 (by omega) (by omega)) (⟨⟨by omega, tk38⟩, Rs.ok (by rw [atm_s]; simp [clo, tlF, y3, y17, yt35]) (by omega) fq38⟩)
          · have b34 : v33.toInt = (-1 : Int32).toInt := i_eq.mp c34
            have yt39 : tru T b = -1 := by omega
            refine lv_aload_n hx hb dX4_readAtom_109 rfl (lv_at hl 2 rfl) ?_
            refine callV_Ei C S (c_X4_readComparison l D G a0 tp T b ga0) kV_X4_94 ga0 (⟨trivial, ⟨htp, ts0⟩⟩) (by decide +kernel) dX4_readAtom_110 hl.1 rfl rfl (by decide) cd_X4_readComparison ⟨Nat.le_of_ble_eq_true rfl, Nat.le_of_ble_eq_true rfl, Nat.le_of_ble_eq_true rfl, Nat.le_of_ble_eq_true rfl, Nat.le_of_ble_eq_true rfl⟩ (fun v40 H40 L40 S40 K40 q40 => ?_)
            obtain ⟨q40, fq40⟩ := q40
            obtain ⟨q40, tq40⟩ := q40
            have tk40 : Lw D s.heap H40 a0 := tk0.trans tq40
            rcases fq40 with ⟨c40, y40, z40, ts40⟩ | ⟨e40, y40, z40, wr40⟩
            · skip
              exact retE_z hQ C S40 hr dX4_readAtom_113 (z01 (by omega) (by omega)) (⟨⟨by omega, tk40⟩, Rs.ok (by rw [atm_s]; simp [clo, tlF, y3, y17, yt39, y40]) (by omega) ts40⟩)
            · skip
              exact retE_z hQ C S40 hr dX4_readAtom_113 (z01 (by omega) (by omega)) (⟨⟨by omega, tk40⟩, Rs.no (by rw [atm_s]; simp [clo, tlF, y3, y17, yt39, y40]) (by omega) wr40⟩)
        · have b32 : ¬ v17.toInt = (0 : Int32).toInt := fun z9 => c32 (i_eq.mpr z9)
          exact absurd b32 (by omega)

set_option maxRecDepth 100000 in
set_option maxHeartbeats 4000000 in
theorem c_X4_readCondition_d0 (l : Launch) (D : DD) (G : Nat → Nat) (a0 : Nat) (x1 : Int32) (tp : Nat) (T : Tx) (b : Nat) (ga0 : G a0 = 21) (ix1 : 0 ≤ x1.toInt ∧ x1.toInt ≤ 0) : CE l D G yX4_readCondition cX4_readCondition 5 (some .boolean) 20 [.ref a0, .int x1] (fun H => (True) ∧ (fR D H 4 a0 0 = tp ∧ TS D H tp T b)) [(2, 3), (2, 4), (2, 5), (2, 6), (2, 2), (22, 0), (21, 3)] (xI (fun H r H1 => ((0 ≤ r.toInt ∧ r.toInt ≤ 1) ∧ (Lw D H H1 a0)) ∧ (Rs D H1 tp T (conF T (atm T 6) b) r))) := by
  refine enter (by decide) (Nat.le_of_ble_eq_true rfl) ?_
  intro p e s m args below meth c ls Q hA hQ C hr hO hpre hl
  have hx := C.1
  have hb := C.2.1
  have S : Sd D G [(2, 3), (2, 4), (2, 5), (2, 6), (2, 2), (22, 0), (21, 3)] s.heap s.heap [] := Sd.start hO
  have hl : lv_has ls 5 [(0, .ref a0), (1, .int x1)] := hl
  obtain ⟨hpre, hf⟩ := hpre
  obtain ⟨htp, ts0⟩ := hf
  have gtp : G tp = 2 := by rw [← htp]; exact hO.rol ga0 rfl (by decide) rfl
  have hT : T.2 ≤ 400 := ts0.le hO gtp
  have tk0 : Lw D s.heap s.heap a0 := Lw.refl
  refine lv_iconst (v := 0) hx hb dX4_readCondition_0 (by decide) ?_
  refine lv_istore_n (lv' := [(2, .int (0 : Int32)), (0, .ref a0), (1, .int x1)]) hx hb dX4_readCondition_1 rfl hl (by decide) rfl (fun ls hl => ?_)
  refine lv_iconst (v := 0) hx hb dX4_readCondition_2 (by decide) ?_
  refine lv_istore_n (lv' := [(3, .int (0 : Int32)), (2, .int (0 : Int32)), (0, .ref a0), (1, .int x1)]) hx hb dX4_readCondition_3 rfl hl (by decide) rfl (fun ls hl => ?_)
  refine lv_iconst (v := 0) hx hb dX4_readCondition_4 (by decide) ?_
  refine lv_istore (lv' := [(4, .int (0 : Int32)), (3, .int (0 : Int32)), (2, .int (0 : Int32)), (0, .ref a0), (1, .int x1)]) hx hb dX4_readCondition_5 hl (by decide) rfl (fun ls hl => ?_)
  have Lp7 : ∀ (n : Nat) (x4_7 : Int32) (x3_7 : Int32) (x2_7 : Int32) (b_7 : Nat) (H_7 : Heap) (L_7 : List Loc) (ls : Array Slot), (Sd D G [(2, 3), (2, 4), (2, 5), (2, 6), (2, 2), (22, 0), (21, 3)] s.heap H_7 L_7) → (0 ≤ x4_7.toInt ∧ x4_7.toInt ≤ 400) → (0 ≤ x3_7.toInt ∧ x3_7.toInt ≤ 1) → (0 ≤ x2_7.toInt ∧ x2_7.toInt ≤ 1) → (TS D H_7 tp T b_7) → (conF T (atm T 6) b = conR T (atm T 6) (400 - x4_7.toInt.toNat) b_7) → (Lw D s.heap H_7 a0) → 401 - x4_7.toInt ≤ (n : Int) → lv_has ls 5 [(4, .int x4_7), (3, .int x3_7), (2, .int x2_7), (0, .ref a0), (1, .int x1)] → W p l e (rmU 20 0 0) s m args below meth c H_7 L_7 0 0 Q (F0 m 7 ls []) := by
    intro n
    induction n with
    | zero =>
      intro x4_7 x3_7 x2_7 b_7 H_7 L_7 ls S_7 j7_0 j7_1 j7_2 u7_0 u7_1 u7_2 hn hl
      exact absurd hn (by omega)
    | succ n ih7 =>
      intro x4_7 x3_7 x2_7 b_7 H_7 L_7 ls S_7 j7_0 j7_1 j7_2 u7_0 u7_1 u7_2 hn hl
      refine lv_iload hx hb dX4_readCondition_7 (lv_at hl 0 rfl) ?_
      refine lv_sipush (v := 400) hx hb dX4_readCondition_9 (by decide) ?_
      have k_400 : (400 : Int32).toInt = 400 := by decide
      refine lv_icmp_ge (tgt := 88) hx hb dX4_readCondition_12 (by decide) (fun c1 => ?_) (fun c1 => ?_)
      · have b1 : (400 : Int32).toInt ≤ x4_7.toInt := i_le.mp c1
        refine lv_aload_n hx hb dX4_readCondition_88 rfl (lv_at hl 3 rfl) ?_
        refine q_grS (T := TX4) C S_7.1 ga0 0 kF_X4_39 dX4_readCondition_89 rfl rfl (by decide) rfl (by decide) kSF_X4_tape (fun g2 => ?_)
        rw [show fR D H_7 4 a0 0 = tp from (S_7.2.1.fR ga0 rfl (by decide) (by decide +kernel)).trans htp]
        refine callV_Ei C S_7 (c_X9_refuse_f l D G tp T b_7 gtp) kV_X4_43 gtp (⟨trivial, u7_0⟩) (by decide +kernel) dX4_readCondition_92 hl.1 rfl rfl (by decide) cd_X9_refuse ⟨Nat.le_of_ble_eq_true rfl, Nat.le_of_ble_eq_true rfl, Nat.le_of_ble_eq_true rfl, Nat.le_of_ble_eq_true rfl, Nat.le_of_ble_eq_true rfl⟩ (fun v3 H3 L3 S3 K3 q3 => ?_)
        obtain ⟨q3, fq3⟩ := q3
        have tk3 : Lw D s.heap H3 a0 := u7_2.trans (Lw.keep S_7.1 ga0 K3 (by decide +kernel) (by decide +kernel) (by decide +kernel))
        have z3 := fq3.1
        exact retE_z hQ C S3 hr dX4_readCondition_95 (z01 (by omega) (by omega)) (⟨⟨by omega, tk3⟩, Rs.no (by rw [u7_1, show 400 - x4_7.toInt.toNat = 0 by omega]; rfl) (by omega) fq3.2⟩)
      · have b1 : ¬ (400 : Int32).toInt ≤ x4_7.toInt := fun z9 => c1 (i_le.mpr z9)
        refine lv_aload_n hx hb dX4_readCondition_15 rfl (lv_at hl 3 rfl) ?_
        refine lv_iload_n hx hb dX4_readCondition_16 rfl (lv_at hl 4 rfl) ?_
        refine callV_Ei C S_7 (c_X4_readAtom_d0 l D G a0 x1 tp T b_7 ga0 (by omega)) kV_X4_75 ga0 (⟨trivial, ⟨(S_7.2.1.fR ga0 rfl (by decide) (by decide +kernel)).trans htp, u7_0⟩⟩) (by decide +kernel) dX4_readCondition_17 hl.1 rfl rfl (by decide) cd_X4_readAtom ⟨Nat.le_of_ble_eq_true rfl, Nat.le_of_ble_eq_true rfl, Nat.le_of_ble_eq_true rfl, Nat.le_of_ble_eq_true rfl, Nat.le_of_ble_eq_true rfl⟩ (fun v4 H4 L4 S4 K4 q4 => ?_)
        obtain ⟨q4, fq4⟩ := q4
        obtain ⟨q4, tq4⟩ := q4
        have tk4 : Lw D s.heap H4 a0 := u7_2.trans tq4
        rcases fq4 with ⟨c4, y4, z4, ts4⟩ | ⟨e4, y4, z4, wr4⟩
        · skip
          have k_0 : (0 : Int32).toInt = 0 := by decide
          refine lv_if_ne (tgt := 25) hx hb dX4_readCondition_20 (by decide) (fun c5 => ?_) (fun c5 => ?_)
          · have b5 : ¬ v4.toInt = (0 : Int32).toInt := fun z9 => c5 (i_eq.mpr z9)
            refine lv_iload_n hx hb dX4_readCondition_25 rfl (lv_at hl 1 rfl) ?_
            refine lv_if_eq (tgt := 35) hx hb dX4_readCondition_26 (by decide) (fun c6 => ?_) (fun c6 => ?_)
            · have b6 : x3_7.toInt = (0 : Int32).toInt := i_eq.mp c6
              refine lv_aload_n hx hb dX4_readCondition_35 rfl (lv_at hl 3 rfl) ?_
              refine q_grS (T := TX4) C S4.1 ga0 0 kF_X4_39 dX4_readCondition_36 rfl rfl (by decide) rfl (by decide) kSF_X4_tape (fun g7 => ?_)
              rw [show fR D H4 4 a0 0 = tp from (S4.2.1.fR ga0 rfl (by decide) (by decide +kernel)).trans htp]
              refine q_lds C ks_X4_78 dX4_readCondition_39 (fun a8 ha8 wa8 => ?_)
              refine callV_Pi C S4.1 S4.2.1.2.1 (c_X9_isWord_f l D G tp a8 3 w_and T c4 gtp ha8 (Wc.of wa8 kw_and)) kV_X4_61 gtp (⟨trivial, ts4⟩) dX4_readCondition_41 hl.1 rfl rfl (by decide) cd_X9_isWord ⟨Nat.le_of_ble_eq_true rfl, Nat.le_of_ble_eq_true rfl, Nat.le_of_ble_eq_true rfl, Nat.le_of_ble_eq_true rfl, Nat.le_of_ble_eq_true rfl⟩ (fun v9 q9 => ?_)
              obtain ⟨q9, fq9⟩ := q9
              rcases fq9 with ⟨z9, y9⟩ | ⟨z9, y9⟩
              · skip
                refine lv_istore_n (lv' := [(3, .int v9), (4, .int x4_7), (2, .int x2_7), (0, .ref a0), (1, .int x1)]) hx hb dX4_readCondition_44 rfl hl (by decide) rfl (fun ls hl => ?_)
                refine lv_iload_n hx hb dX4_readCondition_45 rfl (lv_at hl 0 rfl) ?_
                refine lv_if_ne (tgt := 75) hx hb dX4_readCondition_46 (by decide) (fun c10 => ?_) (fun c10 => ?_)
                · have b10 : ¬ v9.toInt = (0 : Int32).toInt := fun z9 => c10 (i_eq.mpr z9)
                  refine lv_aload_n hx hb dX4_readCondition_75 rfl (lv_at hl 3 rfl) ?_
                  refine q_grS (T := TX4) C S4.1 ga0 0 kF_X4_39 dX4_readCondition_76 rfl rfl (by decide) rfl (by decide) kSF_X4_tape (fun g11 => ?_)
                  rw [show fR D H4 4 a0 0 = tp from (S4.2.1.fR ga0 rfl (by decide) (by decide +kernel)).trans htp]
                  refine callV_Ev C S4 (c_X9_next_f l D G tp T c4 gtp) kV_X4_47 gtp (⟨trivial, ts4⟩) (by decide +kernel) dX4_readCondition_79 hl.1 rfl rfl (by decide) cd_X9_next ⟨Nat.le_of_ble_eq_true rfl, Nat.le_of_ble_eq_true rfl, Nat.le_of_ble_eq_true rfl, Nat.le_of_ble_eq_true rfl, Nat.le_of_ble_eq_true rfl⟩ (fun H12 L12 S12 K12 q12 => ?_)
                  obtain ⟨q12, fq12⟩ := q12
                  have tk12 : Lw D s.heap H12 a0 := tk4.trans (Lw.keep S4.1 ga0 K12 (by decide +kernel) (by decide +kernel) (by decide +kernel))
                  obtain ⟨v13, ev13⟩ : ∃ y : Int32, y = x4_7 + (1) := ⟨_, rfl⟩
                  have k_1 : (1 : Int32).toInt = 1 := by decide
                  have f14 : v13.toInt = x4_7.toInt + (1) := by rw [ev13]; exact i_addc k_1 (by omega) (by omega)
                  refine lv_iinc (v := v13) (lv' := [(4, .int v13), (3, .int v9), (2, .int x2_7), (0, .ref a0), (1, .int x1)]) hx hb dX4_readCondition_82 hl (k := 1) rfl (by rw [ev13]; rfl) (by decide) rfl (fun ls hl => ?_)
                  refine lv_goto (tgt := 7) hx hb dX4_readCondition_85 (by decide) ?_
                  exact ih7 v13 v9 x2_7 (nx T c4) H12 L12 ls S12 (by omega) (by omega) (by omega) fq12 (by rw [u7_1]; exact conR_st (by omega) y4 (by simp [y4, y9])) tk12 (by omega) (lv_sub hl [0, 1, 2, 3, 4] rfl)
                · have b10 : v9.toInt = (0 : Int32).toInt := i_eq.mp c10
                  exact absurd b10 (by omega)
              · skip
                refine lv_istore_n (lv' := [(3, .int v9), (4, .int x4_7), (2, .int x2_7), (0, .ref a0), (1, .int x1)]) hx hb dX4_readCondition_44 rfl hl (by decide) rfl (fun ls hl => ?_)
                refine lv_iload_n hx hb dX4_readCondition_45 rfl (lv_at hl 0 rfl) ?_
                refine lv_if_ne (tgt := 75) hx hb dX4_readCondition_46 (by decide) (fun c15 => ?_) (fun c15 => ?_)
                · have b15 : ¬ v9.toInt = (0 : Int32).toInt := fun z9 => c15 (i_eq.mpr z9)
                  exact absurd b15 (by omega)
                · have b15 : v9.toInt = (0 : Int32).toInt := i_eq.mp c15
                  refine lv_iload_n hx hb dX4_readCondition_49 rfl (lv_at hl 2 rfl) ?_
                  refine lv_if_eq (tgt := 59) hx hb dX4_readCondition_50 (by decide) (fun c16 => ?_) (fun c16 => ?_)
                  · have b16 : x2_7.toInt = (0 : Int32).toInt := i_eq.mp c16
                    refine lv_aload_n hx hb dX4_readCondition_59 rfl (lv_at hl 3 rfl) ?_
                    refine q_grS (T := TX4) C S4.1 ga0 0 kF_X4_39 dX4_readCondition_60 rfl rfl (by decide) rfl (by decide) kSF_X4_tape (fun g17 => ?_)
                    rw [show fR D H4 4 a0 0 = tp from (S4.2.1.fR ga0 rfl (by decide) (by decide +kernel)).trans htp]
                    refine q_lds C ks_X4_80 dX4_readCondition_63 (fun a18 ha18 wa18 => ?_)
                    refine callV_Pi C S4.1 S4.2.1.2.1 (c_X9_isWord_f l D G tp a18 2 w_or T c4 gtp ha18 (Wc.of wa18 kw_or)) kV_X4_61 gtp (⟨trivial, ts4⟩) dX4_readCondition_65 hl.1 rfl rfl (by decide) cd_X9_isWord ⟨Nat.le_of_ble_eq_true rfl, Nat.le_of_ble_eq_true rfl, Nat.le_of_ble_eq_true rfl, Nat.le_of_ble_eq_true rfl, Nat.le_of_ble_eq_true rfl⟩ (fun v19 q19 => ?_)
                    obtain ⟨q19, fq19⟩ := q19
                    rcases fq19 with ⟨z19, y19⟩ | ⟨z19, y19⟩
                    · skip
                      refine lv_istore_n (lv' := [(2, .int v19), (3, .int v9), (4, .int x4_7), (0, .ref a0), (1, .int x1)]) hx hb dX4_readCondition_68 rfl hl (by decide) rfl (fun ls hl => ?_)
                      refine lv_iload_n hx hb dX4_readCondition_69 rfl (lv_at hl 0 rfl) ?_
                      refine lv_if_ne (tgt := 75) hx hb dX4_readCondition_70 (by decide) (fun c20 => ?_) (fun c20 => ?_)
                      · have b20 : ¬ v19.toInt = (0 : Int32).toInt := fun z9 => c20 (i_eq.mpr z9)
                        refine lv_aload_n hx hb dX4_readCondition_75 rfl (lv_at hl 3 rfl) ?_
                        refine q_grS (T := TX4) C S4.1 ga0 0 kF_X4_39 dX4_readCondition_76 rfl rfl (by decide) rfl (by decide) kSF_X4_tape (fun g21 => ?_)
                        rw [show fR D H4 4 a0 0 = tp from (S4.2.1.fR ga0 rfl (by decide) (by decide +kernel)).trans htp]
                        refine callV_Ev C S4 (c_X9_next_f l D G tp T c4 gtp) kV_X4_47 gtp (⟨trivial, ts4⟩) (by decide +kernel) dX4_readCondition_79 hl.1 rfl rfl (by decide) cd_X9_next ⟨Nat.le_of_ble_eq_true rfl, Nat.le_of_ble_eq_true rfl, Nat.le_of_ble_eq_true rfl, Nat.le_of_ble_eq_true rfl, Nat.le_of_ble_eq_true rfl⟩ (fun H22 L22 S22 K22 q22 => ?_)
                        obtain ⟨q22, fq22⟩ := q22
                        have tk22 : Lw D s.heap H22 a0 := tk4.trans (Lw.keep S4.1 ga0 K22 (by decide +kernel) (by decide +kernel) (by decide +kernel))
                        obtain ⟨v23, ev23⟩ : ∃ y : Int32, y = x4_7 + (1) := ⟨_, rfl⟩
                        have k_1 : (1 : Int32).toInt = 1 := by decide
                        have f24 : v23.toInt = x4_7.toInt + (1) := by rw [ev23]; exact i_addc k_1 (by omega) (by omega)
                        refine lv_iinc (v := v23) (lv' := [(4, .int v23), (2, .int v19), (3, .int v9), (0, .ref a0), (1, .int x1)]) hx hb dX4_readCondition_82 hl (k := 2) rfl (by rw [ev23]; rfl) (by decide) rfl (fun ls hl => ?_)
                        refine lv_goto (tgt := 7) hx hb dX4_readCondition_85 (by decide) ?_
                        exact ih7 v23 v9 v19 (nx T c4) H22 L22 ls S22 (by omega) (by omega) (by omega) fq22 (by rw [u7_1]; exact conR_st (by omega) y4 (by simp [y4, y9, y19])) tk22 (by omega) (lv_sub hl [0, 2, 1, 3, 4] rfl)
                      · have b20 : v19.toInt = (0 : Int32).toInt := i_eq.mp c20
                        exact absurd b20 (by omega)
                    · skip
                      refine lv_istore_n (lv' := [(2, .int v19), (3, .int v9), (4, .int x4_7), (0, .ref a0), (1, .int x1)]) hx hb dX4_readCondition_68 rfl hl (by decide) rfl (fun ls hl => ?_)
                      refine lv_iload_n hx hb dX4_readCondition_69 rfl (lv_at hl 0 rfl) ?_
                      refine lv_if_ne (tgt := 75) hx hb dX4_readCondition_70 (by decide) (fun c25 => ?_) (fun c25 => ?_)
                      · have b25 : ¬ v19.toInt = (0 : Int32).toInt := fun z9 => c25 (i_eq.mpr z9)
                        exact absurd b25 (by omega)
                      · have b25 : v19.toInt = (0 : Int32).toInt := i_eq.mp c25
                        refine lv_iconst (v := 1) hx hb dX4_readCondition_73 (by decide) ?_
                        have k_1 : (1 : Int32).toInt = 1 := by decide
                        exact retE_z hQ C S4 hr dX4_readCondition_74 (z01 (by omega) (by omega)) (⟨⟨by omega, tk4⟩, Rs.ok (by rw [u7_1]; exact conR_ok (by omega) y4 (by simp [y4, y9, y19]) (by simp [y4, y9, y19])) (by omega) ts4⟩)
                  · have b16 : ¬ x2_7.toInt = (0 : Int32).toInt := fun z9 => c16 (i_eq.mpr z9)
                    refine lv_aload_n hx hb dX4_readCondition_53 rfl (lv_at hl 3 rfl) ?_
                    refine lv_bipush (v := -18) hx hb dX4_readCondition_54 (by decide) ?_
                    have k_m18 : (-18 : Int32).toInt = -18 := by decide
                    refine callV_Ev C S4 (c_X4_put l D G a0 (-18 : Int32) ga0) kV_X4_55 ga0 (trivial) (by decide +kernel) dX4_readCondition_56 hl.1 rfl rfl (by decide) cd_X4_put ⟨Nat.le_of_ble_eq_true rfl, Nat.le_of_ble_eq_true rfl, Nat.le_of_ble_eq_true rfl, Nat.le_of_ble_eq_true rfl, Nat.le_of_ble_eq_true rfl⟩ (fun H26 L26 S26 K26 q26 => ?_)
                    obtain ⟨qa26, qb26, tq26⟩ := q26
                    have tk26 : Lw D s.heap H26 a0 := tk4.trans tq26
                    have ts26 := ts4.keep S4.1 gtp K26 (by decide +kernel)
                    refine lv_aload_n hx hb dX4_readCondition_59 rfl (lv_at hl 3 rfl) ?_
                    refine q_grS (T := TX4) C S26.1 ga0 0 kF_X4_39 dX4_readCondition_60 rfl rfl (by decide) rfl (by decide) kSF_X4_tape (fun g27 => ?_)
                    rw [show fR D H26 4 a0 0 = tp from (S26.2.1.fR ga0 rfl (by decide) (by decide +kernel)).trans htp]
                    refine q_lds C ks_X4_80 dX4_readCondition_63 (fun a28 ha28 wa28 => ?_)
                    refine callV_Pi C S26.1 S26.2.1.2.1 (c_X9_isWord_f l D G tp a28 2 w_or T c4 gtp ha28 (Wc.of wa28 kw_or)) kV_X4_61 gtp (⟨trivial, ts26⟩) dX4_readCondition_65 hl.1 rfl rfl (by decide) cd_X9_isWord ⟨Nat.le_of_ble_eq_true rfl, Nat.le_of_ble_eq_true rfl, Nat.le_of_ble_eq_true rfl, Nat.le_of_ble_eq_true rfl, Nat.le_of_ble_eq_true rfl⟩ (fun v29 q29 => ?_)
                    obtain ⟨q29, fq29⟩ := q29
                    rcases fq29 with ⟨z29, y29⟩ | ⟨z29, y29⟩
                    · skip
                      refine lv_istore_n (lv' := [(2, .int v29), (3, .int v9), (4, .int x4_7), (0, .ref a0), (1, .int x1)]) hx hb dX4_readCondition_68 rfl hl (by decide) rfl (fun ls hl => ?_)
                      refine lv_iload_n hx hb dX4_readCondition_69 rfl (lv_at hl 0 rfl) ?_
                      refine lv_if_ne (tgt := 75) hx hb dX4_readCondition_70 (by decide) (fun c30 => ?_) (fun c30 => ?_)
                      · have b30 : ¬ v29.toInt = (0 : Int32).toInt := fun z9 => c30 (i_eq.mpr z9)
                        refine lv_aload_n hx hb dX4_readCondition_75 rfl (lv_at hl 3 rfl) ?_
                        refine q_grS (T := TX4) C S26.1 ga0 0 kF_X4_39 dX4_readCondition_76 rfl rfl (by decide) rfl (by decide) kSF_X4_tape (fun g31 => ?_)
                        rw [show fR D H26 4 a0 0 = tp from (S26.2.1.fR ga0 rfl (by decide) (by decide +kernel)).trans htp]
                        refine callV_Ev C S26 (c_X9_next_f l D G tp T c4 gtp) kV_X4_47 gtp (⟨trivial, ts26⟩) (by decide +kernel) dX4_readCondition_79 hl.1 rfl rfl (by decide) cd_X9_next ⟨Nat.le_of_ble_eq_true rfl, Nat.le_of_ble_eq_true rfl, Nat.le_of_ble_eq_true rfl, Nat.le_of_ble_eq_true rfl, Nat.le_of_ble_eq_true rfl⟩ (fun H32 L32 S32 K32 q32 => ?_)
                        obtain ⟨q32, fq32⟩ := q32
                        have tk32 : Lw D s.heap H32 a0 := tk26.trans (Lw.keep S26.1 ga0 K32 (by decide +kernel) (by decide +kernel) (by decide +kernel))
                        obtain ⟨v33, ev33⟩ : ∃ y : Int32, y = x4_7 + (1) := ⟨_, rfl⟩
                        have k_1 : (1 : Int32).toInt = 1 := by decide
                        have f34 : v33.toInt = x4_7.toInt + (1) := by rw [ev33]; exact i_addc k_1 (by omega) (by omega)
                        refine lv_iinc (v := v33) (lv' := [(4, .int v33), (2, .int v29), (3, .int v9), (0, .ref a0), (1, .int x1)]) hx hb dX4_readCondition_82 hl (k := 2) rfl (by rw [ev33]; rfl) (by decide) rfl (fun ls hl => ?_)
                        refine lv_goto (tgt := 7) hx hb dX4_readCondition_85 (by decide) ?_
                        exact ih7 v33 v9 v29 (nx T c4) H32 L32 ls S32 (by omega) (by omega) (by omega) fq32 (by rw [u7_1]; exact conR_st (by omega) y4 (by simp [y4, y9, y29])) tk32 (by omega) (lv_sub hl [0, 2, 1, 3, 4] rfl)
                      · have b30 : v29.toInt = (0 : Int32).toInt := i_eq.mp c30
                        exact absurd b30 (by omega)
                    · skip
                      refine lv_istore_n (lv' := [(2, .int v29), (3, .int v9), (4, .int x4_7), (0, .ref a0), (1, .int x1)]) hx hb dX4_readCondition_68 rfl hl (by decide) rfl (fun ls hl => ?_)
                      refine lv_iload_n hx hb dX4_readCondition_69 rfl (lv_at hl 0 rfl) ?_
                      refine lv_if_ne (tgt := 75) hx hb dX4_readCondition_70 (by decide) (fun c35 => ?_) (fun c35 => ?_)
                      · have b35 : ¬ v29.toInt = (0 : Int32).toInt := fun z9 => c35 (i_eq.mpr z9)
                        exact absurd b35 (by omega)
                      · have b35 : v29.toInt = (0 : Int32).toInt := i_eq.mp c35
                        refine lv_iconst (v := 1) hx hb dX4_readCondition_73 (by decide) ?_
                        have k_1 : (1 : Int32).toInt = 1 := by decide
                        exact retE_z hQ C S26 hr dX4_readCondition_74 (z01 (by omega) (by omega)) (⟨⟨by omega, tk26⟩, Rs.ok (by rw [u7_1]; exact conR_ok (by omega) y4 (by simp [y4, y9, y29]) (by simp [y4, y9, y29])) (by omega) ts26⟩)
            · have b6 : ¬ x3_7.toInt = (0 : Int32).toInt := fun z9 => c6 (i_eq.mpr z9)
              refine lv_aload_n hx hb dX4_readCondition_29 rfl (lv_at hl 3 rfl) ?_
              refine lv_bipush (v := -17) hx hb dX4_readCondition_30 (by decide) ?_
              have k_m17 : (-17 : Int32).toInt = -17 := by decide
              refine callV_Ev C S4 (c_X4_put l D G a0 (-17 : Int32) ga0) kV_X4_55 ga0 (trivial) (by decide +kernel) dX4_readCondition_32 hl.1 rfl rfl (by decide) cd_X4_put ⟨Nat.le_of_ble_eq_true rfl, Nat.le_of_ble_eq_true rfl, Nat.le_of_ble_eq_true rfl, Nat.le_of_ble_eq_true rfl, Nat.le_of_ble_eq_true rfl⟩ (fun H36 L36 S36 K36 q36 => ?_)
              obtain ⟨qa36, qb36, tq36⟩ := q36
              have tk36 : Lw D s.heap H36 a0 := tk4.trans tq36
              have ts36 := ts4.keep S4.1 gtp K36 (by decide +kernel)
              refine lv_aload_n hx hb dX4_readCondition_35 rfl (lv_at hl 3 rfl) ?_
              refine q_grS (T := TX4) C S36.1 ga0 0 kF_X4_39 dX4_readCondition_36 rfl rfl (by decide) rfl (by decide) kSF_X4_tape (fun g37 => ?_)
              rw [show fR D H36 4 a0 0 = tp from (S36.2.1.fR ga0 rfl (by decide) (by decide +kernel)).trans htp]
              refine q_lds C ks_X4_78 dX4_readCondition_39 (fun a38 ha38 wa38 => ?_)
              refine callV_Pi C S36.1 S36.2.1.2.1 (c_X9_isWord_f l D G tp a38 3 w_and T c4 gtp ha38 (Wc.of wa38 kw_and)) kV_X4_61 gtp (⟨trivial, ts36⟩) dX4_readCondition_41 hl.1 rfl rfl (by decide) cd_X9_isWord ⟨Nat.le_of_ble_eq_true rfl, Nat.le_of_ble_eq_true rfl, Nat.le_of_ble_eq_true rfl, Nat.le_of_ble_eq_true rfl, Nat.le_of_ble_eq_true rfl⟩ (fun v39 q39 => ?_)
              obtain ⟨q39, fq39⟩ := q39
              rcases fq39 with ⟨z39, y39⟩ | ⟨z39, y39⟩
              · skip
                refine lv_istore_n (lv' := [(3, .int v39), (4, .int x4_7), (2, .int x2_7), (0, .ref a0), (1, .int x1)]) hx hb dX4_readCondition_44 rfl hl (by decide) rfl (fun ls hl => ?_)
                refine lv_iload_n hx hb dX4_readCondition_45 rfl (lv_at hl 0 rfl) ?_
                refine lv_if_ne (tgt := 75) hx hb dX4_readCondition_46 (by decide) (fun c40 => ?_) (fun c40 => ?_)
                · have b40 : ¬ v39.toInt = (0 : Int32).toInt := fun z9 => c40 (i_eq.mpr z9)
                  refine lv_aload_n hx hb dX4_readCondition_75 rfl (lv_at hl 3 rfl) ?_
                  refine q_grS (T := TX4) C S36.1 ga0 0 kF_X4_39 dX4_readCondition_76 rfl rfl (by decide) rfl (by decide) kSF_X4_tape (fun g41 => ?_)
                  rw [show fR D H36 4 a0 0 = tp from (S36.2.1.fR ga0 rfl (by decide) (by decide +kernel)).trans htp]
                  refine callV_Ev C S36 (c_X9_next_f l D G tp T c4 gtp) kV_X4_47 gtp (⟨trivial, ts36⟩) (by decide +kernel) dX4_readCondition_79 hl.1 rfl rfl (by decide) cd_X9_next ⟨Nat.le_of_ble_eq_true rfl, Nat.le_of_ble_eq_true rfl, Nat.le_of_ble_eq_true rfl, Nat.le_of_ble_eq_true rfl, Nat.le_of_ble_eq_true rfl⟩ (fun H42 L42 S42 K42 q42 => ?_)
                  obtain ⟨q42, fq42⟩ := q42
                  have tk42 : Lw D s.heap H42 a0 := tk36.trans (Lw.keep S36.1 ga0 K42 (by decide +kernel) (by decide +kernel) (by decide +kernel))
                  obtain ⟨v43, ev43⟩ : ∃ y : Int32, y = x4_7 + (1) := ⟨_, rfl⟩
                  have k_1 : (1 : Int32).toInt = 1 := by decide
                  have f44 : v43.toInt = x4_7.toInt + (1) := by rw [ev43]; exact i_addc k_1 (by omega) (by omega)
                  refine lv_iinc (v := v43) (lv' := [(4, .int v43), (3, .int v39), (2, .int x2_7), (0, .ref a0), (1, .int x1)]) hx hb dX4_readCondition_82 hl (k := 1) rfl (by rw [ev43]; rfl) (by decide) rfl (fun ls hl => ?_)
                  refine lv_goto (tgt := 7) hx hb dX4_readCondition_85 (by decide) ?_
                  exact ih7 v43 v39 x2_7 (nx T c4) H42 L42 ls S42 (by omega) (by omega) (by omega) fq42 (by rw [u7_1]; exact conR_st (by omega) y4 (by simp [y4, y39])) tk42 (by omega) (lv_sub hl [0, 1, 2, 3, 4] rfl)
                · have b40 : v39.toInt = (0 : Int32).toInt := i_eq.mp c40
                  exact absurd b40 (by omega)
              · skip
                refine lv_istore_n (lv' := [(3, .int v39), (4, .int x4_7), (2, .int x2_7), (0, .ref a0), (1, .int x1)]) hx hb dX4_readCondition_44 rfl hl (by decide) rfl (fun ls hl => ?_)
                refine lv_iload_n hx hb dX4_readCondition_45 rfl (lv_at hl 0 rfl) ?_
                refine lv_if_ne (tgt := 75) hx hb dX4_readCondition_46 (by decide) (fun c45 => ?_) (fun c45 => ?_)
                · have b45 : ¬ v39.toInt = (0 : Int32).toInt := fun z9 => c45 (i_eq.mpr z9)
                  exact absurd b45 (by omega)
                · have b45 : v39.toInt = (0 : Int32).toInt := i_eq.mp c45
                  refine lv_iload_n hx hb dX4_readCondition_49 rfl (lv_at hl 2 rfl) ?_
                  refine lv_if_eq (tgt := 59) hx hb dX4_readCondition_50 (by decide) (fun c46 => ?_) (fun c46 => ?_)
                  · have b46 : x2_7.toInt = (0 : Int32).toInt := i_eq.mp c46
                    refine lv_aload_n hx hb dX4_readCondition_59 rfl (lv_at hl 3 rfl) ?_
                    refine q_grS (T := TX4) C S36.1 ga0 0 kF_X4_39 dX4_readCondition_60 rfl rfl (by decide) rfl (by decide) kSF_X4_tape (fun g47 => ?_)
                    rw [show fR D H36 4 a0 0 = tp from (S36.2.1.fR ga0 rfl (by decide) (by decide +kernel)).trans htp]
                    refine q_lds C ks_X4_80 dX4_readCondition_63 (fun a48 ha48 wa48 => ?_)
                    refine callV_Pi C S36.1 S36.2.1.2.1 (c_X9_isWord_f l D G tp a48 2 w_or T c4 gtp ha48 (Wc.of wa48 kw_or)) kV_X4_61 gtp (⟨trivial, ts36⟩) dX4_readCondition_65 hl.1 rfl rfl (by decide) cd_X9_isWord ⟨Nat.le_of_ble_eq_true rfl, Nat.le_of_ble_eq_true rfl, Nat.le_of_ble_eq_true rfl, Nat.le_of_ble_eq_true rfl, Nat.le_of_ble_eq_true rfl⟩ (fun v49 q49 => ?_)
                    obtain ⟨q49, fq49⟩ := q49
                    rcases fq49 with ⟨z49, y49⟩ | ⟨z49, y49⟩
                    · skip
                      refine lv_istore_n (lv' := [(2, .int v49), (3, .int v39), (4, .int x4_7), (0, .ref a0), (1, .int x1)]) hx hb dX4_readCondition_68 rfl hl (by decide) rfl (fun ls hl => ?_)
                      refine lv_iload_n hx hb dX4_readCondition_69 rfl (lv_at hl 0 rfl) ?_
                      refine lv_if_ne (tgt := 75) hx hb dX4_readCondition_70 (by decide) (fun c50 => ?_) (fun c50 => ?_)
                      · have b50 : ¬ v49.toInt = (0 : Int32).toInt := fun z9 => c50 (i_eq.mpr z9)
                        refine lv_aload_n hx hb dX4_readCondition_75 rfl (lv_at hl 3 rfl) ?_
                        refine q_grS (T := TX4) C S36.1 ga0 0 kF_X4_39 dX4_readCondition_76 rfl rfl (by decide) rfl (by decide) kSF_X4_tape (fun g51 => ?_)
                        rw [show fR D H36 4 a0 0 = tp from (S36.2.1.fR ga0 rfl (by decide) (by decide +kernel)).trans htp]
                        refine callV_Ev C S36 (c_X9_next_f l D G tp T c4 gtp) kV_X4_47 gtp (⟨trivial, ts36⟩) (by decide +kernel) dX4_readCondition_79 hl.1 rfl rfl (by decide) cd_X9_next ⟨Nat.le_of_ble_eq_true rfl, Nat.le_of_ble_eq_true rfl, Nat.le_of_ble_eq_true rfl, Nat.le_of_ble_eq_true rfl, Nat.le_of_ble_eq_true rfl⟩ (fun H52 L52 S52 K52 q52 => ?_)
                        obtain ⟨q52, fq52⟩ := q52
                        have tk52 : Lw D s.heap H52 a0 := tk36.trans (Lw.keep S36.1 ga0 K52 (by decide +kernel) (by decide +kernel) (by decide +kernel))
                        obtain ⟨v53, ev53⟩ : ∃ y : Int32, y = x4_7 + (1) := ⟨_, rfl⟩
                        have k_1 : (1 : Int32).toInt = 1 := by decide
                        have f54 : v53.toInt = x4_7.toInt + (1) := by rw [ev53]; exact i_addc k_1 (by omega) (by omega)
                        refine lv_iinc (v := v53) (lv' := [(4, .int v53), (2, .int v49), (3, .int v39), (0, .ref a0), (1, .int x1)]) hx hb dX4_readCondition_82 hl (k := 2) rfl (by rw [ev53]; rfl) (by decide) rfl (fun ls hl => ?_)
                        refine lv_goto (tgt := 7) hx hb dX4_readCondition_85 (by decide) ?_
                        exact ih7 v53 v39 v49 (nx T c4) H52 L52 ls S52 (by omega) (by omega) (by omega) fq52 (by rw [u7_1]; exact conR_st (by omega) y4 (by simp [y4, y39, y49])) tk52 (by omega) (lv_sub hl [0, 2, 1, 3, 4] rfl)
                      · have b50 : v49.toInt = (0 : Int32).toInt := i_eq.mp c50
                        exact absurd b50 (by omega)
                    · skip
                      refine lv_istore_n (lv' := [(2, .int v49), (3, .int v39), (4, .int x4_7), (0, .ref a0), (1, .int x1)]) hx hb dX4_readCondition_68 rfl hl (by decide) rfl (fun ls hl => ?_)
                      refine lv_iload_n hx hb dX4_readCondition_69 rfl (lv_at hl 0 rfl) ?_
                      refine lv_if_ne (tgt := 75) hx hb dX4_readCondition_70 (by decide) (fun c55 => ?_) (fun c55 => ?_)
                      · have b55 : ¬ v49.toInt = (0 : Int32).toInt := fun z9 => c55 (i_eq.mpr z9)
                        exact absurd b55 (by omega)
                      · have b55 : v49.toInt = (0 : Int32).toInt := i_eq.mp c55
                        refine lv_iconst (v := 1) hx hb dX4_readCondition_73 (by decide) ?_
                        have k_1 : (1 : Int32).toInt = 1 := by decide
                        exact retE_z hQ C S36 hr dX4_readCondition_74 (z01 (by omega) (by omega)) (⟨⟨by omega, tk36⟩, Rs.ok (by rw [u7_1]; exact conR_ok (by omega) y4 (by simp [y4, y39, y49]) (by simp [y4, y39, y49])) (by omega) ts36⟩)
                  · have b46 : ¬ x2_7.toInt = (0 : Int32).toInt := fun z9 => c46 (i_eq.mpr z9)
                    refine lv_aload_n hx hb dX4_readCondition_53 rfl (lv_at hl 3 rfl) ?_
                    refine lv_bipush (v := -18) hx hb dX4_readCondition_54 (by decide) ?_
                    have k_m18 : (-18 : Int32).toInt = -18 := by decide
                    refine callV_Ev C S36 (c_X4_put l D G a0 (-18 : Int32) ga0) kV_X4_55 ga0 (trivial) (by decide +kernel) dX4_readCondition_56 hl.1 rfl rfl (by decide) cd_X4_put ⟨Nat.le_of_ble_eq_true rfl, Nat.le_of_ble_eq_true rfl, Nat.le_of_ble_eq_true rfl, Nat.le_of_ble_eq_true rfl, Nat.le_of_ble_eq_true rfl⟩ (fun H56 L56 S56 K56 q56 => ?_)
                    obtain ⟨qa56, qb56, tq56⟩ := q56
                    have tk56 : Lw D s.heap H56 a0 := tk36.trans tq56
                    have ts56 := ts36.keep S36.1 gtp K56 (by decide +kernel)
                    refine lv_aload_n hx hb dX4_readCondition_59 rfl (lv_at hl 3 rfl) ?_
                    refine q_grS (T := TX4) C S56.1 ga0 0 kF_X4_39 dX4_readCondition_60 rfl rfl (by decide) rfl (by decide) kSF_X4_tape (fun g57 => ?_)
                    rw [show fR D H56 4 a0 0 = tp from (S56.2.1.fR ga0 rfl (by decide) (by decide +kernel)).trans htp]
                    refine q_lds C ks_X4_80 dX4_readCondition_63 (fun a58 ha58 wa58 => ?_)
                    refine callV_Pi C S56.1 S56.2.1.2.1 (c_X9_isWord_f l D G tp a58 2 w_or T c4 gtp ha58 (Wc.of wa58 kw_or)) kV_X4_61 gtp (⟨trivial, ts56⟩) dX4_readCondition_65 hl.1 rfl rfl (by decide) cd_X9_isWord ⟨Nat.le_of_ble_eq_true rfl, Nat.le_of_ble_eq_true rfl, Nat.le_of_ble_eq_true rfl, Nat.le_of_ble_eq_true rfl, Nat.le_of_ble_eq_true rfl⟩ (fun v59 q59 => ?_)
                    obtain ⟨q59, fq59⟩ := q59
                    rcases fq59 with ⟨z59, y59⟩ | ⟨z59, y59⟩
                    · skip
                      refine lv_istore_n (lv' := [(2, .int v59), (3, .int v39), (4, .int x4_7), (0, .ref a0), (1, .int x1)]) hx hb dX4_readCondition_68 rfl hl (by decide) rfl (fun ls hl => ?_)
                      refine lv_iload_n hx hb dX4_readCondition_69 rfl (lv_at hl 0 rfl) ?_
                      refine lv_if_ne (tgt := 75) hx hb dX4_readCondition_70 (by decide) (fun c60 => ?_) (fun c60 => ?_)
                      · have b60 : ¬ v59.toInt = (0 : Int32).toInt := fun z9 => c60 (i_eq.mpr z9)
                        refine lv_aload_n hx hb dX4_readCondition_75 rfl (lv_at hl 3 rfl) ?_
                        refine q_grS (T := TX4) C S56.1 ga0 0 kF_X4_39 dX4_readCondition_76 rfl rfl (by decide) rfl (by decide) kSF_X4_tape (fun g61 => ?_)
                        rw [show fR D H56 4 a0 0 = tp from (S56.2.1.fR ga0 rfl (by decide) (by decide +kernel)).trans htp]
                        refine callV_Ev C S56 (c_X9_next_f l D G tp T c4 gtp) kV_X4_47 gtp (⟨trivial, ts56⟩) (by decide +kernel) dX4_readCondition_79 hl.1 rfl rfl (by decide) cd_X9_next ⟨Nat.le_of_ble_eq_true rfl, Nat.le_of_ble_eq_true rfl, Nat.le_of_ble_eq_true rfl, Nat.le_of_ble_eq_true rfl, Nat.le_of_ble_eq_true rfl⟩ (fun H62 L62 S62 K62 q62 => ?_)
                        obtain ⟨q62, fq62⟩ := q62
                        have tk62 : Lw D s.heap H62 a0 := tk56.trans (Lw.keep S56.1 ga0 K62 (by decide +kernel) (by decide +kernel) (by decide +kernel))
                        obtain ⟨v63, ev63⟩ : ∃ y : Int32, y = x4_7 + (1) := ⟨_, rfl⟩
                        have k_1 : (1 : Int32).toInt = 1 := by decide
                        have f64 : v63.toInt = x4_7.toInt + (1) := by rw [ev63]; exact i_addc k_1 (by omega) (by omega)
                        refine lv_iinc (v := v63) (lv' := [(4, .int v63), (2, .int v59), (3, .int v39), (0, .ref a0), (1, .int x1)]) hx hb dX4_readCondition_82 hl (k := 2) rfl (by rw [ev63]; rfl) (by decide) rfl (fun ls hl => ?_)
                        refine lv_goto (tgt := 7) hx hb dX4_readCondition_85 (by decide) ?_
                        exact ih7 v63 v39 v59 (nx T c4) H62 L62 ls S62 (by omega) (by omega) (by omega) fq62 (by rw [u7_1]; exact conR_st (by omega) y4 (by simp [y4, y39, y59])) tk62 (by omega) (lv_sub hl [0, 2, 1, 3, 4] rfl)
                      · have b60 : v59.toInt = (0 : Int32).toInt := i_eq.mp c60
                        exact absurd b60 (by omega)
                    · skip
                      refine lv_istore_n (lv' := [(2, .int v59), (3, .int v39), (4, .int x4_7), (0, .ref a0), (1, .int x1)]) hx hb dX4_readCondition_68 rfl hl (by decide) rfl (fun ls hl => ?_)
                      refine lv_iload_n hx hb dX4_readCondition_69 rfl (lv_at hl 0 rfl) ?_
                      refine lv_if_ne (tgt := 75) hx hb dX4_readCondition_70 (by decide) (fun c65 => ?_) (fun c65 => ?_)
                      · have b65 : ¬ v59.toInt = (0 : Int32).toInt := fun z9 => c65 (i_eq.mpr z9)
                        exact absurd b65 (by omega)
                      · have b65 : v59.toInt = (0 : Int32).toInt := i_eq.mp c65
                        refine lv_iconst (v := 1) hx hb dX4_readCondition_73 (by decide) ?_
                        have k_1 : (1 : Int32).toInt = 1 := by decide
                        exact retE_z hQ C S56 hr dX4_readCondition_74 (z01 (by omega) (by omega)) (⟨⟨by omega, tk56⟩, Rs.ok (by rw [u7_1]; exact conR_ok (by omega) y4 (by simp [y4, y39, y59]) (by simp [y4, y39, y59])) (by omega) ts56⟩)
          · have b5 : v4.toInt = (0 : Int32).toInt := i_eq.mp c5
            exact absurd b5 (by omega)
        · skip
          have k_0 : (0 : Int32).toInt = 0 := by decide
          refine lv_if_ne (tgt := 25) hx hb dX4_readCondition_20 (by decide) (fun c66 => ?_) (fun c66 => ?_)
          · have b66 : ¬ v4.toInt = (0 : Int32).toInt := fun z9 => c66 (i_eq.mpr z9)
            exact absurd b66 (by omega)
          · have b66 : v4.toInt = (0 : Int32).toInt := i_eq.mp c66
            refine lv_iconst (v := 0) hx hb dX4_readCondition_23 (by decide) ?_
            exact retE_z hQ C S4 hr dX4_readCondition_24 (z01 (by omega) (by omega)) (⟨⟨by omega, tk4⟩, Rs.no (by rw [u7_1]; exact conR_no (by omega) y4) (by omega) wr4⟩)
  have k_0 : (0 : Int32).toInt = 0 := by decide
  exact Lp7 401 (0 : Int32) (0 : Int32) (0 : Int32) b s.heap [] ls S (by omega) (by omega) (by omega) ts0 (congrArg (fun n9 => conR T (atm T 6) n9 b) (show 400 = 400 - (0 : Int32).toInt.toNat by decide)) tk0  (by omega) (lv_sub hl [0, 1, 2, 3, 4] rfl)

set_option maxRecDepth 100000 in
set_option maxHeartbeats 4000000 in
theorem c_X4_readLine (l : Launch) (D : DD) (G : Nat → Nat) (a0 : Nat) (tp : Nat) (T : Tx) (b : Nat) (ga0 : G a0 = 21) : CE l D G yX4_readLine cX4_readLine 4 (some .boolean) 21 [.ref a0] (fun H => (True) ∧ (fR D H 4 a0 0 = tp ∧ TS D H tp T b)) [(2, 3), (2, 4), (2, 5), (2, 6), (2, 2), (22, 0), (21, 3), (21, 4)] (xI (fun H r H1 => ((0 ≤ r.toInt ∧ r.toInt ≤ 1) ∧ (r.toInt = 1 → Lc D H a0 → Lc D H1 a0)) ∧ (Rs D H1 tp T (linF T b) r) ∧ (r.toInt = 1 → 0 ≤ (fI D H 4 a0 4).toInt ∧ (fI D H 4 a0 4).toInt ≤ 100 → (fI D H1 4 a0 4).toInt = (fI D H 4 a0 4).toInt + 1))) := by
  refine enter (by decide) (Nat.le_of_ble_eq_true rfl) ?_
  intro p e s m args below meth c ls Q hA hQ C hr hO hpre hl
  have hx := C.1
  have hb := C.2.1
  have S : Sd D G [(2, 3), (2, 4), (2, 5), (2, 6), (2, 2), (22, 0), (21, 3), (21, 4)] s.heap s.heap [] := Sd.start hO
  have hl : lv_has ls 4 [(0, .ref a0)] := hl
  obtain ⟨hpre, hf⟩ := hpre
  obtain ⟨htp, ts0⟩ := hf
  have gtp : G tp = 2 := by rw [← htp]; exact hO.rol ga0 rfl (by decide) rfl
  have hT : T.2 ≤ 400 := ts0.le hO gtp
  have tk0 : Lw D s.heap s.heap a0 := Lw.refl
  refine lv_aload_n hx hb dX4_readLine_0 rfl (lv_at hl 0 rfl) ?_
  refine callV_Pi C S.1 S.2.1.2.1 (c_X4_presentSort_f l D G a0 tp T b ga0) kV_X4_35 ga0 (⟨trivial, ⟨htp, ts0⟩⟩) dX4_readLine_1 hl.1 rfl rfl (by decide) cd_X4_presentSort ⟨Nat.le_of_ble_eq_true rfl, Nat.le_of_ble_eq_true rfl, Nat.le_of_ble_eq_true rfl, Nat.le_of_ble_eq_true rfl, Nat.le_of_ble_eq_true rfl⟩ (fun v1 q1 => ?_)
  obtain ⟨q1, fq1⟩ := q1
  refine lv_istore_n (lv' := [(1, .int v1), (0, .ref a0)]) hx hb dX4_readLine_4 rfl hl (by decide) rfl (fun ls hl => ?_)
  refine lv_iload_n hx hb dX4_readLine_5 rfl (lv_at hl 0 rfl) ?_
  refine lv_iconst (v := -1) hx hb dX4_readLine_6 (by decide) ?_
  have k_m1 : (-1 : Int32).toInt = -1 := by decide
  refine lv_icmp_ne (tgt := 18) hx hb dX4_readLine_7 (by decide) (fun c2 => ?_) (fun c2 => ?_)
  · have b2 : ¬ v1.toInt = (-1 : Int32).toInt := fun z9 => c2 (i_eq.mpr z9)
    have ys3 : ¬ srt T b = -1 := by omega
    refine lv_aload_n hx hb dX4_readLine_18 rfl (lv_at hl 1 rfl) ?_
    refine q_grS (T := TX4) C S.1 ga0 0 kF_X4_39 dX4_readLine_19 rfl rfl (by decide) rfl (by decide) kSF_X4_tape (fun g4 => ?_)
    rw [show fR D s.heap 4 a0 0 = tp from htp]
    refine callV_Ev C S (c_X9_next_f l D G tp T b gtp) kV_X4_47 gtp (⟨trivial, ts0⟩) (by decide +kernel) dX4_readLine_22 hl.1 rfl rfl (by decide) cd_X9_next ⟨Nat.le_of_ble_eq_true rfl, Nat.le_of_ble_eq_true rfl, Nat.le_of_ble_eq_true rfl, Nat.le_of_ble_eq_true rfl, Nat.le_of_ble_eq_true rfl⟩ (fun H5 L5 S5 K5 q5 => ?_)
    obtain ⟨q5, fq5⟩ := q5
    have tk5 : Lw D s.heap H5 a0 := tk0.trans (Lw.keep S.1 ga0 K5 (by decide +kernel) (by decide +kernel) (by decide +kernel))
    refine lv_iload_n hx hb dX4_readLine_25 rfl (lv_at hl 0 rfl) ?_
    refine lv_iconst (v := 1) hx hb dX4_readLine_26 (by decide) ?_
    have k_1 : (1 : Int32).toInt = 1 := by decide
    refine lv_icmp_ne (tgt := 34) hx hb dX4_readLine_27 (by decide) (fun c6 => ?_) (fun c6 => ?_)
    · have b6 : ¬ v1.toInt = (1 : Int32).toInt := fun z9 => c6 (i_eq.mpr z9)
      have ys7 : ¬ srt T b = 1 := by omega
      refine lv_aload_n hx hb dX4_readLine_34 rfl (lv_at hl 1 rfl) ?_
      refine q_grS (T := TX4) C S5.1 ga0 0 kF_X4_39 dX4_readLine_35 rfl rfl (by decide) rfl (by decide) kSF_X4_tape (fun g8 => ?_)
      rw [show fR D H5 4 a0 0 = tp from (S5.2.1.fR ga0 rfl (by decide) (by decide +kernel)).trans htp]
      refine lv_iconst (v := 0) hx hb dX4_readLine_38 (by decide) ?_
      refine lv_bipush (v := 99) hx hb dX4_readLine_39 (by decide) ?_
      have k_0 : (0 : Int32).toInt = 0 := by decide
      have k_99 : (99 : Int32).toInt = 99 := by decide
      refine callV_Ei C S5 (c_X9_takeNumber_f l D G tp (0 : Int32) (99 : Int32) 0 99 T (nx T b) gtp (by omega) (by omega) (by omega)) kV_X4_51 gtp (⟨trivial, fq5⟩) (by decide +kernel) dX4_readLine_41 hl.1 rfl rfl (by decide) cd_X9_takeNumber ⟨Nat.le_of_ble_eq_true rfl, Nat.le_of_ble_eq_true rfl, Nat.le_of_ble_eq_true rfl, Nat.le_of_ble_eq_true rfl, Nat.le_of_ble_eq_true rfl⟩ (fun v9 H9 L9 S9 K9 q9 => ?_)
      obtain ⟨q9, fq9⟩ := q9
      have tk9 : Lw D s.heap H9 a0 := tk5.trans (Lw.keep S5.1 ga0 K9 (by decide +kernel) (by decide +kernel) (by decide +kernel))
      rcases fq9 with ⟨z9, y9, ts9⟩ | ⟨z9, y9, wr9⟩
      · skip
        refine lv_istore_n (lv' := [(2, .int v9), (1, .int v1), (0, .ref a0)]) hx hb dX4_readLine_44 rfl hl (by decide) rfl (fun ls hl => ?_)
        refine lv_iload_n hx hb dX4_readLine_45 rfl (lv_at hl 0 rfl) ?_
        refine lv_iconst (v := -1) hx hb dX4_readLine_46 (by decide) ?_
        refine lv_icmp_ne (tgt := 52) hx hb dX4_readLine_47 (by decide) (fun c10 => ?_) (fun c10 => ?_)
        · have b10 : ¬ v9.toInt = (-1 : Int32).toInt := fun z9 => c10 (i_eq.mpr z9)
          have u0 : (fI D H9 4 a0 3).toInt = (fI D s.heap 4 a0 3).toInt := by rw [K9.fI ga0 rfl (by decide) (by decide +kernel), K5.fI ga0 rfl (by decide) (by decide +kernel)]
          have ur : 0 ≤ (fI D s.heap 4 a0 3).toInt ∧ (fI D s.heap 4 a0 3).toInt ≤ 400 := hO.rng ga0 rfl (by decide) rfl
          refine lv_aload_n hx hb dX4_readLine_52 rfl (lv_at hl 2 rfl) ?_
          refine lv_iload_n hx hb dX4_readLine_53 rfl (lv_at hl 1 rfl) ?_
          refine callV_Ev C S9 (c_X4_put l D G a0 v1 ga0) kV_X4_55 ga0 (trivial) (by decide +kernel) dX4_readLine_54 hl.1 rfl rfl (by decide) cd_X4_put ⟨Nat.le_of_ble_eq_true rfl, Nat.le_of_ble_eq_true rfl, Nat.le_of_ble_eq_true rfl, Nat.le_of_ble_eq_true rfl, Nat.le_of_ble_eq_true rfl⟩ (fun H11 L11 S11 K11 q11 => ?_)
          obtain ⟨qa11, qb11, tq11⟩ := q11
          have tk11 : Lw D s.heap H11 a0 := tk9.trans tq11
          have ts11 := ts9.keep S9.1 gtp K11 (by decide +kernel)
          refine lv_aload_n hx hb dX4_readLine_57 rfl (lv_at hl 2 rfl) ?_
          refine lv_iload_n hx hb dX4_readLine_58 rfl (lv_at hl 0 rfl) ?_
          refine callV_Ev C S11 (c_X4_put l D G a0 v9 ga0) kV_X4_55 ga0 (trivial) (by decide +kernel) dX4_readLine_59 hl.1 rfl rfl (by decide) cd_X4_put ⟨Nat.le_of_ble_eq_true rfl, Nat.le_of_ble_eq_true rfl, Nat.le_of_ble_eq_true rfl, Nat.le_of_ble_eq_true rfl, Nat.le_of_ble_eq_true rfl⟩ (fun H12 L12 S12 K12 q12 => ?_)
          obtain ⟨qa12, qb12, tq12⟩ := q12
          have tk12 : Lw D s.heap H12 a0 := tk11.trans tq12
          have ts12 := ts11.keep S11.1 gtp K12 (by decide +kernel)
          refine lv_aload_n hx hb dX4_readLine_62 rfl (lv_at hl 2 rfl) ?_
          refine q_gi (T := TX4) C S12.1 ga0 3 kF_X4_17 dX4_readLine_63 rfl rfl (by decide) rfl (by decide) rfl ?_
          have r13 : 0 ≤ (fI D H12 4 a0 3).toInt ∧ (fI D H12 4 a0 3).toInt ≤ 400 := S12.1.rng ga0 rfl (by decide) rfl
          refine lv_istore_n (lv' := [(3, .int (fI D H12 4 a0 3)), (2, .int v9), (1, .int v1), (0, .ref a0)]) hx hb dX4_readLine_66 rfl hl (by decide) rfl (fun ls hl => ?_)
          refine lv_aload_n hx hb dX4_readLine_67 rfl (lv_at hl 3 rfl) ?_
          refine lv_iconst (v := 0) hx hb dX4_readLine_68 (by decide) ?_
          refine callV_Ev C S12 (c_X4_put l D G a0 (0 : Int32) ga0) kV_X4_55 ga0 (trivial) (by decide +kernel) dX4_readLine_69 hl.1 rfl rfl (by decide) cd_X4_put ⟨Nat.le_of_ble_eq_true rfl, Nat.le_of_ble_eq_true rfl, Nat.le_of_ble_eq_true rfl, Nat.le_of_ble_eq_true rfl, Nat.le_of_ble_eq_true rfl⟩ (fun H14 L14 S14 K14 q14 => ?_)
          obtain ⟨qa14, qb14, tq14⟩ := q14
          have tk14 : Lw D s.heap H14 a0 := tk12.trans tq14
          have ts14 := ts12.keep S12.1 gtp K14 (by decide +kernel)
          refine lv_aload_n hx hb dX4_readLine_72 rfl (lv_at hl 3 rfl) ?_
          refine q_grS (T := TX4) C S14.1 ga0 0 kF_X4_39 dX4_readLine_73 rfl rfl (by decide) rfl (by decide) kSF_X4_tape (fun g15 => ?_)
          rw [show fR D H14 4 a0 0 = tp from (S14.2.1.fR ga0 rfl (by decide) (by decide +kernel)).trans htp]
          refine q_lds C ks_X4_59 dX4_readLine_76 (fun a16 ha16 wa16 => ?_)
          refine callV_Pi C S14.1 S14.2.1.2.1 (c_X9_isWord_f l D G tp a16 2 w_if T (nx T (nx T b)) gtp ha16 (Wc.of wa16 kw_if)) kV_X4_61 gtp (⟨trivial, ts14⟩) dX4_readLine_78 hl.1 rfl rfl (by decide) cd_X9_isWord ⟨Nat.le_of_ble_eq_true rfl, Nat.le_of_ble_eq_true rfl, Nat.le_of_ble_eq_true rfl, Nat.le_of_ble_eq_true rfl, Nat.le_of_ble_eq_true rfl⟩ (fun v17 q17 => ?_)
          obtain ⟨q17, fq17⟩ := q17
          rcases fq17 with ⟨z17, y17⟩ | ⟨z17, y17⟩
          · skip
            refine lv_if_eq (tgt := 101) hx hb dX4_readLine_81 (by decide) (fun c18 => ?_) (fun c18 => ?_)
            · have b18 : v17.toInt = (0 : Int32).toInt := i_eq.mp c18
              exact absurd b18 (by omega)
            · have b18 : ¬ v17.toInt = (0 : Int32).toInt := fun z9 => c18 (i_eq.mpr z9)
              refine lv_aload_n hx hb dX4_readLine_84 rfl (lv_at hl 3 rfl) ?_
              refine q_grS (T := TX4) C S14.1 ga0 0 kF_X4_39 dX4_readLine_85 rfl rfl (by decide) rfl (by decide) kSF_X4_tape (fun g19 => ?_)
              rw [show fR D H14 4 a0 0 = tp from (S14.2.1.fR ga0 rfl (by decide) (by decide +kernel)).trans htp]
              refine callV_Ev C S14 (c_X9_next_f l D G tp T (nx T (nx T b)) gtp) kV_X4_47 gtp (⟨trivial, ts14⟩) (by decide +kernel) dX4_readLine_88 hl.1 rfl rfl (by decide) cd_X9_next ⟨Nat.le_of_ble_eq_true rfl, Nat.le_of_ble_eq_true rfl, Nat.le_of_ble_eq_true rfl, Nat.le_of_ble_eq_true rfl, Nat.le_of_ble_eq_true rfl⟩ (fun H20 L20 S20 K20 q20 => ?_)
              obtain ⟨q20, fq20⟩ := q20
              have tk20 : Lw D s.heap H20 a0 := tk14.trans (Lw.keep S14.1 ga0 K20 (by decide +kernel) (by decide +kernel) (by decide +kernel))
              have ud : (fI D H20 4 a0 3).toInt = _ := congrArg Int32.toInt (K20.fI (k := 3) ga0 rfl (by decide) (by decide +kernel))
              refine lv_aload_n hx hb dX4_readLine_91 rfl (lv_at hl 3 rfl) ?_
              refine lv_iconst (v := 0) hx hb dX4_readLine_92 (by decide) ?_
              refine callV_Ei C S20 (c_X4_readCondition_d0 l D G a0 (0 : Int32) tp T (nx T (nx T (nx T b))) ga0 (by omega)) kV_X4_65 ga0 (⟨trivial, ⟨(S20.2.1.fR ga0 rfl (by decide) (by decide +kernel)).trans htp, fq20⟩⟩) (by decide +kernel) dX4_readLine_93 hl.1 rfl rfl (by decide) cd_X4_readCondition ⟨Nat.le_of_ble_eq_true rfl, Nat.le_of_ble_eq_true rfl, Nat.le_of_ble_eq_true rfl, Nat.le_of_ble_eq_true rfl, Nat.le_of_ble_eq_true rfl⟩ (fun v21 H21 L21 S21 K21 q21 => ?_)
              obtain ⟨q21, fq21⟩ := q21
              obtain ⟨q21, tq21⟩ := q21
              have tk21 : Lw D s.heap H21 a0 := tk20.trans tq21
              rcases fq21 with ⟨c21, y21, z21, ts21⟩ | ⟨e21, y21, z21, wr21⟩
              · skip
                have ue := tq21.1
                refine lv_if_ne (tgt := 101) hx hb dX4_readLine_96 (by decide) (fun c22 => ?_) (fun c22 => ?_)
                · have b22 : ¬ v21.toInt = (0 : Int32).toInt := fun z9 => c22 (i_eq.mpr z9)
                  have rw9 : 0 ≤ (fI D H21 4 a0 3).toInt ∧ (fI D H21 4 a0 3).toInt ≤ 400 := S21.1.rng ga0 rfl (by decide) rfl
                  refine lv_iload_n hx hb dX4_readLine_101 rfl (lv_at hl 0 rfl) ?_
                  refine lv_aload_n hx hb dX4_readLine_102 rfl (lv_at hl 3 rfl) ?_
                  refine q_gr (T := TX4) C S21.1 ga0 2 kF_X4_13 dX4_readLine_103 rfl rfl (by decide) rfl (by decide) rfl (fun g23 => ?_)
                  have n24 : aN H21 (fR D H21 4 a0 2) = 400 := len_22 S21.1 g23
                  refine q_alen C S21.1 g23 dX4_readLine_106 rfl (by decide) rfl (fun v25 fv25 => ?_)
                  refine lv_icmp_ge (tgt := 120) hx hb dX4_readLine_107 (by decide) (fun c26 => ?_) (fun c26 => ?_)
                  · have b26 : v25.toInt ≤ (fI D H12 4 a0 3).toInt := i_le.mp c26
                    have fin : Lc D s.heap a0 → Lc D H21 a0 := fun h9 => Lc.full tk21 (by omega) (by omega) h9
                    have SQ := S21
                    refine lv_aload_n hx hb dX4_readLine_120 rfl (lv_at hl 3 rfl) ?_
                    refine lv_dup hx hb dX4_readLine_121 rfl ?_
                    refine q_gi (T := TX4) C S21.1 ga0 4 kF_X4_21 dX4_readLine_122 rfl rfl (by decide) rfl (by decide) rfl ?_
                    have c27 : (fI D H21 4 a0 4).toInt = (fI D s.heap 4 a0 4).toInt := by rw [K21.fI ga0 rfl (by decide) (by decide +kernel), K20.fI ga0 rfl (by decide) (by decide +kernel), K14.fI ga0 rfl (by decide) (by decide +kernel), K12.fI ga0 rfl (by decide) (by decide +kernel), K11.fI ga0 rfl (by decide) (by decide +kernel), K9.fI ga0 rfl (by decide) (by decide +kernel), K5.fI ga0 rfl (by decide) (by decide +kernel)]
                    refine lv_iconst (v := 1) hx hb dX4_readLine_125 (by decide) ?_
                    refine lv_iadd hx hb dX4_readLine_126 ?_
                    refine lv_topi (fun v28 ev28 => ?_)
                    have evq := ev28
                    refine q_put (T := TX4) C S21 ga0 4 kF_X4_21 dX4_readLine_127 rfl rfl (by decide) (by decide) rfl rfl rfl rfl rfl (vok_a rfl) (by decide +kernel) (fun H29 L29 S29 P29 => ?_)
                    have ts29 := ts21.cells S21.1 gtp ga0 (by decide) (by decide) P29.2.2.1
                    refine lv_iconst (v := 1) hx hb dX4_readLine_130 (by decide) ?_
                    exact retE_z hQ C S29 hr dX4_readLine_131 (z01 (by omega) (by omega)) (⟨⟨by omega, fun _ h9 => (fin h9).put SQ.1 ga0 P29⟩, Rs.ok (by simp [linF, numE, ys3, ys7, y9, y17, y21]) (by omega) ts29, fun _ h8 => by rw [Pt.i P29]; exact ln_up evq (by omega) h8⟩)
                  · have b26 : ¬ v25.toInt ≤ (fI D H12 4 a0 3).toInt := fun z9 => c26 (i_le.mpr z9)
                    refine lv_aload_n hx hb dX4_readLine_110 rfl (lv_at hl 3 rfl) ?_
                    refine q_gr (T := TX4) C S21.1 ga0 2 kF_X4_13 dX4_readLine_111 rfl rfl (by decide) rfl (by decide) rfl (fun g30 => ?_)
                    refine lv_iload_n hx hb dX4_readLine_114 rfl (lv_at hl 0 rfl) ?_
                    refine lv_aload_n hx hb dX4_readLine_115 rfl (lv_at hl 3 rfl) ?_
                    refine q_gi (T := TX4) C S21.1 ga0 3 kF_X4_17 dX4_readLine_116 rfl rfl (by decide) rfl (by decide) rfl ?_
                    have r31 : 0 ≤ (fI D H21 4 a0 3).toInt ∧ (fI D H21 4 a0 3).toInt ≤ 400 := S21.1.rng ga0 rfl (by decide) rfl
                    refine q_iast C S21 g30 (by omega) (by omega) dX4_readLine_119 rfl (by decide) (by decide +kernel) (fun _ _ h => ak_22 h) (fun H32 L32 S32 P32 => ?_)
                    have ts32 := ts21.cells S21.1 gtp g30 (by decide) (by decide) P32.2.2.1
                    have fin : Lc D s.heap a0 → Lc D H32 a0 := fun h9 => Lc.wr S21.1 ga0 P32 tk21 (by omega) (by omega) (by omega) h9
                    have SQ := S32
                    refine lv_aload_n hx hb dX4_readLine_120 rfl (lv_at hl 3 rfl) ?_
                    refine lv_dup hx hb dX4_readLine_121 rfl ?_
                    refine q_gi (T := TX4) C S32.1 ga0 4 kF_X4_21 dX4_readLine_122 rfl rfl (by decide) rfl (by decide) rfl ?_
                    have c33 : (fI D H32 4 a0 4).toInt = (fI D s.heap 4 a0 4).toInt := by rw [Pa.f P32 (ne_role ga0 g30 (by decide)), K21.fI ga0 rfl (by decide) (by decide +kernel), K20.fI ga0 rfl (by decide) (by decide +kernel), K14.fI ga0 rfl (by decide) (by decide +kernel), K12.fI ga0 rfl (by decide) (by decide +kernel), K11.fI ga0 rfl (by decide) (by decide +kernel), K9.fI ga0 rfl (by decide) (by decide +kernel), K5.fI ga0 rfl (by decide) (by decide +kernel)]
                    refine lv_iconst (v := 1) hx hb dX4_readLine_125 (by decide) ?_
                    refine lv_iadd hx hb dX4_readLine_126 ?_
                    refine lv_topi (fun v34 ev34 => ?_)
                    have evq := ev34
                    refine q_put (T := TX4) C S32 ga0 4 kF_X4_21 dX4_readLine_127 rfl rfl (by decide) (by decide) rfl rfl rfl rfl rfl (vok_a rfl) (by decide +kernel) (fun H35 L35 S35 P35 => ?_)
                    have ts35 := ts32.cells S32.1 gtp ga0 (by decide) (by decide) P35.2.2.1
                    refine lv_iconst (v := 1) hx hb dX4_readLine_130 (by decide) ?_
                    exact retE_z hQ C S35 hr dX4_readLine_131 (z01 (by omega) (by omega)) (⟨⟨by omega, fun _ h9 => (fin h9).put SQ.1 ga0 P35⟩, Rs.ok (by simp [linF, numE, ys3, ys7, y9, y17, y21]) (by omega) ts35, fun _ h8 => by rw [Pt.i P35]; exact ln_up evq (by omega) h8⟩)
                · have b22 : v21.toInt = (0 : Int32).toInt := i_eq.mp c22
                  exact absurd b22 (by omega)
              · skip
                have ue := tq21.1
                refine lv_if_ne (tgt := 101) hx hb dX4_readLine_96 (by decide) (fun c36 => ?_) (fun c36 => ?_)
                · have b36 : ¬ v21.toInt = (0 : Int32).toInt := fun z9 => c36 (i_eq.mpr z9)
                  exact absurd b36 (by omega)
                · have b36 : v21.toInt = (0 : Int32).toInt := i_eq.mp c36
                  refine lv_iconst (v := 0) hx hb dX4_readLine_99 (by decide) ?_
                  exact retE_z hQ C S21 hr dX4_readLine_100 (z01 (by omega) (by omega)) (⟨⟨by omega, fun h9 => absurd h9 (by decide)⟩, Rs.no (by simp [linF, numE, ys3, ys7, y9, y17, y21]) (by omega) wr21, fun h9 => absurd h9 (by omega)⟩)
          · skip
            refine lv_if_eq (tgt := 101) hx hb dX4_readLine_81 (by decide) (fun c37 => ?_) (fun c37 => ?_)
            · have b37 : v17.toInt = (0 : Int32).toInt := i_eq.mp c37
              have rw9 : 0 ≤ (fI D H14 4 a0 3).toInt ∧ (fI D H14 4 a0 3).toInt ≤ 400 := S14.1.rng ga0 rfl (by decide) rfl
              refine lv_iload_n hx hb dX4_readLine_101 rfl (lv_at hl 0 rfl) ?_
              refine lv_aload_n hx hb dX4_readLine_102 rfl (lv_at hl 3 rfl) ?_
              refine q_gr (T := TX4) C S14.1 ga0 2 kF_X4_13 dX4_readLine_103 rfl rfl (by decide) rfl (by decide) rfl (fun g38 => ?_)
              have n39 : aN H14 (fR D H14 4 a0 2) = 400 := len_22 S14.1 g38
              refine q_alen C S14.1 g38 dX4_readLine_106 rfl (by decide) rfl (fun v40 fv40 => ?_)
              refine lv_icmp_ge (tgt := 120) hx hb dX4_readLine_107 (by decide) (fun c41 => ?_) (fun c41 => ?_)
              · have b41 : v40.toInt ≤ (fI D H12 4 a0 3).toInt := i_le.mp c41
                have fin : Lc D s.heap a0 → Lc D H14 a0 := fun h9 => Lc.full tk14 (by omega) (by omega) h9
                have SQ := S14
                refine lv_aload_n hx hb dX4_readLine_120 rfl (lv_at hl 3 rfl) ?_
                refine lv_dup hx hb dX4_readLine_121 rfl ?_
                refine q_gi (T := TX4) C S14.1 ga0 4 kF_X4_21 dX4_readLine_122 rfl rfl (by decide) rfl (by decide) rfl ?_
                have c42 : (fI D H14 4 a0 4).toInt = (fI D s.heap 4 a0 4).toInt := by rw [K14.fI ga0 rfl (by decide) (by decide +kernel), K12.fI ga0 rfl (by decide) (by decide +kernel), K11.fI ga0 rfl (by decide) (by decide +kernel), K9.fI ga0 rfl (by decide) (by decide +kernel), K5.fI ga0 rfl (by decide) (by decide +kernel)]
                refine lv_iconst (v := 1) hx hb dX4_readLine_125 (by decide) ?_
                refine lv_iadd hx hb dX4_readLine_126 ?_
                refine lv_topi (fun v43 ev43 => ?_)
                have evq := ev43
                refine q_put (T := TX4) C S14 ga0 4 kF_X4_21 dX4_readLine_127 rfl rfl (by decide) (by decide) rfl rfl rfl rfl rfl (vok_a rfl) (by decide +kernel) (fun H44 L44 S44 P44 => ?_)
                have ts44 := ts14.cells S14.1 gtp ga0 (by decide) (by decide) P44.2.2.1
                refine lv_iconst (v := 1) hx hb dX4_readLine_130 (by decide) ?_
                exact retE_z hQ C S44 hr dX4_readLine_131 (z01 (by omega) (by omega)) (⟨⟨by omega, fun _ h9 => (fin h9).put SQ.1 ga0 P44⟩, Rs.ok (by simp [linF, numE, ys3, ys7, y9, y17]) (by omega) ts44, fun _ h8 => by rw [Pt.i P44]; exact ln_up evq (by omega) h8⟩)
              · have b41 : ¬ v40.toInt ≤ (fI D H12 4 a0 3).toInt := fun z9 => c41 (i_le.mpr z9)
                refine lv_aload_n hx hb dX4_readLine_110 rfl (lv_at hl 3 rfl) ?_
                refine q_gr (T := TX4) C S14.1 ga0 2 kF_X4_13 dX4_readLine_111 rfl rfl (by decide) rfl (by decide) rfl (fun g45 => ?_)
                refine lv_iload_n hx hb dX4_readLine_114 rfl (lv_at hl 0 rfl) ?_
                refine lv_aload_n hx hb dX4_readLine_115 rfl (lv_at hl 3 rfl) ?_
                refine q_gi (T := TX4) C S14.1 ga0 3 kF_X4_17 dX4_readLine_116 rfl rfl (by decide) rfl (by decide) rfl ?_
                have r46 : 0 ≤ (fI D H14 4 a0 3).toInt ∧ (fI D H14 4 a0 3).toInt ≤ 400 := S14.1.rng ga0 rfl (by decide) rfl
                refine q_iast C S14 g45 (by omega) (by omega) dX4_readLine_119 rfl (by decide) (by decide +kernel) (fun _ _ h => ak_22 h) (fun H47 L47 S47 P47 => ?_)
                have ts47 := ts14.cells S14.1 gtp g45 (by decide) (by decide) P47.2.2.1
                have fin : Lc D s.heap a0 → Lc D H47 a0 := fun h9 => Lc.wr S14.1 ga0 P47 tk14 (by omega) (by omega) (by omega) h9
                have SQ := S47
                refine lv_aload_n hx hb dX4_readLine_120 rfl (lv_at hl 3 rfl) ?_
                refine lv_dup hx hb dX4_readLine_121 rfl ?_
                refine q_gi (T := TX4) C S47.1 ga0 4 kF_X4_21 dX4_readLine_122 rfl rfl (by decide) rfl (by decide) rfl ?_
                have c48 : (fI D H47 4 a0 4).toInt = (fI D s.heap 4 a0 4).toInt := by rw [Pa.f P47 (ne_role ga0 g45 (by decide)), K14.fI ga0 rfl (by decide) (by decide +kernel), K12.fI ga0 rfl (by decide) (by decide +kernel), K11.fI ga0 rfl (by decide) (by decide +kernel), K9.fI ga0 rfl (by decide) (by decide +kernel), K5.fI ga0 rfl (by decide) (by decide +kernel)]
                refine lv_iconst (v := 1) hx hb dX4_readLine_125 (by decide) ?_
                refine lv_iadd hx hb dX4_readLine_126 ?_
                refine lv_topi (fun v49 ev49 => ?_)
                have evq := ev49
                refine q_put (T := TX4) C S47 ga0 4 kF_X4_21 dX4_readLine_127 rfl rfl (by decide) (by decide) rfl rfl rfl rfl rfl (vok_a rfl) (by decide +kernel) (fun H50 L50 S50 P50 => ?_)
                have ts50 := ts47.cells S47.1 gtp ga0 (by decide) (by decide) P50.2.2.1
                refine lv_iconst (v := 1) hx hb dX4_readLine_130 (by decide) ?_
                exact retE_z hQ C S50 hr dX4_readLine_131 (z01 (by omega) (by omega)) (⟨⟨by omega, fun _ h9 => (fin h9).put SQ.1 ga0 P50⟩, Rs.ok (by simp [linF, numE, ys3, ys7, y9, y17]) (by omega) ts50, fun _ h8 => by rw [Pt.i P50]; exact ln_up evq (by omega) h8⟩)
            · have b37 : ¬ v17.toInt = (0 : Int32).toInt := fun z9 => c37 (i_eq.mpr z9)
              exact absurd b37 (by omega)
        · have b10 : v9.toInt = (-1 : Int32).toInt := i_eq.mp c10
          exact absurd b10 (by omega)
      · skip
        refine lv_istore_n (lv' := [(2, .int v9), (1, .int v1), (0, .ref a0)]) hx hb dX4_readLine_44 rfl hl (by decide) rfl (fun ls hl => ?_)
        refine lv_iload_n hx hb dX4_readLine_45 rfl (lv_at hl 0 rfl) ?_
        refine lv_iconst (v := -1) hx hb dX4_readLine_46 (by decide) ?_
        refine lv_icmp_ne (tgt := 52) hx hb dX4_readLine_47 (by decide) (fun c51 => ?_) (fun c51 => ?_)
        · have b51 : ¬ v9.toInt = (-1 : Int32).toInt := fun z9 => c51 (i_eq.mpr z9)
          exact absurd b51 (by omega)
        · have b51 : v9.toInt = (-1 : Int32).toInt := i_eq.mp c51
          refine lv_iconst (v := 0) hx hb dX4_readLine_50 (by decide) ?_
          exact retE_z hQ C S9 hr dX4_readLine_51 (z01 (by omega) (by omega)) (⟨⟨by omega, fun h9 => absurd h9 (by decide)⟩, Rs.no (by simp [linF, numE, ys3, ys7, y9]) (by omega) wr9, fun h9 => absurd h9 (by omega)⟩)
    · have b6 : v1.toInt = (1 : Int32).toInt := i_eq.mp c6
      have ys52 : srt T b = 1 := by omega
      refine lv_iconst (v := 1) hx hb dX4_readLine_30 (by decide) ?_
      refine lv_goto (tgt := 44) hx hb dX4_readLine_31 (by decide) ?_
      refine lv_istore_n (lv' := [(2, .int (1 : Int32)), (1, .int v1), (0, .ref a0)]) hx hb dX4_readLine_44 rfl hl (by decide) rfl (fun ls hl => ?_)
      refine lv_iload_n hx hb dX4_readLine_45 rfl (lv_at hl 0 rfl) ?_
      refine lv_iconst (v := -1) hx hb dX4_readLine_46 (by decide) ?_
      refine lv_icmp_ne (tgt := 52) hx hb dX4_readLine_47 (by decide) (fun c53 => ?_) (fun c53 => ?_)
      · have b53 : ¬ (1 : Int32).toInt = (-1 : Int32).toInt := fun z9 => c53 (i_eq.mpr z9)
        have u0 : (fI D H5 4 a0 3).toInt = (fI D s.heap 4 a0 3).toInt := by rw [K5.fI ga0 rfl (by decide) (by decide +kernel)]
        have ur : 0 ≤ (fI D s.heap 4 a0 3).toInt ∧ (fI D s.heap 4 a0 3).toInt ≤ 400 := hO.rng ga0 rfl (by decide) rfl
        refine lv_aload_n hx hb dX4_readLine_52 rfl (lv_at hl 2 rfl) ?_
        refine lv_iload_n hx hb dX4_readLine_53 rfl (lv_at hl 1 rfl) ?_
        refine callV_Ev C S5 (c_X4_put l D G a0 v1 ga0) kV_X4_55 ga0 (trivial) (by decide +kernel) dX4_readLine_54 hl.1 rfl rfl (by decide) cd_X4_put ⟨Nat.le_of_ble_eq_true rfl, Nat.le_of_ble_eq_true rfl, Nat.le_of_ble_eq_true rfl, Nat.le_of_ble_eq_true rfl, Nat.le_of_ble_eq_true rfl⟩ (fun H54 L54 S54 K54 q54 => ?_)
        obtain ⟨qa54, qb54, tq54⟩ := q54
        have tk54 : Lw D s.heap H54 a0 := tk5.trans tq54
        have ts54 := fq5.keep S5.1 gtp K54 (by decide +kernel)
        refine lv_aload_n hx hb dX4_readLine_57 rfl (lv_at hl 2 rfl) ?_
        refine lv_iload_n hx hb dX4_readLine_58 rfl (lv_at hl 0 rfl) ?_
        refine callV_Ev C S54 (c_X4_put l D G a0 (1 : Int32) ga0) kV_X4_55 ga0 (trivial) (by decide +kernel) dX4_readLine_59 hl.1 rfl rfl (by decide) cd_X4_put ⟨Nat.le_of_ble_eq_true rfl, Nat.le_of_ble_eq_true rfl, Nat.le_of_ble_eq_true rfl, Nat.le_of_ble_eq_true rfl, Nat.le_of_ble_eq_true rfl⟩ (fun H55 L55 S55 K55 q55 => ?_)
        obtain ⟨qa55, qb55, tq55⟩ := q55
        have tk55 : Lw D s.heap H55 a0 := tk54.trans tq55
        have ts55 := ts54.keep S54.1 gtp K55 (by decide +kernel)
        refine lv_aload_n hx hb dX4_readLine_62 rfl (lv_at hl 2 rfl) ?_
        refine q_gi (T := TX4) C S55.1 ga0 3 kF_X4_17 dX4_readLine_63 rfl rfl (by decide) rfl (by decide) rfl ?_
        have r56 : 0 ≤ (fI D H55 4 a0 3).toInt ∧ (fI D H55 4 a0 3).toInt ≤ 400 := S55.1.rng ga0 rfl (by decide) rfl
        refine lv_istore_n (lv' := [(3, .int (fI D H55 4 a0 3)), (2, .int (1 : Int32)), (1, .int v1), (0, .ref a0)]) hx hb dX4_readLine_66 rfl hl (by decide) rfl (fun ls hl => ?_)
        refine lv_aload_n hx hb dX4_readLine_67 rfl (lv_at hl 3 rfl) ?_
        refine lv_iconst (v := 0) hx hb dX4_readLine_68 (by decide) ?_
        have k_0 : (0 : Int32).toInt = 0 := by decide
        refine callV_Ev C S55 (c_X4_put l D G a0 (0 : Int32) ga0) kV_X4_55 ga0 (trivial) (by decide +kernel) dX4_readLine_69 hl.1 rfl rfl (by decide) cd_X4_put ⟨Nat.le_of_ble_eq_true rfl, Nat.le_of_ble_eq_true rfl, Nat.le_of_ble_eq_true rfl, Nat.le_of_ble_eq_true rfl, Nat.le_of_ble_eq_true rfl⟩ (fun H57 L57 S57 K57 q57 => ?_)
        obtain ⟨qa57, qb57, tq57⟩ := q57
        have tk57 : Lw D s.heap H57 a0 := tk55.trans tq57
        have ts57 := ts55.keep S55.1 gtp K57 (by decide +kernel)
        refine lv_aload_n hx hb dX4_readLine_72 rfl (lv_at hl 3 rfl) ?_
        refine q_grS (T := TX4) C S57.1 ga0 0 kF_X4_39 dX4_readLine_73 rfl rfl (by decide) rfl (by decide) kSF_X4_tape (fun g58 => ?_)
        rw [show fR D H57 4 a0 0 = tp from (S57.2.1.fR ga0 rfl (by decide) (by decide +kernel)).trans htp]
        refine q_lds C ks_X4_59 dX4_readLine_76 (fun a59 ha59 wa59 => ?_)
        refine callV_Pi C S57.1 S57.2.1.2.1 (c_X9_isWord_f l D G tp a59 2 w_if T (nx T b) gtp ha59 (Wc.of wa59 kw_if)) kV_X4_61 gtp (⟨trivial, ts57⟩) dX4_readLine_78 hl.1 rfl rfl (by decide) cd_X9_isWord ⟨Nat.le_of_ble_eq_true rfl, Nat.le_of_ble_eq_true rfl, Nat.le_of_ble_eq_true rfl, Nat.le_of_ble_eq_true rfl, Nat.le_of_ble_eq_true rfl⟩ (fun v60 q60 => ?_)
        obtain ⟨q60, fq60⟩ := q60
        rcases fq60 with ⟨z60, y60⟩ | ⟨z60, y60⟩
        · skip
          refine lv_if_eq (tgt := 101) hx hb dX4_readLine_81 (by decide) (fun c61 => ?_) (fun c61 => ?_)
          · have b61 : v60.toInt = (0 : Int32).toInt := i_eq.mp c61
            exact absurd b61 (by omega)
          · have b61 : ¬ v60.toInt = (0 : Int32).toInt := fun z9 => c61 (i_eq.mpr z9)
            refine lv_aload_n hx hb dX4_readLine_84 rfl (lv_at hl 3 rfl) ?_
            refine q_grS (T := TX4) C S57.1 ga0 0 kF_X4_39 dX4_readLine_85 rfl rfl (by decide) rfl (by decide) kSF_X4_tape (fun g62 => ?_)
            rw [show fR D H57 4 a0 0 = tp from (S57.2.1.fR ga0 rfl (by decide) (by decide +kernel)).trans htp]
            refine callV_Ev C S57 (c_X9_next_f l D G tp T (nx T b) gtp) kV_X4_47 gtp (⟨trivial, ts57⟩) (by decide +kernel) dX4_readLine_88 hl.1 rfl rfl (by decide) cd_X9_next ⟨Nat.le_of_ble_eq_true rfl, Nat.le_of_ble_eq_true rfl, Nat.le_of_ble_eq_true rfl, Nat.le_of_ble_eq_true rfl, Nat.le_of_ble_eq_true rfl⟩ (fun H63 L63 S63 K63 q63 => ?_)
            obtain ⟨q63, fq63⟩ := q63
            have tk63 : Lw D s.heap H63 a0 := tk57.trans (Lw.keep S57.1 ga0 K63 (by decide +kernel) (by decide +kernel) (by decide +kernel))
            have ud : (fI D H63 4 a0 3).toInt = _ := congrArg Int32.toInt (K63.fI (k := 3) ga0 rfl (by decide) (by decide +kernel))
            refine lv_aload_n hx hb dX4_readLine_91 rfl (lv_at hl 3 rfl) ?_
            refine lv_iconst (v := 0) hx hb dX4_readLine_92 (by decide) ?_
            refine callV_Ei C S63 (c_X4_readCondition_d0 l D G a0 (0 : Int32) tp T (nx T (nx T b)) ga0 (by omega)) kV_X4_65 ga0 (⟨trivial, ⟨(S63.2.1.fR ga0 rfl (by decide) (by decide +kernel)).trans htp, fq63⟩⟩) (by decide +kernel) dX4_readLine_93 hl.1 rfl rfl (by decide) cd_X4_readCondition ⟨Nat.le_of_ble_eq_true rfl, Nat.le_of_ble_eq_true rfl, Nat.le_of_ble_eq_true rfl, Nat.le_of_ble_eq_true rfl, Nat.le_of_ble_eq_true rfl⟩ (fun v64 H64 L64 S64 K64 q64 => ?_)
            obtain ⟨q64, fq64⟩ := q64
            obtain ⟨q64, tq64⟩ := q64
            have tk64 : Lw D s.heap H64 a0 := tk63.trans tq64
            rcases fq64 with ⟨c64, y64, z64, ts64⟩ | ⟨e64, y64, z64, wr64⟩
            · skip
              have ue := tq64.1
              refine lv_if_ne (tgt := 101) hx hb dX4_readLine_96 (by decide) (fun c65 => ?_) (fun c65 => ?_)
              · have b65 : ¬ v64.toInt = (0 : Int32).toInt := fun z9 => c65 (i_eq.mpr z9)
                have rw9 : 0 ≤ (fI D H64 4 a0 3).toInt ∧ (fI D H64 4 a0 3).toInt ≤ 400 := S64.1.rng ga0 rfl (by decide) rfl
                refine lv_iload_n hx hb dX4_readLine_101 rfl (lv_at hl 0 rfl) ?_
                refine lv_aload_n hx hb dX4_readLine_102 rfl (lv_at hl 3 rfl) ?_
                refine q_gr (T := TX4) C S64.1 ga0 2 kF_X4_13 dX4_readLine_103 rfl rfl (by decide) rfl (by decide) rfl (fun g66 => ?_)
                have n67 : aN H64 (fR D H64 4 a0 2) = 400 := len_22 S64.1 g66
                refine q_alen C S64.1 g66 dX4_readLine_106 rfl (by decide) rfl (fun v68 fv68 => ?_)
                refine lv_icmp_ge (tgt := 120) hx hb dX4_readLine_107 (by decide) (fun c69 => ?_) (fun c69 => ?_)
                · have b69 : v68.toInt ≤ (fI D H55 4 a0 3).toInt := i_le.mp c69
                  have fin : Lc D s.heap a0 → Lc D H64 a0 := fun h9 => Lc.full tk64 (by omega) (by omega) h9
                  have SQ := S64
                  refine lv_aload_n hx hb dX4_readLine_120 rfl (lv_at hl 3 rfl) ?_
                  refine lv_dup hx hb dX4_readLine_121 rfl ?_
                  refine q_gi (T := TX4) C S64.1 ga0 4 kF_X4_21 dX4_readLine_122 rfl rfl (by decide) rfl (by decide) rfl ?_
                  have c70 : (fI D H64 4 a0 4).toInt = (fI D s.heap 4 a0 4).toInt := by rw [K64.fI ga0 rfl (by decide) (by decide +kernel), K63.fI ga0 rfl (by decide) (by decide +kernel), K57.fI ga0 rfl (by decide) (by decide +kernel), K55.fI ga0 rfl (by decide) (by decide +kernel), K54.fI ga0 rfl (by decide) (by decide +kernel), K5.fI ga0 rfl (by decide) (by decide +kernel)]
                  refine lv_iconst (v := 1) hx hb dX4_readLine_125 (by decide) ?_
                  refine lv_iadd hx hb dX4_readLine_126 ?_
                  refine lv_topi (fun v71 ev71 => ?_)
                  have evq := ev71
                  refine q_put (T := TX4) C S64 ga0 4 kF_X4_21 dX4_readLine_127 rfl rfl (by decide) (by decide) rfl rfl rfl rfl rfl (vok_a rfl) (by decide +kernel) (fun H72 L72 S72 P72 => ?_)
                  have ts72 := ts64.cells S64.1 gtp ga0 (by decide) (by decide) P72.2.2.1
                  refine lv_iconst (v := 1) hx hb dX4_readLine_130 (by decide) ?_
                  exact retE_z hQ C S72 hr dX4_readLine_131 (z01 (by omega) (by omega)) (⟨⟨by omega, fun _ h9 => (fin h9).put SQ.1 ga0 P72⟩, Rs.ok (by simp [linF, numE, ys3, ys52, y60, y64]) (by omega) ts72, fun _ h8 => by rw [Pt.i P72]; exact ln_up evq (by omega) h8⟩)
                · have b69 : ¬ v68.toInt ≤ (fI D H55 4 a0 3).toInt := fun z9 => c69 (i_le.mpr z9)
                  refine lv_aload_n hx hb dX4_readLine_110 rfl (lv_at hl 3 rfl) ?_
                  refine q_gr (T := TX4) C S64.1 ga0 2 kF_X4_13 dX4_readLine_111 rfl rfl (by decide) rfl (by decide) rfl (fun g73 => ?_)
                  refine lv_iload_n hx hb dX4_readLine_114 rfl (lv_at hl 0 rfl) ?_
                  refine lv_aload_n hx hb dX4_readLine_115 rfl (lv_at hl 3 rfl) ?_
                  refine q_gi (T := TX4) C S64.1 ga0 3 kF_X4_17 dX4_readLine_116 rfl rfl (by decide) rfl (by decide) rfl ?_
                  have r74 : 0 ≤ (fI D H64 4 a0 3).toInt ∧ (fI D H64 4 a0 3).toInt ≤ 400 := S64.1.rng ga0 rfl (by decide) rfl
                  refine q_iast C S64 g73 (by omega) (by omega) dX4_readLine_119 rfl (by decide) (by decide +kernel) (fun _ _ h => ak_22 h) (fun H75 L75 S75 P75 => ?_)
                  have ts75 := ts64.cells S64.1 gtp g73 (by decide) (by decide) P75.2.2.1
                  have fin : Lc D s.heap a0 → Lc D H75 a0 := fun h9 => Lc.wr S64.1 ga0 P75 tk64 (by omega) (by omega) (by omega) h9
                  have SQ := S75
                  refine lv_aload_n hx hb dX4_readLine_120 rfl (lv_at hl 3 rfl) ?_
                  refine lv_dup hx hb dX4_readLine_121 rfl ?_
                  refine q_gi (T := TX4) C S75.1 ga0 4 kF_X4_21 dX4_readLine_122 rfl rfl (by decide) rfl (by decide) rfl ?_
                  have c76 : (fI D H75 4 a0 4).toInt = (fI D s.heap 4 a0 4).toInt := by rw [Pa.f P75 (ne_role ga0 g73 (by decide)), K64.fI ga0 rfl (by decide) (by decide +kernel), K63.fI ga0 rfl (by decide) (by decide +kernel), K57.fI ga0 rfl (by decide) (by decide +kernel), K55.fI ga0 rfl (by decide) (by decide +kernel), K54.fI ga0 rfl (by decide) (by decide +kernel), K5.fI ga0 rfl (by decide) (by decide +kernel)]
                  refine lv_iconst (v := 1) hx hb dX4_readLine_125 (by decide) ?_
                  refine lv_iadd hx hb dX4_readLine_126 ?_
                  refine lv_topi (fun v77 ev77 => ?_)
                  have evq := ev77
                  refine q_put (T := TX4) C S75 ga0 4 kF_X4_21 dX4_readLine_127 rfl rfl (by decide) (by decide) rfl rfl rfl rfl rfl (vok_a rfl) (by decide +kernel) (fun H78 L78 S78 P78 => ?_)
                  have ts78 := ts75.cells S75.1 gtp ga0 (by decide) (by decide) P78.2.2.1
                  refine lv_iconst (v := 1) hx hb dX4_readLine_130 (by decide) ?_
                  exact retE_z hQ C S78 hr dX4_readLine_131 (z01 (by omega) (by omega)) (⟨⟨by omega, fun _ h9 => (fin h9).put SQ.1 ga0 P78⟩, Rs.ok (by simp [linF, numE, ys3, ys52, y60, y64]) (by omega) ts78, fun _ h8 => by rw [Pt.i P78]; exact ln_up evq (by omega) h8⟩)
              · have b65 : v64.toInt = (0 : Int32).toInt := i_eq.mp c65
                exact absurd b65 (by omega)
            · skip
              have ue := tq64.1
              refine lv_if_ne (tgt := 101) hx hb dX4_readLine_96 (by decide) (fun c79 => ?_) (fun c79 => ?_)
              · have b79 : ¬ v64.toInt = (0 : Int32).toInt := fun z9 => c79 (i_eq.mpr z9)
                exact absurd b79 (by omega)
              · have b79 : v64.toInt = (0 : Int32).toInt := i_eq.mp c79
                refine lv_iconst (v := 0) hx hb dX4_readLine_99 (by decide) ?_
                exact retE_z hQ C S64 hr dX4_readLine_100 (z01 (by omega) (by omega)) (⟨⟨by omega, fun h9 => absurd h9 (by decide)⟩, Rs.no (by simp [linF, numE, ys3, ys52, y60, y64]) (by omega) wr64, fun h9 => absurd h9 (by omega)⟩)
        · skip
          refine lv_if_eq (tgt := 101) hx hb dX4_readLine_81 (by decide) (fun c80 => ?_) (fun c80 => ?_)
          · have b80 : v60.toInt = (0 : Int32).toInt := i_eq.mp c80
            have rw9 : 0 ≤ (fI D H57 4 a0 3).toInt ∧ (fI D H57 4 a0 3).toInt ≤ 400 := S57.1.rng ga0 rfl (by decide) rfl
            refine lv_iload_n hx hb dX4_readLine_101 rfl (lv_at hl 0 rfl) ?_
            refine lv_aload_n hx hb dX4_readLine_102 rfl (lv_at hl 3 rfl) ?_
            refine q_gr (T := TX4) C S57.1 ga0 2 kF_X4_13 dX4_readLine_103 rfl rfl (by decide) rfl (by decide) rfl (fun g81 => ?_)
            have n82 : aN H57 (fR D H57 4 a0 2) = 400 := len_22 S57.1 g81
            refine q_alen C S57.1 g81 dX4_readLine_106 rfl (by decide) rfl (fun v83 fv83 => ?_)
            refine lv_icmp_ge (tgt := 120) hx hb dX4_readLine_107 (by decide) (fun c84 => ?_) (fun c84 => ?_)
            · have b84 : v83.toInt ≤ (fI D H55 4 a0 3).toInt := i_le.mp c84
              have fin : Lc D s.heap a0 → Lc D H57 a0 := fun h9 => Lc.full tk57 (by omega) (by omega) h9
              have SQ := S57
              refine lv_aload_n hx hb dX4_readLine_120 rfl (lv_at hl 3 rfl) ?_
              refine lv_dup hx hb dX4_readLine_121 rfl ?_
              refine q_gi (T := TX4) C S57.1 ga0 4 kF_X4_21 dX4_readLine_122 rfl rfl (by decide) rfl (by decide) rfl ?_
              have c85 : (fI D H57 4 a0 4).toInt = (fI D s.heap 4 a0 4).toInt := by rw [K57.fI ga0 rfl (by decide) (by decide +kernel), K55.fI ga0 rfl (by decide) (by decide +kernel), K54.fI ga0 rfl (by decide) (by decide +kernel), K5.fI ga0 rfl (by decide) (by decide +kernel)]
              refine lv_iconst (v := 1) hx hb dX4_readLine_125 (by decide) ?_
              refine lv_iadd hx hb dX4_readLine_126 ?_
              refine lv_topi (fun v86 ev86 => ?_)
              have evq := ev86
              refine q_put (T := TX4) C S57 ga0 4 kF_X4_21 dX4_readLine_127 rfl rfl (by decide) (by decide) rfl rfl rfl rfl rfl (vok_a rfl) (by decide +kernel) (fun H87 L87 S87 P87 => ?_)
              have ts87 := ts57.cells S57.1 gtp ga0 (by decide) (by decide) P87.2.2.1
              refine lv_iconst (v := 1) hx hb dX4_readLine_130 (by decide) ?_
              exact retE_z hQ C S87 hr dX4_readLine_131 (z01 (by omega) (by omega)) (⟨⟨by omega, fun _ h9 => (fin h9).put SQ.1 ga0 P87⟩, Rs.ok (by simp [linF, numE, ys3, ys52, y60]) (by omega) ts87, fun _ h8 => by rw [Pt.i P87]; exact ln_up evq (by omega) h8⟩)
            · have b84 : ¬ v83.toInt ≤ (fI D H55 4 a0 3).toInt := fun z9 => c84 (i_le.mpr z9)
              refine lv_aload_n hx hb dX4_readLine_110 rfl (lv_at hl 3 rfl) ?_
              refine q_gr (T := TX4) C S57.1 ga0 2 kF_X4_13 dX4_readLine_111 rfl rfl (by decide) rfl (by decide) rfl (fun g88 => ?_)
              refine lv_iload_n hx hb dX4_readLine_114 rfl (lv_at hl 0 rfl) ?_
              refine lv_aload_n hx hb dX4_readLine_115 rfl (lv_at hl 3 rfl) ?_
              refine q_gi (T := TX4) C S57.1 ga0 3 kF_X4_17 dX4_readLine_116 rfl rfl (by decide) rfl (by decide) rfl ?_
              have r89 : 0 ≤ (fI D H57 4 a0 3).toInt ∧ (fI D H57 4 a0 3).toInt ≤ 400 := S57.1.rng ga0 rfl (by decide) rfl
              refine q_iast C S57 g88 (by omega) (by omega) dX4_readLine_119 rfl (by decide) (by decide +kernel) (fun _ _ h => ak_22 h) (fun H90 L90 S90 P90 => ?_)
              have ts90 := ts57.cells S57.1 gtp g88 (by decide) (by decide) P90.2.2.1
              have fin : Lc D s.heap a0 → Lc D H90 a0 := fun h9 => Lc.wr S57.1 ga0 P90 tk57 (by omega) (by omega) (by omega) h9
              have SQ := S90
              refine lv_aload_n hx hb dX4_readLine_120 rfl (lv_at hl 3 rfl) ?_
              refine lv_dup hx hb dX4_readLine_121 rfl ?_
              refine q_gi (T := TX4) C S90.1 ga0 4 kF_X4_21 dX4_readLine_122 rfl rfl (by decide) rfl (by decide) rfl ?_
              have c91 : (fI D H90 4 a0 4).toInt = (fI D s.heap 4 a0 4).toInt := by rw [Pa.f P90 (ne_role ga0 g88 (by decide)), K57.fI ga0 rfl (by decide) (by decide +kernel), K55.fI ga0 rfl (by decide) (by decide +kernel), K54.fI ga0 rfl (by decide) (by decide +kernel), K5.fI ga0 rfl (by decide) (by decide +kernel)]
              refine lv_iconst (v := 1) hx hb dX4_readLine_125 (by decide) ?_
              refine lv_iadd hx hb dX4_readLine_126 ?_
              refine lv_topi (fun v92 ev92 => ?_)
              have evq := ev92
              refine q_put (T := TX4) C S90 ga0 4 kF_X4_21 dX4_readLine_127 rfl rfl (by decide) (by decide) rfl rfl rfl rfl rfl (vok_a rfl) (by decide +kernel) (fun H93 L93 S93 P93 => ?_)
              have ts93 := ts90.cells S90.1 gtp ga0 (by decide) (by decide) P93.2.2.1
              refine lv_iconst (v := 1) hx hb dX4_readLine_130 (by decide) ?_
              exact retE_z hQ C S93 hr dX4_readLine_131 (z01 (by omega) (by omega)) (⟨⟨by omega, fun _ h9 => (fin h9).put SQ.1 ga0 P93⟩, Rs.ok (by simp [linF, numE, ys3, ys52, y60]) (by omega) ts93, fun _ h8 => by rw [Pt.i P93]; exact ln_up evq (by omega) h8⟩)
          · have b80 : ¬ v60.toInt = (0 : Int32).toInt := fun z9 => c80 (i_eq.mpr z9)
            exact absurd b80 (by omega)
      · have b53 : (1 : Int32).toInt = (-1 : Int32).toInt := i_eq.mp c53
        exact absurd b53 (by omega)
  · have b2 : v1.toInt = (-1 : Int32).toInt := i_eq.mp c2
    have ys94 : srt T b = -1 := by omega
    refine lv_aload_n hx hb dX4_readLine_10 rfl (lv_at hl 1 rfl) ?_
    refine q_grS (T := TX4) C S.1 ga0 0 kF_X4_39 dX4_readLine_11 rfl rfl (by decide) rfl (by decide) kSF_X4_tape (fun g95 => ?_)
    rw [show fR D s.heap 4 a0 0 = tp from htp]
    refine callV_Ei C S (c_X9_refuse_f l D G tp T b gtp) kV_X4_43 gtp (⟨trivial, ts0⟩) (by decide +kernel) dX4_readLine_14 hl.1 rfl rfl (by decide) cd_X9_refuse ⟨Nat.le_of_ble_eq_true rfl, Nat.le_of_ble_eq_true rfl, Nat.le_of_ble_eq_true rfl, Nat.le_of_ble_eq_true rfl, Nat.le_of_ble_eq_true rfl⟩ (fun v96 H96 L96 S96 K96 q96 => ?_)
    obtain ⟨q96, fq96⟩ := q96
    have tk96 : Lw D s.heap H96 a0 := tk0.trans (Lw.keep S.1 ga0 K96 (by decide +kernel) (by decide +kernel) (by decide +kernel))
    have z96 := fq96.1
    exact retE_z hQ C S96 hr dX4_readLine_17 (z01 (by omega) (by omega)) (⟨⟨by omega, fun h9 => absurd h9 (by omega)⟩, Rs.no (by simp [linF, numE, ys94]) (by omega) fq96.2, fun h9 => absurd h9 (by omega)⟩)

set_option maxRecDepth 100000 in
set_option maxHeartbeats 4000000 in
theorem c_X10_readLines_l (l : Launch) (D : DD) (G : Nat → Nat) (a0 : Nat) (tp : Nat) (T : Tx) (ga0 : G a0 = 21) : CE l D G yX10_readLines cX10_readLines 2 (some .boolean) 22 [.ref a0] (fun H => (True) ∧ (fR D H 4 a0 0 = tp ∧ (fI D H 4 a0 1).toInt = 12 ∧ tT D H tp = T ∧ (fI D H 4 a0 4).toInt = 0)) [(2, 3), (2, 4), (2, 5), (2, 6), (2, 2), (22, 0), (21, 3), (21, 4)] (xI (fun H r H1 => ((0 ≤ r.toInt ∧ r.toInt ≤ 1) ∧ (r.toInt = 1 → Lc D H a0 → Lc D H1 a0)) ∧ ((r.toInt = 1 ∧ (lawF T).1 = true ∧ (fI D H1 4 a0 4).toInt = (fI D H 4 a0 4).toInt + (((lawF T).2.2 : Nat) : Int) ∧ (fI D H1 9 tp 2).toInt = -1) ∨ (r.toInt = 0 ∧ (lawF T).1 = false ∧ (fI D H1 9 tp 2).toInt = (((lawF T).2.1 : Nat) : Int))))) := by
  refine enter (by decide) (Nat.le_of_ble_eq_true rfl) ?_
  intro p e s m args below meth c ls Q hA hQ C hr hO hpre hl
  have hx := C.1
  have hb := C.2.1
  have S : Sd D G [(2, 3), (2, 4), (2, 5), (2, 6), (2, 2), (22, 0), (21, 3), (21, 4)] s.heap s.heap [] := Sd.start hO
  have hl : lv_has ls 2 [(0, .ref a0)] := hl
  obtain ⟨hpre, hf⟩ := hpre
  obtain ⟨htp, hml, hT0, hl0⟩ := hf
  have gtp : G tp = 2 := by rw [← htp]; exact hO.rol ga0 rfl (by decide) rfl
  have tk0 : Lc D s.heap a0 → Lc D s.heap a0 := fun h => h
  refine lv_aload_n hx hb dX10_readLines_0 rfl (lv_at hl 0 rfl) ?_
  refine q_gr (T := TX4) C S.1 ga0 0 kF_X10_7 dX10_readLines_1 rfl rfl (by decide) rfl (by decide) rfl (fun g1 => ?_)
  rw [show fR D s.heap 4 a0 0 = tp from htp]
  refine callV_Ev C S (c_X9_rewind_f l D G tp T gtp) kV_X10_17 gtp (⟨trivial, hT0⟩) (by decide +kernel) dX10_readLines_4 hl.1 rfl rfl (by decide) cd_X9_rewind ⟨Nat.le_of_ble_eq_true rfl, Nat.le_of_ble_eq_true rfl, Nat.le_of_ble_eq_true rfl, Nat.le_of_ble_eq_true rfl, Nat.le_of_ble_eq_true rfl⟩ (fun H2 L2 S2 K2 q2 => ?_)
  obtain ⟨q2, fq2⟩ := q2
  have tk2 : Lc D s.heap a0 → Lc D H2 a0 := fun h9  => (tk0 h9).keep S.1 ga0 K2 (by decide +kernel) (by decide +kernel) (by decide +kernel)
  refine lv_aload_n hx hb dX10_readLines_7 rfl (lv_at hl 0 rfl) ?_
  refine q_gr (T := TX4) C S2.1 ga0 0 kF_X10_7 dX10_readLines_8 rfl rfl (by decide) rfl (by decide) rfl (fun g3 => ?_)
  rw [show fR D H2 4 a0 0 = tp from (S2.2.1.fR ga0 rfl (by decide) (by decide +kernel)).trans htp]
  refine q_gi (T := TX9) C S2.1 gtp 3 kF_X10_22 dX10_readLines_11 rfl rfl (by decide) rfl (by decide) rfl ?_
  have k_0 : (0 : Int32).toInt = 0 := by decide
  refine lv_if_ne (tgt := 19) hx hb dX10_readLines_14 (by decide) (fun c4 => ?_) (fun c4 => ?_)
  · have b4 : ¬ (fI D H2 9 tp 3).toInt = (0 : Int32).toInt := fun z9 => c4 (i_eq.mpr z9)
    have hk0 : ¬ kd T (sk T 0) = 0 := by have z9 := fq2.2.1; omega
    refine lv_iconst (v := 0) hx hb dX10_readLines_19 (by decide) ?_
    refine lv_istore_n (lv' := [(1, .int (0 : Int32)), (0, .ref a0)]) hx hb dX10_readLines_20 rfl hl (by decide) rfl (fun ls hl => ?_)
    have Lp21 : ∀ (n : Nat) (x1_21 : Int32) (b_21 : Nat) (H_21 : Heap) (L_21 : List Loc) (ls : Array Slot), (Sd D G [(2, 3), (2, 4), (2, 5), (2, 6), (2, 2), (22, 0), (21, 3), (21, 4)] s.heap H_21 L_21) → (0 ≤ x1_21.toInt ∧ x1_21.toInt ≤ 12) → ((fI D H_21 4 a0 4).toInt = (fI D s.heap 4 a0 4).toInt + x1_21.toInt) → (TS D H_21 tp T b_21) → (lawF T = lnsR T (linF T) (12 - x1_21.toInt.toNat) b_21 x1_21.toInt.toNat) → (Lc D s.heap a0 → Lc D H_21 a0) → 13 - x1_21.toInt ≤ (n : Int) → lv_has ls 2 [(1, .int x1_21), (0, .ref a0)] → W p l e (rmU 22 0 0) s m args below meth c H_21 L_21 0 0 Q (F0 m 21 ls []) := by
      intro n
      induction n with
      | zero =>
        intro x1_21 b_21 H_21 L_21 ls S_21 j21_0 u21_0 u21_1 u21_2 u21_3 hn hl
        exact absurd hn (by omega)
      | succ n ih21 =>
        intro x1_21 b_21 H_21 L_21 ls S_21 j21_0 u21_0 u21_1 u21_2 u21_3 hn hl
        refine lv_iload_n hx hb dX10_readLines_21 rfl (lv_at hl 0 rfl) ?_
        refine lv_aload_n hx hb dX10_readLines_22 rfl (lv_at hl 1 rfl) ?_
        refine q_gi (T := TX4) C S_21.1 ga0 1 kF_X10_13 dX10_readLines_23 rfl rfl (by decide) rfl (by decide) rfl ?_
        have hm : (fI D H_21 4 a0 1).toInt = 12 := by rw [S_21.2.1.fI ga0 rfl (by decide) (by decide +kernel)]; exact hml
        refine lv_icmp_ge (tgt := 89) hx hb dX10_readLines_26 (by decide) (fun c5 => ?_) (fun c5 => ?_)
        · have b5 : (fI D H_21 4 a0 1).toInt ≤ x1_21.toInt := i_le.mp c5
          refine lv_aload_n hx hb dX10_readLines_89 rfl (lv_at hl 1 rfl) ?_
          refine q_gr (T := TX4) C S_21.1 ga0 0 kF_X10_7 dX10_readLines_90 rfl rfl (by decide) rfl (by decide) rfl (fun g6 => ?_)
          rw [show fR D H_21 4 a0 0 = tp from (S_21.2.1.fR ga0 rfl (by decide) (by decide +kernel)).trans htp]
          refine callV_Ei C S_21 (c_X9_refuse_f l D G tp T b_21 gtp) kV_X10_25 gtp (⟨trivial, u21_1⟩) (by decide +kernel) dX10_readLines_93 hl.1 rfl rfl (by decide) cd_X9_refuse ⟨Nat.le_of_ble_eq_true rfl, Nat.le_of_ble_eq_true rfl, Nat.le_of_ble_eq_true rfl, Nat.le_of_ble_eq_true rfl, Nat.le_of_ble_eq_true rfl⟩ (fun v7 H7 L7 S7 K7 q7 => ?_)
          obtain ⟨q7, fq7⟩ := q7
          have tk7 : Lc D s.heap a0 → Lc D H7 a0 := fun h9  => (u21_3 h9).keep S_21.1 ga0 K7 (by decide +kernel) (by decide +kernel) (by decide +kernel)
          have z7 := fq7.1
          exact retE_z hQ C S7 hr dX10_readLines_96 (z01 (by omega) (by omega)) (⟨⟨by omega, fun _ h9 => tk7 h9⟩, by have z9 : lawF T = (false, b_21, x1_21.toInt.toNat) := (u21_2.trans (congrArg (fun m9 => lnsR T (linF T) m9 _ _) (show 12 - x1_21.toInt.toNat = 0 by omega))).trans rfl; rw [z9]; exact Or.inr ⟨by omega, rfl, fq7.2⟩⟩)
        · have b5 : ¬ (fI D H_21 4 a0 1).toInt ≤ x1_21.toInt := fun z9 => c5 (i_le.mpr z9)
          refine lv_aload_n hx hb dX10_readLines_29 rfl (lv_at hl 1 rfl) ?_
          refine q_gr (T := TX4) C S_21.1 ga0 0 kF_X10_7 dX10_readLines_30 rfl rfl (by decide) rfl (by decide) rfl (fun g8 => ?_)
          rw [show fR D H_21 4 a0 0 = tp from (S_21.2.1.fR ga0 rfl (by decide) (by decide +kernel)).trans htp]
          refine q_gi (T := TX9) C S_21.1 gtp 3 kF_X10_22 dX10_readLines_33 rfl rfl (by decide) rfl (by decide) rfl ?_
          refine lv_iconst (v := 1) hx hb dX10_readLines_36 (by decide) ?_
          have k_1 : (1 : Int32).toInt = 1 := by decide
          refine lv_icmp_eq (tgt := 48) hx hb dX10_readLines_37 (by decide) (fun c9 => ?_) (fun c9 => ?_)
          · have b9 : (fI D H_21 9 tp 3).toInt = (1 : Int32).toInt := i_eq.mp c9
            have yk10 : kd T b_21 = 1 := by have z9 := u21_1.2.1; omega
            refine lv_aload_n hx hb dX10_readLines_48 rfl (lv_at hl 1 rfl) ?_
            refine callU_Ei C S_21 (c_X4_readLine l D G a0 tp T b_21 ga0) kU_rl4 kD_rl ga0 (⟨trivial, ⟨(S_21.2.1.fR ga0 rfl (by decide) (by decide +kernel)).trans htp, u21_1⟩⟩) (by decide +kernel) dX10_readLines_49 hl.1 rfl rfl (by decide) (by decide +kernel) ⟨Nat.le_of_ble_eq_true rfl, Nat.le_of_ble_eq_true rfl, Nat.le_of_ble_eq_true rfl, Nat.le_of_ble_eq_true rfl, Nat.le_of_ble_eq_true rfl⟩ (fun v11 H11 L11 S11 K11 q11 => ?_)
            obtain ⟨q11, fq11, fr11⟩ := q11
            obtain ⟨q11, tq11⟩ := q11
            have tk11 : Lc D s.heap a0 → (v11.toInt = 1) → Lc D H11 a0 := fun h9 k90 => tq11 k90 (u21_3 h9)
            have frq := fr11
            rcases fq11 with ⟨c11, y11, z11, ts11⟩ | ⟨e11, y11, z11, wr11⟩
            · skip
              refine lv_if_ne (tgt := 57) hx hb dX10_readLines_52 (by decide) (fun c12 => ?_) (fun c12 => ?_)
              · have b12 : ¬ v11.toInt = (0 : Int32).toInt := fun z9 => c12 (i_eq.mpr z9)
                refine lv_aload_n hx hb dX10_readLines_57 rfl (lv_at hl 1 rfl) ?_
                refine q_gr (T := TX4) C S11.1 ga0 0 kF_X10_7 dX10_readLines_58 rfl rfl (by decide) rfl (by decide) rfl (fun g13 => ?_)
                rw [show fR D H11 4 a0 0 = tp from (S11.2.1.fR ga0 rfl (by decide) (by decide +kernel)).trans htp]
                refine q_gi (T := TX9) C S11.1 gtp 3 kF_X10_22 dX10_readLines_61 rfl rfl (by decide) rfl (by decide) rfl ?_
                refine lv_if_ne (tgt := 69) hx hb dX10_readLines_64 (by decide) (fun c14 => ?_) (fun c14 => ?_)
                · have b14 : ¬ (fI D H11 9 tp 3).toInt = (0 : Int32).toInt := fun z9 => c14 (i_eq.mpr z9)
                  have yk15 : kd T c11 ≠ 0 := by have z9 := ts11.2.1; omega
                  refine lv_aload_n hx hb dX10_readLines_69 rfl (lv_at hl 1 rfl) ?_
                  refine q_gr (T := TX4) C S11.1 ga0 0 kF_X10_7 dX10_readLines_70 rfl rfl (by decide) rfl (by decide) rfl (fun g16 => ?_)
                  rw [show fR D H11 4 a0 0 = tp from (S11.2.1.fR ga0 rfl (by decide) (by decide +kernel)).trans htp]
                  refine lv_bipush (v := 59) hx hb dX10_readLines_73 (by decide) ?_
                  have k_59 : (59 : Int32).toInt = 59 := by decide
                  refine callV_Ei C S11 (c_X9_takeSign_f l D G tp (59 : Int32) 59 T c11 gtp (by omega) (by decide)) kV_X10_32 gtp (⟨trivial, ts11⟩) (by decide +kernel) dX10_readLines_75 hl.1 rfl rfl (by decide) cd_X9_takeSign ⟨Nat.le_of_ble_eq_true rfl, Nat.le_of_ble_eq_true rfl, Nat.le_of_ble_eq_true rfl, Nat.le_of_ble_eq_true rfl, Nat.le_of_ble_eq_true rfl⟩ (fun v17 H17 L17 S17 K17 q17 => ?_)
                  obtain ⟨q17, fq17⟩ := q17
                  have tk17 : Lc D s.heap a0 → (v11.toInt = 1) → Lc D H17 a0 := fun h9 k90 => (tk11 h9 k90).keep S11.1 ga0 K17 (by decide +kernel) (by decide +kernel) (by decide +kernel)
                  rcases fq17 with ⟨c17, y17, z17, ts17⟩ | ⟨e17, y17, z17, wr17⟩
                  · skip
                    refine lv_if_ne (tgt := 83) hx hb dX10_readLines_78 (by decide) (fun c18 => ?_) (fun c18 => ?_)
                    · have b18 : ¬ v17.toInt = (0 : Int32).toInt := fun z9 => c18 (i_eq.mpr z9)
                      obtain ⟨v19, ev19⟩ : ∃ y : Int32, y = x1_21 + (1) := ⟨_, rfl⟩
                      have f20 : v19.toInt = x1_21.toInt + (1) := by rw [ev19]; exact i_addc k_1 (by omega) (by omega)
                      refine lv_iinc (v := v19) (lv' := [(1, .int v19), (0, .ref a0)]) hx hb dX10_readLines_83 hl (k := 0) rfl (by rw [ev19]; rfl) (by decide) rfl (fun ls hl => ?_)
                      refine lv_goto (tgt := 21) hx hb dX10_readLines_86 (by decide) ?_
                      exact ih21 v19 c17 H17 L17 ls S17 (by omega) (by rw [K17.fI ga0 rfl (by decide) (by decide +kernel)]; have z9 := frq (by omega) (by omega); omega) ts17 (by rw [u21_2, lns_st (m := 12 - (x1_21.toInt.toNat + 1)) (by omega) yk10 y11 yk15 y17]; exact congrArg (fun k9 => lnsR T (linF T) (12 - k9) _ k9) (by omega)) (fun h9 => tk17 h9 (by omega)) (by omega) (lv_sub hl [0, 1] rfl)
                    · have b18 : v17.toInt = (0 : Int32).toInt := i_eq.mp c18
                      exact absurd b18 (by omega)
                  · skip
                    refine lv_if_ne (tgt := 83) hx hb dX10_readLines_78 (by decide) (fun c21 => ?_) (fun c21 => ?_)
                    · have b21 : ¬ v17.toInt = (0 : Int32).toInt := fun z9 => c21 (i_eq.mpr z9)
                      exact absurd b21 (by omega)
                    · have b21 : v17.toInt = (0 : Int32).toInt := i_eq.mp c21
                      refine lv_iconst (v := 0) hx hb dX10_readLines_81 (by decide) ?_
                      exact retE_z hQ C S17 hr dX10_readLines_82 (z01 (by omega) (by omega)) (⟨⟨by omega, fun h9 => absurd h9 (by decide)⟩, by have z9 := u21_2.trans (lns_sg (m := 12 - (x1_21.toInt.toNat + 1)) (by omega) yk10 y11 yk15 y17); rw [z9]; exact Or.inr ⟨by omega, rfl, wr17⟩⟩)
                · have b14 : (fI D H11 9 tp 3).toInt = (0 : Int32).toInt := i_eq.mp c14
                  have yk22 : kd T c11 = 0 := by have z9 := ts11.2.1; omega
                  refine lv_iconst (v := 1) hx hb dX10_readLines_67 (by decide) ?_
                  exact retE_z hQ C S11 hr dX10_readLines_68 (z01 (by omega) (by omega)) (⟨⟨by omega, fun _ h9 => tk11 h9 (by omega)⟩, by have z9 := u21_2.trans (lns_end (m := 12 - (x1_21.toInt.toNat + 1)) (by omega) yk10 y11 yk22); rw [z9]; exact Or.inl ⟨by omega, rfl, by show _ = _ + (((x1_21.toInt.toNat + 1 : Nat)) : Int); omega, ts11.1.2.1⟩⟩)
              · have b12 : v11.toInt = (0 : Int32).toInt := i_eq.mp c12
                exact absurd b12 (by omega)
            · skip
              refine lv_if_ne (tgt := 57) hx hb dX10_readLines_52 (by decide) (fun c23 => ?_) (fun c23 => ?_)
              · have b23 : ¬ v11.toInt = (0 : Int32).toInt := fun z9 => c23 (i_eq.mpr z9)
                exact absurd b23 (by omega)
              · have b23 : v11.toInt = (0 : Int32).toInt := i_eq.mp c23
                refine lv_iconst (v := 0) hx hb dX10_readLines_55 (by decide) ?_
                exact retE_z hQ C S11 hr dX10_readLines_56 (z01 (by omega) (by omega)) (⟨⟨by omega, fun h9 => absurd h9 (by decide)⟩, by have z9 := u21_2.trans (lns_no (m := 12 - (x1_21.toInt.toNat + 1)) (by omega) yk10 y11); rw [z9]; exact Or.inr ⟨by omega, rfl, wr11⟩⟩)
          · have b9 : ¬ (fI D H_21 9 tp 3).toInt = (1 : Int32).toInt := fun z9 => c9 (i_eq.mpr z9)
            have yk24 : kd T b_21 ≠ 1 := by have z9 := u21_1.2.1; omega
            refine lv_aload_n hx hb dX10_readLines_40 rfl (lv_at hl 1 rfl) ?_
            refine q_gr (T := TX4) C S_21.1 ga0 0 kF_X10_7 dX10_readLines_41 rfl rfl (by decide) rfl (by decide) rfl (fun g25 => ?_)
            rw [show fR D H_21 4 a0 0 = tp from (S_21.2.1.fR ga0 rfl (by decide) (by decide +kernel)).trans htp]
            refine callV_Ei C S_21 (c_X9_refuse_f l D G tp T b_21 gtp) kV_X10_25 gtp (⟨trivial, u21_1⟩) (by decide +kernel) dX10_readLines_44 hl.1 rfl rfl (by decide) cd_X9_refuse ⟨Nat.le_of_ble_eq_true rfl, Nat.le_of_ble_eq_true rfl, Nat.le_of_ble_eq_true rfl, Nat.le_of_ble_eq_true rfl, Nat.le_of_ble_eq_true rfl⟩ (fun v26 H26 L26 S26 K26 q26 => ?_)
            obtain ⟨q26, fq26⟩ := q26
            have tk26 : Lc D s.heap a0 → Lc D H26 a0 := fun h9  => (u21_3 h9).keep S_21.1 ga0 K26 (by decide +kernel) (by decide +kernel) (by decide +kernel)
            have z26 := fq26.1
            exact retE_z hQ C S26 hr dX10_readLines_47 (z01 (by omega) (by omega)) (⟨⟨by omega, fun _ h9 => tk26 h9⟩, by have z9 := u21_2.trans (lns_k (m := 12 - (x1_21.toInt.toNat + 1)) (by omega) yk24); rw [z9]; exact Or.inr ⟨by omega, rfl, fq26.2⟩⟩)
    exact Lp21 13 (0 : Int32) (sk T 0) H2 L2 ls S2 (by omega) (by rw [K2.fI ga0 rfl (by decide) (by decide +kernel)]; omega) fq2 (by rw [show (0 : Int32).toInt.toNat = 0 by decide]; exact if_neg hk0) (fun h9 => tk2 h9)  (by omega) (lv_sub hl [0, 1] rfl)
  · have b4 : (fI D H2 9 tp 3).toInt = (0 : Int32).toInt := i_eq.mp c4
    refine lv_iconst (v := 1) hx hb dX10_readLines_17 (by decide) ?_
    have k_1 : (1 : Int32).toInt = 1 := by decide
    exact retE_z hQ C S2 hr dX10_readLines_18 (z01 (by omega) (by omega)) (⟨⟨by omega, fun _ h9 => tk2 h9⟩, by have z9 : lawF T = (true, sk T 0, 0) := if_pos (by have := fq2.2.1; omega); rw [z9]; exact Or.inl ⟨by omega, rfl, by show _ = _ + (((0 : Nat)) : Int); rw [K2.fI ga0 rfl (by decide) (by decide +kernel)]; omega, fq2.1.2.1⟩⟩)
