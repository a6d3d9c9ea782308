set_option maxRecDepth 100000 in
set_option maxHeartbeats 4000000 in
theorem c_X12_readLine_f (l : Launch) (D : DD) (G : Nat → Nat) (a0 : Nat) (x1 : Int32) (x2 : Int32) (T : Tx) (b : Nat) (ga0 : G a0 = 30) (ix1 : 0 ≤ x1.toInt ∧ x1.toInt ≤ 0) (ix2 : 0 ≤ x2.toInt ∧ x2.toInt ≤ 12) : CE l D G yX12_readLine cX12_readLine 3 (some .boolean) 29 [.ref a0, .int x1, .int x2] (fun H => ((fI D H 11 a0 16).toInt ≤ (fI D H 11 a0 10).toInt) ∧ (RB D H a0 T b)) [(30, 10), (30, 12), (30, 16), (31, 0), (30, 13)] (xI (fun H r H1 => ((0 ≤ r.toInt ∧ r.toInt ≤ 1) ∧ (r.toInt = 1 → x2.toInt ≤ 11 ∧ (fI D H1 11 a0 16).toInt ≤ (fI D H1 11 a0 10).toInt) ∧ (r.toInt = 1 → Dl D H a0 x2.toInt.toNat → Dl D H1 a0 (x2.toInt.toNat + 1))) ∧ (RR D H1 a0 T (linN T x2.toInt b) r))) := by
  refine enter (by decide) (Nat.le_of_ble_eq_true rfl) ?_
  intro p e s m args below meth c ls Q hA hQ C hr hO hpre hl
  have hx := C.1
  have hb := C.2.1
  have S : Sd D G [(30, 10), (30, 12), (30, 16), (31, 0), (30, 13)] s.heap s.heap [] := Sd.start hO
  have hl : lv_has ls 3 [(0, .ref a0), (1, .int x1), (2, .int x2)] := hl
  have rs0 : 0 ≤ (fI D s.heap 11 a0 16).toInt ∧ (fI D s.heap 11 a0 16).toInt ≤ 400 := hO.rng ga0 rfl (by decide) rfl
  have rp0 : 0 ≤ (fI D s.heap 11 a0 10).toInt ∧ (fI D s.heap 11 a0 10).toInt ≤ 400 := hO.rng ga0 rfl (by decide) rfl
  obtain ⟨hpre, hf⟩ := hpre
  have ts0 := hf
  have hT : T.2 ≤ 400 := ts0.le hO ga0
  refine lv_aload_n hx hb dX12_readLine_0 rfl (lv_at hl 0 rfl) ?_
  refine callV_Ev C S (c_X12_letters_f l D G a0 T b ga0) kV_X12_102 ga0 (⟨trivial, ts0⟩) (by decide +kernel) dX12_readLine_1 hl.1 rfl rfl (by decide) cd_X12_letters ⟨Nat.le_of_ble_eq_true rfl, Nat.le_of_ble_eq_true rfl, Nat.le_of_ble_eq_true rfl, Nat.le_of_ble_eq_true rfl, Nat.le_of_ble_eq_true rfl⟩ (fun H1 L1 S1 K1 q1 => ?_)
  obtain ⟨q1, fq1⟩ := q1
  have y1_13 : (fI D H1 11 a0 13).toInt = (fI D s.heap 11 a0 13).toInt := congrArg Int32.toInt (K1.fI ga0 rfl (by decide) (by decide +kernel))
  have y1_16 : (fI D H1 11 a0 16).toInt = (fI D s.heap 11 a0 16).toInt := congrArg Int32.toInt (K1.fI ga0 rfl (by decide) (by decide +kernel))
  have kl := K1
  refine lv_iload_n hx hb dX12_readLine_4 rfl (lv_at hl 2 rfl) ?_
  refine lv_iload_n hx hb dX12_readLine_5 rfl (lv_at hl 1 rfl) ?_
  have k_0 : (0 : Int32).toInt = 0 := by decide
  refine lv_if_eq (tgt := 14) hx hb dX12_readLine_6 (by decide) (fun c2 => ?_) (fun c2 => ?_)
  · have b2 : x1.toInt = (0 : Int32).toInt := i_eq.mp c2
    refine lv_bipush (v := 12) hx hb dX12_readLine_14 (by decide) ?_
    have k_12 : (12 : Int32).toInt = 12 := by decide
    refine lv_icmp_ge (tgt := 45) hx hb dX12_readLine_16 (by decide) (fun c3 => ?_) (fun c3 => ?_)
    · have b3 : (12 : Int32).toInt ≤ x2.toInt := i_le.mp c3
      have bg45 := fq1.2.2.1
      have yn45 : ¬ x2.toInt < 12 := by omega
      refine lv_iconst (v := 0) hx hb dX12_readLine_45 (by decide) ?_
      exact retE_z hQ C S1 hr dX12_readLine_46 (z01 (by omega) (by omega)) (⟨⟨by omega, fun h9 => absurd h9 (by decide), fun h9 => absurd h9 (by decide)⟩, RR.no (by simp [linN, yn45]) (by omega) bg45⟩)
    · have b3 : ¬ (12 : Int32).toInt ≤ x2.toInt := fun z9 => c3 (i_le.mpr z9)
      refine lv_iload_n hx hb dX12_readLine_19 rfl (lv_at hl 1 rfl) ?_
      refine lv_if_eq (tgt := 33) hx hb dX12_readLine_20 (by decide) (fun c4 => ?_) (fun c4 => ?_)
      · have b4 : x1.toInt = (0 : Int32).toInt := i_eq.mp c4
        have yn33 : x2.toInt < 12 := by omega
        refine lv_aload_n hx hb dX12_readLine_33 rfl (lv_at hl 0 rfl) ?_
        refine lv_iload_n hx hb dX12_readLine_34 rfl (lv_at hl 2 rfl) ?_
        refine callV_Ei C S1 (c_X12_readLawLine l D G a0 x2 T b ga0 (by omega)) kV_X12_232 ga0 (⟨⟨by omega, by omega⟩, fq1⟩) (by decide +kernel) dX12_readLine_35 hl.1 rfl rfl (by decide) cd_X12_readLawLine ⟨Nat.le_of_ble_eq_true rfl, Nat.le_of_ble_eq_true rfl, Nat.le_of_ble_eq_true rfl, Nat.le_of_ble_eq_true rfl, Nat.le_of_ble_eq_true rfl⟩ (fun v5 H5 L5 S5 K5 q5 => ?_)
        obtain ⟨q5, fq5⟩ := q5
        obtain ⟨q5, sa5, sd5⟩ := q5
        rcases fq5 with ⟨c5, y5, z5, ts5⟩ | ⟨e5, y5, z5, wr5⟩
        · skip
          refine lv_if_eq (tgt := 45) hx hb dX12_readLine_38 (by decide) (fun c6 => ?_) (fun c6 => ?_)
          · have b6 : v5.toInt = (0 : Int32).toInt := i_eq.mp c6
            exact absurd b6 (by omega)
          · have b6 : ¬ v5.toInt = (0 : Int32).toInt := fun z9 => c6 (i_eq.mpr z9)
            refine lv_iconst (v := 1) hx hb dX12_readLine_41 (by decide) ?_
            refine lv_goto (tgt := 46) hx hb dX12_readLine_42 (by decide) ?_
            have k_1 : (1 : Int32).toInt = 1 := by decide
            exact retE_z hQ C S5 hr dX12_readLine_46 (z01 (by omega) (by omega)) (⟨⟨by omega, fun _ => ⟨by omega, by omega⟩, fun _ h9 => sd5 (by omega) (h9.lq (Lq.keep hO ga0 kl (by decide +kernel) (by decide +kernel) (by decide +kernel)) (by omega) rs0.1)⟩, RR.ok (by simp [linN, yn33, y5]) (by omega) ts5⟩)
        · skip
          refine lv_if_eq (tgt := 45) hx hb dX12_readLine_38 (by decide) (fun c7 => ?_) (fun c7 => ?_)
          · have b7 : v5.toInt = (0 : Int32).toInt := i_eq.mp c7
            refine lv_iconst (v := 0) hx hb dX12_readLine_45 (by decide) ?_
            exact retE_z hQ C S5 hr dX12_readLine_46 (z01 (by omega) (by omega)) (⟨⟨by omega, fun h9 => absurd h9 (by decide), fun h9 => absurd h9 (by decide)⟩, RR.no (by simp [linN, yn33, y5]) (by omega) wr5⟩)
          · have b7 : ¬ v5.toInt = (0 : Int32).toInt := fun z9 => c7 (i_eq.mpr z9)
            exact absurd b7 (by omega)
      · have b4 : ¬ x1.toInt = (0 : Int32).toInt := fun z9 => c4 (i_eq.mpr z9)
        exact absurd b4 (by omega)
  · have b2 : ¬ x1.toInt = (0 : Int32).toInt := fun z9 => c2 (i_eq.mpr z9)
    exact absurd b2 (by omega)

set_option maxRecDepth 100000 in
set_option maxHeartbeats 4000000 in
theorem c_X12_readLine_t (l : Launch) (D : DD) (G : Nat → Nat) (a0 : Nat) (x1 : Int32) (x2 : Int32) (ga0 : G a0 = 30) (ix1 : 1 ≤ x1.toInt ∧ x1.toInt ≤ 1) (ix2 : 0 ≤ x2.toInt ∧ x2.toInt ≤ 14) : CE l D G yX12_readLine cX12_readLine 3 (some .boolean) 29 [.ref a0, .int x1, .int x2] (fun _ => True) [(30, 10), (30, 12), (31, 0), (31, 1)] (xI (fun H r H1 => (0 ≤ r.toInt ∧ r.toInt ≤ 1) ∧ (r.toInt = 1 → x2.toInt ≤ 13))) := by
  refine enter (by decide) (Nat.le_of_ble_eq_true rfl) ?_
  intro p e s m args below meth c ls Q hA hQ C hr hO hpre hl
  have hx := C.1
  have hb := C.2.1
  have S : Sd D G [(30, 10), (30, 12), (31, 0), (31, 1)] s.heap s.heap [] := Sd.start hO
  have hl : lv_has ls 3 [(0, .ref a0), (1, .int x1), (2, .int x2)] := hl
  refine lv_aload_n hx hb dX12_readLine_0 rfl (lv_at hl 0 rfl) ?_
  refine callV_Ev C S (c_X12_letters l D G a0 ga0) kV_X12_102 ga0 (trivial) (by decide +kernel) dX12_readLine_1 hl.1 rfl rfl (by decide) cd_X12_letters ⟨Nat.le_of_ble_eq_true rfl, Nat.le_of_ble_eq_true rfl, Nat.le_of_ble_eq_true rfl, Nat.le_of_ble_eq_true rfl, Nat.le_of_ble_eq_true rfl⟩ (fun H1 L1 S1 K1 q1 => ?_)
  refine lv_iload_n hx hb dX12_readLine_4 rfl (lv_at hl 2 rfl) ?_
  refine lv_iload_n hx hb dX12_readLine_5 rfl (lv_at hl 1 rfl) ?_
  have k_0 : (0 : Int32).toInt = 0 := by decide
  refine lv_if_eq (tgt := 14) hx hb dX12_readLine_6 (by decide) (fun c2 => ?_) (fun c2 => ?_)
  · have b2 : x1.toInt = (0 : Int32).toInt := i_eq.mp c2
    exact absurd b2 (by omega)
  · have b2 : ¬ x1.toInt = (0 : Int32).toInt := fun z9 => c2 (i_eq.mpr z9)
    refine lv_bipush (v := 14) hx hb dX12_readLine_9 (by decide) ?_
    refine lv_goto (tgt := 16) hx hb dX12_readLine_11 (by decide) ?_
    have k_14 : (14 : Int32).toInt = 14 := by decide
    refine lv_icmp_ge (tgt := 45) hx hb dX12_readLine_16 (by decide) (fun c3 => ?_) (fun c3 => ?_)
    · have b3 : (14 : Int32).toInt ≤ x2.toInt := i_le.mp c3
      refine lv_iconst (v := 0) hx hb dX12_readLine_45 (by decide) ?_
      exact retE_z hQ C S1 hr dX12_readLine_46 (z01 (by omega) (by omega)) (⟨by omega, fun h9 => by omega⟩)
    · have b3 : ¬ (14 : Int32).toInt ≤ x2.toInt := fun z9 => c3 (i_le.mpr z9)
      refine lv_iload_n hx hb dX12_readLine_19 rfl (lv_at hl 1 rfl) ?_
      refine lv_if_eq (tgt := 33) hx hb dX12_readLine_20 (by decide) (fun c4 => ?_) (fun c4 => ?_)
      · have b4 : x1.toInt = (0 : Int32).toInt := i_eq.mp c4
        exact absurd b4 (by omega)
      · have b4 : ¬ x1.toInt = (0 : Int32).toInt := fun z9 => c4 (i_eq.mpr z9)
        refine lv_aload_n hx hb dX12_readLine_23 rfl (lv_at hl 0 rfl) ?_
        refine callV_Ei C S1 (c_X12_readParishLine l D G a0 ga0) kV_X12_229 ga0 (trivial) (by decide +kernel) dX12_readLine_24 hl.1 rfl rfl (by decide) cd_X12_readParishLine ⟨Nat.le_of_ble_eq_true rfl, Nat.le_of_ble_eq_true rfl, Nat.le_of_ble_eq_true rfl, Nat.le_of_ble_eq_true rfl, Nat.le_of_ble_eq_true rfl⟩ (fun v5 H5 L5 S5 K5 q5 => ?_)
        refine lv_if_eq (tgt := 45) hx hb dX12_readLine_27 (by decide) (fun c6 => ?_) (fun c6 => ?_)
        · have b6 : v5.toInt = (0 : Int32).toInt := i_eq.mp c6
          refine lv_iconst (v := 0) hx hb dX12_readLine_45 (by decide) ?_
          exact retE_z hQ C S5 hr dX12_readLine_46 (z01 (by omega) (by omega)) (⟨by omega, fun h9 => by omega⟩)
        · have b6 : ¬ v5.toInt = (0 : Int32).toInt := fun z9 => c6 (i_eq.mpr z9)
          refine lv_goto (tgt := 41) hx hb dX12_readLine_30 (by decide) ?_
          refine lv_iconst (v := 1) hx hb dX12_readLine_41 (by decide) ?_
          refine lv_goto (tgt := 46) hx hb dX12_readLine_42 (by decide) ?_
          have k_1 : (1 : Int32).toInt = 1 := by decide
          exact retE_z hQ C S5 hr dX12_readLine_46 (z01 (by omega) (by omega)) (⟨by omega, fun h9 => by omega⟩)

set_option maxRecDepth 100000 in
set_option maxHeartbeats 4000000 in
theorem c_X12_uses_f (l : Launch) (D : DD) (G : Nat → Nat) (a0 : Nat) (T : Tx) (ga0 : G a0 = 30) : CE l D G yX12_uses cX12_uses 1 none 0 [.ref a0] (fun H => tM D H a0 = T) [(30, 0), (30, 9), (30, 10), (30, 11)] (xV (fun H H1 => ((fI D H1 11 a0 9).toInt = 0 ∧ (fI D H1 11 a0 10).toInt = 0) ∧ mT D H1 a0 = T ∧ (fI D H1 11 a0 0).toInt = 0)) := by
  refine enter (by decide) (Nat.le_of_ble_eq_true rfl) ?_
  intro p e s m args below meth c ls Q hA hQ C hr hO hpre hl
  have hx := C.1
  have hb := C.2.1
  have S : Sd D G [(30, 0), (30, 9), (30, 10), (30, 11)] s.heap s.heap [] := Sd.start hO
  have hl : lv_has ls 1 [(0, .ref a0)] := hl
  refine lv_aload_n hx hb dX12_uses_0 rfl (lv_at hl 0 rfl) ?_
  refine lv_iconst (v := 0) hx hb dX12_uses_1 (by decide) ?_
  have k_0 : (0 : Int32).toInt = 0 := by decide
  refine q_put (T := TX12) C S ga0 0 kF_X12_3 dX12_uses_2 rfl rfl (by decide) (by decide) rfl rfl rfl rfl rfl (vok_a rfl) (by decide +kernel) (fun H1 L1 S1 P1 => ?_)
  refine lv_aload_n hx hb dX12_uses_5 rfl (lv_at hl 0 rfl) ?_
  refine lv_aload_n hx hb dX12_uses_6 rfl (lv_at hl 0 rfl) ?_
  refine q_gi (T := TX12) C S1.1 ga0 9 kF_X12_75 dX12_uses_7 rfl rfl (by decide) rfl (by decide) rfl ?_
  have c2 : (fI D H1 11 a0 9).toInt = (fI D s.heap 11 a0 9).toInt := by rw [Pt.o P1 (by decide) (by decide)]
  have r3 : 0 ≤ (fI D H1 11 a0 9).toInt ∧ (fI D H1 11 a0 9).toInt ≤ 400 := S1.1.rng ga0 rfl (by decide) rfl
  refine q_put (T := TX12) C S1 ga0 11 kF_X12_81 dX12_uses_10 rfl rfl (by decide) (by decide) rfl rfl rfl rfl rfl (vok_i rfl (by omega) (by omega)) (by decide +kernel) (fun H4 L4 S4 P4 => ?_)
  refine lv_aload_n hx hb dX12_uses_13 rfl (lv_at hl 0 rfl) ?_
  refine lv_iconst (v := 0) hx hb dX12_uses_14 (by decide) ?_
  refine q_put (T := TX12) C S4 ga0 9 kF_X12_75 dX12_uses_15 rfl rfl (by decide) (by decide) rfl rfl rfl rfl rfl (vok_i rfl (by omega) (by omega)) (by decide +kernel) (fun H5 L5 S5 P5 => ?_)
  refine lv_aload_n hx hb dX12_uses_18 rfl (lv_at hl 0 rfl) ?_
  refine lv_iconst (v := 0) hx hb dX12_uses_19 (by decide) ?_
  refine q_put (T := TX12) C S5 ga0 10 kF_X12_78 dX12_uses_20 rfl rfl (by decide) (by decide) rfl rfl rfl rfl rfl (vok_i rfl (by omega) (by omega)) (by decide +kernel) (fun H6 L6 S6 P6 => ?_)
  exact retE_v hQ C S6 hr dX12_uses_23 (⟨by rw [Pt.i P6, Pt.o P6 (by decide) (by decide), Pt.i P5]; decide, by rw [← hpre]; exact mT_uses hO ga0 S6.2.1 (by decide) (by decide) (by rw [Pt.o P6 (by decide) (by decide), Pt.o P5 (by decide) (by decide), Pt.i P4, Pt.o P1 (by decide) (by decide)]), by rw [Pt.o P6 (by decide) (by decide), Pt.o P5 (by decide) (by decide), Pt.o P4 (by decide) (by decide), Pt.i P1]; decide⟩)

set_option maxRecDepth 100000 in
set_option maxHeartbeats 4000000 in
theorem c_X12_readAll_f (l : Launch) (D : DD) (G : Nat → Nat) (a0 : Nat) (x1 : Int32) (T : Tx) (ga0 : G a0 = 30) (ix1 : 0 ≤ x1.toInt ∧ x1.toInt ≤ 0) : CE l D G yX12_readAll cX12_readAll 3 (some .int) 30 [.ref a0, .int x1] (fun H => (True) ∧ (tM D H a0 = T)) [(30, 0), (30, 9), (30, 10), (30, 11), (30, 12), (30, 16), (31, 0), (30, 13)] (xI (fun H r H1 => ((-1 ≤ r.toInt ∧ r.toInt ≤ 12) ∧ (fI D H1 11 a0 9).toInt = 0 ∧ (0 ≤ r.toInt → Dl D H1 a0 r.toInt.toNat)) ∧ (((0 ≤ r.toInt ∧ (lawF T).1 = true ∧ r.toInt = (((lawF T).2.2 : Nat) : Int)) ∨ (r.toInt = -1 ∧ (lawF T).1 = false ∧ (fI D H1 11 a0 12).toInt = (((lawF T).2.1 : Nat) : Int))) ∧ (fI D H1 11 a0 0).toInt = 0))) := by
  refine enter (by decide) (Nat.le_of_ble_eq_true rfl) ?_
  intro p e s m args below meth c ls Q hA hQ C hr hO hpre hl
  have hx := C.1
  have hb := C.2.1
  have S : Sd D G [(30, 0), (30, 9), (30, 10), (30, 11), (30, 12), (30, 16), (31, 0), (30, 13)] s.heap s.heap [] := Sd.start hO
  have hl : lv_has ls 3 [(0, .ref a0), (1, .int x1)] := hl
  obtain ⟨hpre, hf⟩ := hpre
  have hTM := hf
  have hT : T.2 ≤ 400 := by rw [← hTM]; exact tM_le hO ga0
  refine lv_aload_n hx hb dX12_readAll_0 rfl (lv_at hl 0 rfl) ?_
  refine callV_Ev C S (c_X12_uses_f l D G a0 T ga0) kV_X12_235 ga0 (hTM) (by decide +kernel) dX12_readAll_1 hl.1 rfl rfl (by decide) cd_X12_uses ⟨Nat.le_of_ble_eq_true rfl, Nat.le_of_ble_eq_true rfl, Nat.le_of_ble_eq_true rfl, Nat.le_of_ble_eq_true rfl, Nat.le_of_ble_eq_true rfl⟩ (fun H1 L1 S1 K1 q1 => ?_)
  have y1_12 : (fI D H1 11 a0 12).toInt = (fI D s.heap 11 a0 12).toInt := congrArg Int32.toInt (K1.fI ga0 rfl (by decide) (by decide +kernel))
  have y1_13 : (fI D H1 11 a0 13).toInt = (fI D s.heap 11 a0 13).toInt := congrArg Int32.toInt (K1.fI ga0 rfl (by decide) (by decide +kernel))
  have y1_16 : (fI D H1 11 a0 16).toInt = (fI D s.heap 11 a0 16).toInt := congrArg Int32.toInt (K1.fI ga0 rfl (by decide) (by decide +kernel))
  have tz := q1.1.1
  have pz := q1.1.2
  have hmu := q1.2.1
  have hth := q1.2.2
  refine lv_aload_n hx hb dX12_readAll_4 rfl (lv_at hl 0 rfl) ?_
  refine lv_iconst (v := 0) hx hb dX12_readAll_5 (by decide) ?_
  have k_0 : (0 : Int32).toInt = 0 := by decide
  refine q_put (T := TX12) C S1 ga0 16 kF_X12_182 dX12_readAll_6 rfl rfl (by decide) (by decide) rfl rfl rfl rfl rfl (vok_i rfl (by omega) (by omega)) (by decide +kernel) (fun H2 L2 S2 P2 => ?_)
  have y2_10 : (fI D H2 11 a0 10).toInt = (fI D H1 11 a0 10).toInt := congrArg Int32.toInt (Pt.o P2 (by decide) (by decide))
  have y2_12 : (fI D H2 11 a0 12).toInt = (fI D H1 11 a0 12).toInt := congrArg Int32.toInt (Pt.o P2 (by decide) (by decide))
  have y2_13 : (fI D H2 11 a0 13).toInt = (fI D H1 11 a0 13).toInt := congrArg Int32.toInt (Pt.o P2 (by decide) (by decide))
  have y2_16 : (fI D H2 11 a0 16).toInt = (0 : Int32).toInt := congrArg Int32.toInt (Pt.i P2)
  have y2_9 : (fI D H2 11 a0 9).toInt = (fI D H1 11 a0 9).toInt := congrArg Int32.toInt (Pt.o P2 (by decide) (by decide))
  have y2_0 : (fI D H2 11 a0 0).toInt = (fI D H1 11 a0 0).toInt := congrArg Int32.toInt (Pt.o P2 (by decide) (by decide))
  have hm9 : mT D H2 a0 = T := (mT_put S1.1 ga0 P2 (by decide) (by decide)).trans hmu
  refine lv_aload_n hx hb dX12_readAll_9 rfl (lv_at hl 0 rfl) ?_
  refine callV_Ev C S2 (c_X12_blanks_f l D G a0 T 0 ga0) kV_X12_90 ga0 (⟨hm9, by omega⟩) (by decide +kernel) dX12_readAll_10 hl.1 rfl rfl (by decide) cd_X12_blanks ⟨Nat.le_of_ble_eq_true rfl, Nat.le_of_ble_eq_true rfl, Nat.le_of_ble_eq_true rfl, Nat.le_of_ble_eq_true rfl, Nat.le_of_ble_eq_true rfl⟩ (fun H3 L3 S3 K3 q3 => ?_)
  have y3_13 : (fI D H3 11 a0 13).toInt = (fI D H2 11 a0 13).toInt := congrArg Int32.toInt (K3.fI ga0 rfl (by decide) (by decide +kernel))
  have y3_16 : (fI D H3 11 a0 16).toInt = (fI D H2 11 a0 16).toInt := congrArg Int32.toInt (K3.fI ga0 rfl (by decide) (by decide +kernel))
  have y3_9 : (fI D H3 11 a0 9).toInt = (fI D H2 11 a0 9).toInt := congrArg Int32.toInt (K3.fI ga0 rfl (by decide) (by decide +kernel))
  have y3_0 : (fI D H3 11 a0 0).toInt = (fI D H2 11 a0 0).toInt := congrArg Int32.toInt (K3.fI ga0 rfl (by decide) (by decide +kernel))
  have bp := q3.1
  have bsk := q3.2
  have hmb : mT D H3 a0 = T := (mT_keep S2.1 ga0 K3 (by decide +kernel) (by decide +kernel) (by decide +kernel)).trans hm9
  have tl9 : T.2 = (fI D H3 11 a0 11).toInt.toNat := (congrArg Prod.snd hmb).symm
  have sk0 : sk T 0 ≤ T.2 := sk_le (Nat.zero_le _)
  refine lv_aload_n hx hb dX12_readAll_13 rfl (lv_at hl 0 rfl) ?_
  refine q_gi (T := TX12) C S3.1 ga0 10 kF_X12_78 dX12_readAll_14 rfl rfl (by decide) rfl (by decide) rfl ?_
  have r4 : 0 ≤ (fI D H3 11 a0 10).toInt ∧ (fI D H3 11 a0 10).toInt ≤ 400 := S3.1.rng ga0 rfl (by decide) rfl
  refine lv_aload_n hx hb dX12_readAll_17 rfl (lv_at hl 0 rfl) ?_
  refine q_gi (T := TX12) C S3.1 ga0 11 kF_X12_81 dX12_readAll_18 rfl rfl (by decide) rfl (by decide) rfl ?_
  have r5 : 0 ≤ (fI D H3 11 a0 11).toInt ∧ (fI D H3 11 a0 11).toInt ≤ 400 := S3.1.rng ga0 rfl (by decide) rfl
  refine lv_icmp_ne (tgt := 26) hx hb dX12_readAll_21 (by decide) (fun c6 => ?_) (fun c6 => ?_)
  · have b6 : ¬ (fI D H3 11 a0 10).toInt = (fI D H3 11 a0 11).toInt := fun z9 => c6 (i_eq.mpr z9)
    have tl9 : T.2 = (fI D H3 11 a0 11).toInt.toNat := (congrArg Prod.snd hmb).symm
    have hk0 : ¬ kd T (sk T 0) = 0 := fun z9 => by have z8 := kd_e.mp z9; omega
    have rb26 : RB D H3 a0 T (sk T 0) := rb_at hmb (c := sk T 0) (by omega) sk0 (sk_idem hT)
    refine lv_iconst (v := 0) hx hb dX12_readAll_26 (by decide) ?_
    refine lv_istore_n (lv' := [(2, .int (0 : Int32)), (0, .ref a0), (1, .int x1)]) hx hb dX12_readAll_27 rfl hl (by decide) rfl (fun ls hl => ?_)
    have Lp28 : ∀ (n : Nat) (x2_28 : Int32) (b_28 : Nat) (H_28 : Heap) (L_28 : List Loc) (ls : Array Slot), (Sd D G [(30, 0), (30, 9), (30, 10), (30, 11), (30, 12), (30, 16), (31, 0), (30, 13)] s.heap H_28 L_28) → (0 ≤ x2_28.toInt ∧ x2_28.toInt ≤ 12) → (Dl D H_28 a0 x2_28.toInt.toNat) → ((fI D H_28 11 a0 16).toInt ≤ (fI D H_28 11 a0 10).toInt ∧ (fI D H_28 11 a0 9).toInt = 0 ∧ (fI D H_28 11 a0 0).toInt = 0) → (RB D H_28 a0 T b_28) → (lawF T = lnsR T (linF T) (12 - x2_28.toInt.toNat) b_28 x2_28.toInt.toNat) → 13 - x2_28.toInt ≤ (n : Int) → lv_has ls 3 [(2, .int x2_28), (0, .ref a0), (1, .int x1)] → W p l e (rmU 30 0 0) s m args below meth c H_28 L_28 0 0 Q (F0 m 28 ls []) := by
      intro n
      induction n with
      | zero =>
        intro x2_28 b_28 H_28 L_28 ls S_28 j28_0 u28_0 u28_1 u28_2 u28_3 hn hl
        exact absurd hn (by omega)
      | succ n ih28 =>
        intro x2_28 b_28 H_28 L_28 ls S_28 j28_0 u28_0 u28_1 u28_2 u28_3 hn hl
        refine lv_aload_n hx hb dX12_readAll_28 rfl (lv_at hl 1 rfl) ?_
        refine lv_iload_n hx hb dX12_readAll_29 rfl (lv_at hl 2 rfl) ?_
        refine lv_iload_n hx hb dX12_readAll_30 rfl (lv_at hl 0 rfl) ?_
        refine callV_Ei C S_28 (c_X12_readLine_f l D G a0 x1 x2_28 T b_28 ga0 (by omega) (by omega)) kV_X12_238 ga0 (⟨by omega, u28_2⟩) (by decide +kernel) dX12_readAll_31 hl.1 rfl rfl (by decide) cd_X12_readLine ⟨Nat.le_of_ble_eq_true rfl, Nat.le_of_ble_eq_true rfl, Nat.le_of_ble_eq_true rfl, Nat.le_of_ble_eq_true rfl, Nat.le_of_ble_eq_true rfl⟩ (fun v7 H7 L7 S7 K7 q7 => ?_)
        obtain ⟨q7, fq7⟩ := q7
        obtain ⟨q7, sa7, sd7⟩ := q7
        have y7_9 : (fI D H7 11 a0 9).toInt = (fI D H_28 11 a0 9).toInt := congrArg Int32.toInt (K7.fI ga0 rfl (by decide) (by decide +kernel))
        have y7_0 : (fI D H7 11 a0 0).toInt = (fI D H_28 11 a0 0).toInt := congrArg Int32.toInt (K7.fI ga0 rfl (by decide) (by decide +kernel))
        have sdq := sd7
        have saq := sa7
        rcases fq7 with ⟨c7, y7, z7, ts7⟩ | ⟨e7, y7, z7, wr7⟩
        · skip
          refine lv_if_ne (tgt := 39) hx hb dX12_readAll_34 (by decide) (fun c8 => ?_) (fun c8 => ?_)
          · have b8 : ¬ v7.toInt = (0 : Int32).toInt := fun z9 => c8 (i_eq.mpr z9)
            refine lv_aload_n hx hb dX12_readAll_39 rfl (lv_at hl 1 rfl) ?_
            have SQ := S7
            have rq9 : 0 ≤ (fI D H7 11 a0 16).toInt ∧ (fI D H7 11 a0 16).toInt ≤ 400 := S7.1.rng ga0 rfl (by decide) rfl
            have rp8 : 0 ≤ (fI D H7 11 a0 10).toInt ∧ (fI D H7 11 a0 10).toInt ≤ 400 := S7.1.rng ga0 rfl (by decide) rfl
            have hmc := ts7.1
            have bdc := ts7.bd
            have skc := ts7.2.2
            have lin9 := linN_t (k := x2_28.toInt.toNat) (by rw [show ((x2_28.toInt.toNat : Nat) : Int) = x2_28.toInt by omega]; exact y7)
            refine callV_Ev C S7 (c_X12_blanks_f l D G a0 T ((fI D H7 11 a0 10).toInt.toNat) ga0) kV_X12_90 ga0 (⟨hmc, by omega⟩) (by decide +kernel) dX12_readAll_40 hl.1 rfl rfl (by decide) cd_X12_blanks ⟨Nat.le_of_ble_eq_true rfl, Nat.le_of_ble_eq_true rfl, Nat.le_of_ble_eq_true rfl, Nat.le_of_ble_eq_true rfl, Nat.le_of_ble_eq_true rfl⟩ (fun H9 L9 S9 K9 q9 => ?_)
            have y9_13 : (fI D H9 11 a0 13).toInt = (fI D H7 11 a0 13).toInt := congrArg Int32.toInt (K9.fI ga0 rfl (by decide) (by decide +kernel))
            have y9_16 : (fI D H9 11 a0 16).toInt = (fI D H7 11 a0 16).toInt := congrArg Int32.toInt (K9.fI ga0 rfl (by decide) (by decide +kernel))
            have y9_9 : (fI D H9 11 a0 9).toInt = (fI D H7 11 a0 9).toInt := congrArg Int32.toInt (K9.fI ga0 rfl (by decide) (by decide +kernel))
            have y9_0 : (fI D H9 11 a0 0).toInt = (fI D H7 11 a0 0).toInt := congrArg Int32.toInt (K9.fI ga0 rfl (by decide) (by decide +kernel))
            have bp := q9.1
            have bsk := q9.2
            have dl9 : _ → Dl D H9 a0 (x2_28.toInt.toNat + 1) := fun h9 => Dl.lq (sdq h9 u28_0) (Lq.keep SQ.1 ga0 K9 (by decide +kernel) (by decide +kernel) (by decide +kernel)) (by omega) rq9.1
            have hmd : mT D H9 a0 = T := (mT_keep S7.1 ga0 K9 (by decide +kernel) (by decide +kernel) (by decide +kernel)).trans hmc
            have tl9 : T.2 = (fI D H9 11 a0 11).toInt.toNat := (congrArg Prod.snd hmd).symm
            rw [skc] at bsk
            refine lv_aload_n hx hb dX12_readAll_43 rfl (lv_at hl 1 rfl) ?_
            refine q_gi (T := TX12) C S9.1 ga0 10 kF_X12_78 dX12_readAll_44 rfl rfl (by decide) rfl (by decide) rfl ?_
            have r10 : 0 ≤ (fI D H9 11 a0 10).toInt ∧ (fI D H9 11 a0 10).toInt ≤ 400 := S9.1.rng ga0 rfl (by decide) rfl
            refine lv_aload_n hx hb dX12_readAll_47 rfl (lv_at hl 1 rfl) ?_
            refine q_gi (T := TX12) C S9.1 ga0 11 kF_X12_81 dX12_readAll_48 rfl rfl (by decide) rfl (by decide) rfl ?_
            have r11 : 0 ≤ (fI D H9 11 a0 11).toInt ∧ (fI D H9 11 a0 11).toInt ≤ 400 := S9.1.rng ga0 rfl (by decide) rfl
            refine lv_icmp_ne (tgt := 58) hx hb dX12_readAll_51 (by decide) (fun c12 => ?_) (fun c12 => ?_)
            · have b12 : ¬ (fI D H9 11 a0 10).toInt = (fI D H9 11 a0 11).toInt := fun z9 => c12 (i_eq.mpr z9)
              refine lv_aload_n hx hb dX12_readAll_58 rfl (lv_at hl 1 rfl) ?_
              refine lv_bipush (v := 59) hx hb dX12_readAll_59 (by decide) ?_
              refine lv_bipush (v := 59) hx hb dX12_readAll_61 (by decide) ?_
              have k_59 : (59 : Int32).toInt = 59 := by decide
              refine callV_Pi C S9.1 S9.2.1.2.1 (c_X12_isAt_f l D G a0 (59 : Int32) (59 : Int32) T ga0 (by omega) (by omega)) kV_X12_84 ga0 (hmd) dX12_readAll_63 hl.1 rfl rfl (by decide) cd_X12_isAt ⟨Nat.le_of_ble_eq_true rfl, Nat.le_of_ble_eq_true rfl, Nat.le_of_ble_eq_true rfl, Nat.le_of_ble_eq_true rfl, Nat.le_of_ble_eq_true rfl⟩ (fun v13 q13 => ?_)
              have nb9 : (fI D H9 11 a0 10).toInt.toNat = c7 := by omega
              rw [nb9] at q13
              refine lv_if_ne (tgt := 71) hx hb dX12_readAll_66 (by decide) (fun c14 => ?_) (fun c14 => ?_)
              · have b14 : ¬ v13.toInt = (0 : Int32).toInt := fun z9 => c14 (i_eq.mpr z9)
                have yS : isS T c7 59 = true := isS_t.mpr (by omega)
                refine lv_aload_n hx hb dX12_readAll_71 rfl (lv_at hl 1 rfl) ?_
                refine lv_dup hx hb dX12_readAll_72 rfl ?_
                refine q_gi (T := TX12) C S9.1 ga0 10 kF_X12_78 dX12_readAll_73 rfl rfl (by decide) rfl (by decide) rfl ?_
                refine lv_iconst (v := 1) hx hb dX12_readAll_76 (by decide) ?_
                have k_1 : (1 : Int32).toInt = 1 := by decide
                refine lv_iadd hx hb dX12_readAll_77 ?_
                refine lv_topi (fun v15 ev15 => ?_)
                have f16 : v15.toInt = (fI D H9 11 a0 10).toInt + (1 : Int32).toInt := by rw [ev15]; exact i_add (by omega) (by omega)
                refine q_put (T := TX12) C S9 ga0 10 kF_X12_78 dX12_readAll_78 rfl rfl (by decide) (by decide) rfl rfl rfl rfl rfl (vok_i rfl (by omega) (by omega)) (by decide +kernel) (fun H17 L17 S17 P17 => ?_)
                have y17_10 : (fI D H17 11 a0 10).toInt = v15.toInt := congrArg Int32.toInt (Pt.i P17)
                have y17_12 : (fI D H17 11 a0 12).toInt = (fI D H9 11 a0 12).toInt := congrArg Int32.toInt (Pt.o P17 (by decide) (by decide))
                have y17_13 : (fI D H17 11 a0 13).toInt = (fI D H9 11 a0 13).toInt := congrArg Int32.toInt (Pt.o P17 (by decide) (by decide))
                have y17_16 : (fI D H17 11 a0 16).toInt = (fI D H9 11 a0 16).toInt := congrArg Int32.toInt (Pt.o P17 (by decide) (by decide))
                have y17_9 : (fI D H17 11 a0 9).toInt = (fI D H9 11 a0 9).toInt := congrArg Int32.toInt (Pt.o P17 (by decide) (by decide))
                have y17_0 : (fI D H17 11 a0 0).toInt = (fI D H9 11 a0 0).toInt := congrArg Int32.toInt (Pt.o P17 (by decide) (by decide))
                have dl8 : Dl D H17 a0 (x2_28.toInt.toNat + 1) := Dl.lq (dl9 (by omega)) (Lq.put S9.1 ga0 P17 (by decide) (by decide)) (by omega) (by show 0 ≤ (fI D H9 11 a0 16).toInt; omega)
                have ks : kd T c7 = 3 := isS_k (c := 59) (by decide) yS
                have rb81 : RB D H17 a0 T (nx T c7) := rb_at ((mT_put S9.1 ga0 P17 (by decide) (by decide)).trans hmd) (c := c7 + 1) (by rw [Pt.i P17]; omega) (by have z5 := isS_b yS; omega) (by unfold nx; rw [af_s ks])
                obtain ⟨v18, ev18⟩ : ∃ y : Int32, y = x2_28 + (1) := ⟨_, rfl⟩
                have f19 : v18.toInt = x2_28.toInt + (1) := by rw [ev18]; exact i_addc k_1 (by omega) (by omega)
                refine lv_iinc (v := v18) (lv' := [(2, .int v18), (0, .ref a0), (1, .int x1)]) hx hb dX12_readAll_81 hl (k := 0) rfl (by rw [ev18]; rfl) (by decide) rfl (fun ls hl => ?_)
                refine lv_goto (tgt := 28) hx hb dX12_readAll_84 (by decide) ?_
                exact ih28 v18 (nx T c7) H17 L17 ls S17 (by omega) (by rw [show v18.toInt.toNat = x2_28.toInt.toNat + 1 by omega]; exact dl8) (by omega) rb81 (by rw [u28_3, lns_st (m := 12 - (x2_28.toInt.toNat + 1)) (d := nx T c7) (by omega) lin9.2.1 lin9.2.2 (by rw [ks]; decide) (by unfold tkS; rw [if_pos yS])]; exact congrArg (fun k9 => lnsR T (linF T) (12 - k9) _ k9) (by omega)) (by omega) (lv_sub hl [0, 1, 2] rfl)
              · have b14 : v13.toInt = (0 : Int32).toInt := i_eq.mp c14
                refine lv_iconst (v := -1) hx hb dX12_readAll_69 (by decide) ?_
                have k_m1 : (-1 : Int32).toInt = -1 := by decide
                exact retE_i hQ C S9 hr dX12_readAll_70 (⟨⟨by omega, by omega, fun h9 => absurd h9 (by decide)⟩, ⟨by have z9 := u28_3.trans (lns_sg (m := 12 - (x2_28.toInt.toNat + 1)) (by omega) lin9.2.1 lin9.2.2 (kd_in (by omega)) (by unfold tkS; rw [if_neg (fun z8 => by have z7 := isS_t.mp z8; omega)])); rw [z9]; exact Or.inr ⟨by omega, rfl, by show _ = ((c7 : Nat) : Int); omega⟩, by omega⟩⟩)
            · have b12 : (fI D H9 11 a0 10).toInt = (fI D H9 11 a0 11).toInt := i_eq.mp c12
              refine lv_iload_n hx hb dX12_readAll_54 rfl (lv_at hl 0 rfl) ?_
              refine lv_iconst (v := 1) hx hb dX12_readAll_55 (by decide) ?_
              have k_1 : (1 : Int32).toInt = 1 := by decide
              refine lv_iadd hx hb dX12_readAll_56 ?_
              refine lv_topi (fun v20 ev20 => ?_)
              have f21 : v20.toInt = x2_28.toInt + (1 : Int32).toInt := by rw [ev20]; exact i_add (by omega) (by omega)
              exact retE_i hQ C S9 hr dX12_readAll_57 (⟨⟨by omega, by omega, fun _ => by rw [show v20.toInt.toNat = x2_28.toInt.toNat + 1 by omega]; exact dl9 (by omega)⟩, ⟨by have z9 := u28_3.trans (lns_end (m := 12 - (x2_28.toInt.toNat + 1)) (by omega) lin9.2.1 lin9.2.2 (kd_e.mpr (by omega))); rw [z9]; exact Or.inl ⟨by omega, rfl, by show _ = ((x2_28.toInt.toNat + 1 : Nat) : Int); omega⟩, by omega⟩⟩)
          · have b8 : v7.toInt = (0 : Int32).toInt := i_eq.mp c8
            exact absurd b8 (by omega)
        · skip
          refine lv_if_ne (tgt := 39) hx hb dX12_readAll_34 (by decide) (fun c22 => ?_) (fun c22 => ?_)
          · have b22 : ¬ v7.toInt = (0 : Int32).toInt := fun z9 => c22 (i_eq.mpr z9)
            exact absurd b22 (by omega)
          · have b22 : v7.toInt = (0 : Int32).toInt := i_eq.mp c22
            refine lv_iconst (v := -1) hx hb dX12_readAll_37 (by decide) ?_
            have k_m1 : (-1 : Int32).toInt = -1 := by decide
            exact retE_i hQ C S7 hr dX12_readAll_38 (⟨⟨by omega, by omega, fun h9 => absurd h9 (by decide)⟩, ⟨by have z9 := lnsN_no (k := x2_28.toInt.toNat) u28_3 (by omega) (by rw [show ((x2_28.toInt.toNat : Nat) : Int) = x2_28.toInt by omega]; exact y7); exact Or.inr ⟨by omega, z9.1, by rw [z9.2]; exact wr7⟩, by omega⟩⟩)
    have rp9 : 0 ≤ (fI D H3 11 a0 10).toInt ∧ (fI D H3 11 a0 10).toInt ≤ 400 := S3.1.rng ga0 rfl (by decide) rfl
    exact Lp28 13 (0 : Int32) (sk T 0) H3 L3 ls S3 (by omega) (fun m9 h9 => by exact absurd h9 (by simp)) (by omega) rb26 (by rw [show (0 : Int32).toInt.toNat = 0 by decide]; exact if_neg hk0)  (by omega) (lv_sub hl [0, 1, 2] rfl)
  · have b6 : (fI D H3 11 a0 10).toInt = (fI D H3 11 a0 11).toInt := i_eq.mp c6
    refine lv_iconst (v := 0) hx hb dX12_readAll_24 (by decide) ?_
    exact retE_i hQ C S3 hr dX12_readAll_25 (⟨⟨by omega, by omega, fun _ m9 h9 => by exact absurd h9 (by simp)⟩, ⟨by have z9 : lawF T = (true, sk T 0, 0) := if_pos (kd_e.mpr (by omega)); rw [z9]; exact Or.inl ⟨by omega, rfl, by omega⟩, by omega⟩⟩)

set_option maxRecDepth 100000 in
set_option maxHeartbeats 4000000 in
theorem c_X12_readAll_t (l : Launch) (D : DD) (G : Nat → Nat) (a0 : Nat) (x1 : Int32) (ga0 : G a0 = 30) (ix1 : 1 ≤ x1.toInt ∧ x1.toInt ≤ 1) : CE l D G yX12_readAll cX12_readAll 3 (some .int) 30 [.ref a0, .int x1] (fun _ => True) [(30, 0), (30, 9), (30, 10), (30, 11), (30, 12), (30, 16), (31, 0), (30, 13), (31, 1)] (xI (fun H r H1 => (-1 ≤ r.toInt ∧ r.toInt ≤ 14) ∧ (fI D H1 11 a0 9).toInt = 0)) := by
  refine enter (by decide) (Nat.le_of_ble_eq_true rfl) ?_
  intro p e s m args below meth c ls Q hA hQ C hr hO hpre hl
  have hx := C.1
  have hb := C.2.1
  have S : Sd D G [(30, 0), (30, 9), (30, 10), (30, 11), (30, 12), (30, 16), (31, 0), (30, 13), (31, 1)] s.heap s.heap [] := Sd.start hO
  have hl : lv_has ls 3 [(0, .ref a0), (1, .int x1)] := hl
  refine lv_aload_n hx hb dX12_readAll_0 rfl (lv_at hl 0 rfl) ?_
  refine callV_Ev C S (c_X12_uses l D G a0 ga0) kV_X12_235 ga0 (trivial) (by decide +kernel) dX12_readAll_1 hl.1 rfl rfl (by decide) cd_X12_uses ⟨Nat.le_of_ble_eq_true rfl, Nat.le_of_ble_eq_true rfl, Nat.le_of_ble_eq_true rfl, Nat.le_of_ble_eq_true rfl, Nat.le_of_ble_eq_true rfl⟩ (fun H1 L1 S1 K1 q1 => ?_)
  have tz := q1.1
  refine lv_aload_n hx hb dX12_readAll_4 rfl (lv_at hl 0 rfl) ?_
  refine lv_iconst (v := 0) hx hb dX12_readAll_5 (by decide) ?_
  have k_0 : (0 : Int32).toInt = 0 := by decide
  refine q_put (T := TX12) C S1 ga0 16 kF_X12_182 dX12_readAll_6 rfl rfl (by decide) (by decide) rfl rfl rfl rfl rfl (vok_i rfl (by omega) (by omega)) (by decide +kernel) (fun H2 L2 S2 P2 => ?_)
  have y2_9 : (fI D H2 11 a0 9).toInt = (fI D H1 11 a0 9).toInt := congrArg Int32.toInt (Pt.o P2 (by decide) (by decide))
  refine lv_aload_n hx hb dX12_readAll_9 rfl (lv_at hl 0 rfl) ?_
  refine callV_Ev C S2 (c_X12_blanks l D G a0 ga0) kV_X12_90 ga0 (trivial) (by decide +kernel) dX12_readAll_10 hl.1 rfl rfl (by decide) cd_X12_blanks ⟨Nat.le_of_ble_eq_true rfl, Nat.le_of_ble_eq_true rfl, Nat.le_of_ble_eq_true rfl, Nat.le_of_ble_eq_true rfl, Nat.le_of_ble_eq_true rfl⟩ (fun H3 L3 S3 K3 q3 => ?_)
  have y3_9 : (fI D H3 11 a0 9).toInt = (fI D H2 11 a0 9).toInt := congrArg Int32.toInt (K3.fI ga0 rfl (by decide) (by decide +kernel))
  refine lv_aload_n hx hb dX12_readAll_13 rfl (lv_at hl 0 rfl) ?_
  refine q_gi (T := TX12) C S3.1 ga0 10 kF_X12_78 dX12_readAll_14 rfl rfl (by decide) rfl (by decide) rfl ?_
  have r4 : 0 ≤ (fI D H3 11 a0 10).toInt ∧ (fI D H3 11 a0 10).toInt ≤ 400 := S3.1.rng ga0 rfl (by decide) rfl
  refine lv_aload_n hx hb dX12_readAll_17 rfl (lv_at hl 0 rfl) ?_
  refine q_gi (T := TX12) C S3.1 ga0 11 kF_X12_81 dX12_readAll_18 rfl rfl (by decide) rfl (by decide) rfl ?_
  have r5 : 0 ≤ (fI D H3 11 a0 11).toInt ∧ (fI D H3 11 a0 11).toInt ≤ 400 := S3.1.rng ga0 rfl (by decide) rfl
  refine lv_icmp_ne (tgt := 26) hx hb dX12_readAll_21 (by decide) (fun c6 => ?_) (fun c6 => ?_)
  · have b6 : ¬ (fI D H3 11 a0 10).toInt = (fI D H3 11 a0 11).toInt := fun z9 => c6 (i_eq.mpr z9)
    refine lv_iconst (v := 0) hx hb dX12_readAll_26 (by decide) ?_
    refine lv_istore_n (lv' := [(2, .int (0 : Int32)), (0, .ref a0), (1, .int x1)]) hx hb dX12_readAll_27 rfl hl (by decide) rfl (fun ls hl => ?_)
    have Lp28 : ∀ (n : Nat) (x2_28 : Int32) (H_28 : Heap) (L_28 : List Loc) (ls : Array Slot), (Sd D G [(30, 0), (30, 9), (30, 10), (30, 11), (30, 12), (30, 16), (31, 0), (30, 13), (31, 1)] s.heap H_28 L_28) → (0 ≤ x2_28.toInt ∧ x2_28.toInt ≤ 14) → ((fI D H_28 11 a0 9).toInt = 0) → 15 - x2_28.toInt ≤ (n : Int) → lv_has ls 3 [(2, .int x2_28), (0, .ref a0), (1, .int x1)] → W p l e (rmU 30 0 0) s m args below meth c H_28 L_28 0 0 Q (F0 m 28 ls []) := by
      intro n
      induction n with
      | zero =>
        intro x2_28 H_28 L_28 ls S_28 j28_0 u28_0 hn hl
        exact absurd hn (by omega)
      | succ n ih28 =>
        intro x2_28 H_28 L_28 ls S_28 j28_0 u28_0 hn hl
        refine lv_aload_n hx hb dX12_readAll_28 rfl (lv_at hl 1 rfl) ?_
        refine lv_iload_n hx hb dX12_readAll_29 rfl (lv_at hl 2 rfl) ?_
        refine lv_iload_n hx hb dX12_readAll_30 rfl (lv_at hl 0 rfl) ?_
        refine callV_Ei C S_28 (c_X12_readLine_t l D G a0 x1 x2_28 ga0 (by omega) (by omega)) kV_X12_238 ga0 (trivial) (by decide +kernel) dX12_readAll_31 hl.1 rfl rfl (by decide) cd_X12_readLine ⟨Nat.le_of_ble_eq_true rfl, Nat.le_of_ble_eq_true rfl, Nat.le_of_ble_eq_true rfl, Nat.le_of_ble_eq_true rfl, Nat.le_of_ble_eq_true rfl⟩ (fun v7 H7 L7 S7 K7 q7 => ?_)
        obtain ⟨q7, sa7⟩ := q7
        have y7_9 : (fI D H7 11 a0 9).toInt = (fI D H_28 11 a0 9).toInt := congrArg Int32.toInt (K7.fI ga0 rfl (by decide) (by decide +kernel))
        refine lv_if_ne (tgt := 39) hx hb dX12_readAll_34 (by decide) (fun c8 => ?_) (fun c8 => ?_)
        · have b8 : ¬ v7.toInt = (0 : Int32).toInt := fun z9 => c8 (i_eq.mpr z9)
          refine lv_aload_n hx hb dX12_readAll_39 rfl (lv_at hl 1 rfl) ?_
          refine callV_Ev C S7 (c_X12_blanks l D G a0 ga0) kV_X12_90 ga0 (trivial) (by decide +kernel) dX12_readAll_40 hl.1 rfl rfl (by decide) cd_X12_blanks ⟨Nat.le_of_ble_eq_true rfl, Nat.le_of_ble_eq_true rfl, Nat.le_of_ble_eq_true rfl, Nat.le_of_ble_eq_true rfl, Nat.le_of_ble_eq_true rfl⟩ (fun H9 L9 S9 K9 q9 => ?_)
          have y9_9 : (fI D H9 11 a0 9).toInt = (fI D H7 11 a0 9).toInt := congrArg Int32.toInt (K9.fI ga0 rfl (by decide) (by decide +kernel))
          refine lv_aload_n hx hb dX12_readAll_43 rfl (lv_at hl 1 rfl) ?_
          refine q_gi (T := TX12) C S9.1 ga0 10 kF_X12_78 dX12_readAll_44 rfl rfl (by decide) rfl (by decide) rfl ?_
          have r10 : 0 ≤ (fI D H9 11 a0 10).toInt ∧ (fI D H9 11 a0 10).toInt ≤ 400 := S9.1.rng ga0 rfl (by decide) rfl
          refine lv_aload_n hx hb dX12_readAll_47 rfl (lv_at hl 1 rfl) ?_
          refine q_gi (T := TX12) C S9.1 ga0 11 kF_X12_81 dX12_readAll_48 rfl rfl (by decide) rfl (by decide) rfl ?_
          have r11 : 0 ≤ (fI D H9 11 a0 11).toInt ∧ (fI D H9 11 a0 11).toInt ≤ 400 := S9.1.rng ga0 rfl (by decide) rfl
          refine lv_icmp_ne (tgt := 58) hx hb dX12_readAll_51 (by decide) (fun c12 => ?_) (fun c12 => ?_)
          · have b12 : ¬ (fI D H9 11 a0 10).toInt = (fI D H9 11 a0 11).toInt := fun z9 => c12 (i_eq.mpr z9)
            refine lv_aload_n hx hb dX12_readAll_58 rfl (lv_at hl 1 rfl) ?_
            refine lv_bipush (v := 59) hx hb dX12_readAll_59 (by decide) ?_
            refine lv_bipush (v := 59) hx hb dX12_readAll_61 (by decide) ?_
            have k_59 : (59 : Int32).toInt = 59 := by decide
            refine callV_Pi C S9.1 S9.2.1.2.1 (c_X12_isAt l D G a0 (59 : Int32) (59 : Int32) ga0) kV_X12_84 ga0 (trivial) dX12_readAll_63 hl.1 rfl rfl (by decide) cd_X12_isAt ⟨Nat.le_of_ble_eq_true rfl, Nat.le_of_ble_eq_true rfl, Nat.le_of_ble_eq_true rfl, Nat.le_of_ble_eq_true rfl, Nat.le_of_ble_eq_true rfl⟩ (fun v13 q13 => ?_)
            rcases q13 with q13 | q13
            · skip
              refine lv_if_ne (tgt := 71) hx hb dX12_readAll_66 (by decide) (fun c14 => ?_) (fun c14 => ?_)
              · have b14 : ¬ v13.toInt = (0 : Int32).toInt := fun z9 => c14 (i_eq.mpr z9)
                refine lv_aload_n hx hb dX12_readAll_71 rfl (lv_at hl 1 rfl) ?_
                refine lv_dup hx hb dX12_readAll_72 rfl ?_
                refine q_gi (T := TX12) C S9.1 ga0 10 kF_X12_78 dX12_readAll_73 rfl rfl (by decide) rfl (by decide) rfl ?_
                refine lv_iconst (v := 1) hx hb dX12_readAll_76 (by decide) ?_
                have k_1 : (1 : Int32).toInt = 1 := by decide
                refine lv_iadd hx hb dX12_readAll_77 ?_
                refine lv_topi (fun v15 ev15 => ?_)
                have f16 : v15.toInt = (fI D H9 11 a0 10).toInt + (1 : Int32).toInt := by rw [ev15]; exact i_add (by omega) (by omega)
                refine q_put (T := TX12) C S9 ga0 10 kF_X12_78 dX12_readAll_78 rfl rfl (by decide) (by decide) rfl rfl rfl rfl rfl (vok_i rfl (by omega) (by omega)) (by decide +kernel) (fun H17 L17 S17 P17 => ?_)
                have y17_9 : (fI D H17 11 a0 9).toInt = (fI D H9 11 a0 9).toInt := congrArg Int32.toInt (Pt.o P17 (by decide) (by decide))
                obtain ⟨v18, ev18⟩ : ∃ y : Int32, y = x2_28 + (1) := ⟨_, rfl⟩
                have f19 : v18.toInt = x2_28.toInt + (1) := by rw [ev18]; exact i_addc k_1 (by omega) (by omega)
                refine lv_iinc (v := v18) (lv' := [(2, .int v18), (0, .ref a0), (1, .int x1)]) hx hb dX12_readAll_81 hl (k := 0) rfl (by rw [ev18]; rfl) (by decide) rfl (fun ls hl => ?_)
                refine lv_goto (tgt := 28) hx hb dX12_readAll_84 (by decide) ?_
                exact ih28 v18 H17 L17 ls S17 (by omega) (by omega) (by omega) (lv_sub hl [0, 1, 2] rfl)
              · have b14 : v13.toInt = (0 : Int32).toInt := i_eq.mp c14
                exact absurd b14 (by omega)
            · skip
              refine lv_if_ne (tgt := 71) hx hb dX12_readAll_66 (by decide) (fun c20 => ?_) (fun c20 => ?_)
              · have b20 : ¬ v13.toInt = (0 : Int32).toInt := fun z9 => c20 (i_eq.mpr z9)
                exact absurd b20 (by omega)
              · have b20 : v13.toInt = (0 : Int32).toInt := i_eq.mp c20
                refine lv_iconst (v := -1) hx hb dX12_readAll_69 (by decide) ?_
                have k_m1 : (-1 : Int32).toInt = -1 := by decide
                exact retE_i hQ C S9 hr dX12_readAll_70 (⟨by omega, by omega⟩)
          · have b12 : (fI D H9 11 a0 10).toInt = (fI D H9 11 a0 11).toInt := i_eq.mp c12
            refine lv_iload_n hx hb dX12_readAll_54 rfl (lv_at hl 0 rfl) ?_
            refine lv_iconst (v := 1) hx hb dX12_readAll_55 (by decide) ?_
            have k_1 : (1 : Int32).toInt = 1 := by decide
            refine lv_iadd hx hb dX12_readAll_56 ?_
            refine lv_topi (fun v21 ev21 => ?_)
            have f22 : v21.toInt = x2_28.toInt + (1 : Int32).toInt := by rw [ev21]; exact i_add (by omega) (by omega)
            exact retE_i hQ C S9 hr dX12_readAll_57 (⟨by omega, by omega⟩)
        · have b8 : v7.toInt = (0 : Int32).toInt := i_eq.mp c8
          refine lv_iconst (v := -1) hx hb dX12_readAll_37 (by decide) ?_
          have k_m1 : (-1 : Int32).toInt = -1 := by decide
          exact retE_i hQ C S7 hr dX12_readAll_38 (⟨by omega, by omega⟩)
    exact Lp28 15 (0 : Int32) H3 L3 ls S3 (by omega) (by omega)  (by omega) (lv_sub hl [0, 1, 2] rfl)
  · have b6 : (fI D H3 11 a0 10).toInt = (fI D H3 11 a0 11).toInt := i_eq.mp c6
    refine lv_iconst (v := 0) hx hb dX12_readAll_24 (by decide) ?_
    exact retE_i hQ C S3 hr dX12_readAll_25 (⟨by omega, by omega⟩)
