set_option maxRecDepth 100000 in
set_option maxHeartbeats 4000000 in
theorem c_X6_numberAfter_f (l : Launch) (D : DD) (G : Nat → Nat) (a0 : Nat) (a1 n1 : Nat) (x2 : Int32) (x3 : Int32) (w : List Nat) (lo : Int) (hi : Int) (tp : Nat) (T : Tx) (b : Nat) (ga0 : G a0 = 20) (sa1 : D.1.2 99 a1 = n1 + 1) (ix2 : 0 ≤ x2.toInt ∧ x2.toInt ≤ 1000) (hw : Wc D a1 n1 w) (hlo : x2.toInt = lo) (hhi : x3.toInt = hi) : CE l D G yX6_numberAfter cX6_numberAfter 4 (some .int) 6 [.ref a0, .ref a1, .int x2, .int x3] (fun H => (True) ∧ (fR D H 6 a0 0 = tp ∧ TS D H tp T b)) [(2, 3), (2, 4), (2, 5), (2, 6), (2, 2)] (xI (fun H r H1 => (r.toInt = -1 ∨ (x2.toInt ≤ r.toInt ∧ r.toInt ≤ x3.toInt)) ∧ ((isW T b w = true ∧ num T (nx T b) lo hi ≠ -1 ∧ r.toInt = num T (nx T b) lo hi ∧ TS D H1 tp T (nx T (nx T b))) ∨ (isW T b w = true ∧ num T (nx T b) lo hi = -1 ∧ r.toInt = -1 ∧ (fI D H1 9 tp 2).toInt = (((nx T b) : Nat) : Int)) ∨ (isW T b w = false ∧ r.toInt = -1 ∧ (fI D H1 9 tp 2).toInt = (((b) : Nat) : Int))))) := by
  refine enter (by decide) (Nat.le_of_ble_eq_true rfl) ?_
  intro p e s m args below meth c ls Q hA hQ C hr hO hpre hl
  have hx := C.1
  have hb := C.2.1
  have S : Sd D G [(2, 3), (2, 4), (2, 5), (2, 6), (2, 2)] s.heap s.heap [] := Sd.start hO
  have hl : lv_has ls 4 [(0, .ref a0), (1, .ref a1), (2, .int x2), (3, .int x3)] := hl
  obtain ⟨hpre, hf⟩ := hpre
  obtain ⟨htp, ts0⟩ := hf
  have gtp : G tp = 2 := by rw [← htp]; exact hO.rol ga0 rfl (by decide) rfl
  have hT : T.2 ≤ 400 := ts0.le hO gtp
  refine lv_aload_n hx hb dX6_numberAfter_0 rfl (lv_at hl 0 rfl) ?_
  refine q_grS (T := TX6) C S.1 ga0 0 kF_X6_15 dX6_numberAfter_1 rfl rfl (by decide) rfl (by decide) kSF_X6_tape (fun g1 => ?_)
  rw [show fR D s.heap 6 a0 0 = tp from htp]
  refine lv_aload_n hx hb dX6_numberAfter_4 rfl (lv_at hl 1 rfl) ?_
  refine callV_Ei C S (c_X9_takeWord_f l D G tp a1 n1 w T b gtp sa1 hw) kV_X6_108 gtp (⟨trivial, ts0⟩) (by decide +kernel) dX6_numberAfter_5 hl.1 rfl rfl (by decide) cd_X9_takeWord ⟨Nat.le_of_ble_eq_true rfl, Nat.le_of_ble_eq_true rfl, Nat.le_of_ble_eq_true rfl, Nat.le_of_ble_eq_true rfl, Nat.le_of_ble_eq_true rfl⟩ (fun v2 H2 L2 S2 K2 q2 => ?_)
  obtain ⟨q2, fq2⟩ := q2
  rcases fq2 with ⟨c2, y2, z2, ts2⟩ | ⟨e2, y2, z2, wr2⟩
  · obtain ⟨w2, rfl⟩ := tkW_t y2
    have k_0 : (0 : Int32).toInt = 0 := by decide
    refine lv_if_ne (tgt := 13) hx hb dX6_numberAfter_8 (by decide) (fun c3 => ?_) (fun c3 => ?_)
    · have b3 : ¬ v2.toInt = (0 : Int32).toInt := fun z9 => c3 (i_eq.mpr z9)
      refine lv_aload_n hx hb dX6_numberAfter_13 rfl (lv_at hl 0 rfl) ?_
      refine q_grS (T := TX6) C S2.1 ga0 0 kF_X6_15 dX6_numberAfter_14 rfl rfl (by decide) rfl (by decide) kSF_X6_tape (fun g4 => ?_)
      rw [show fR D H2 6 a0 0 = tp from (S2.2.1.fR ga0 rfl (by decide) (by decide +kernel)).trans htp]
      refine lv_iload_n hx hb dX6_numberAfter_17 rfl (lv_at hl 2 rfl) ?_
      refine lv_iload_n hx hb dX6_numberAfter_18 rfl (lv_at hl 3 rfl) ?_
      refine callV_Ei C S2 (c_X9_takeNumber_f l D G tp x2 x3 lo hi T (nx T b) gtp (by omega) hlo hhi) kV_X6_86 gtp (⟨trivial, ts2⟩) (by decide +kernel) dX6_numberAfter_19 hl.1 rfl rfl (by decide) cd_X9_takeNumber ⟨Nat.le_of_ble_eq_true rfl, Nat.le_of_ble_eq_true rfl, Nat.le_of_ble_eq_true rfl, Nat.le_of_ble_eq_true rfl, Nat.le_of_ble_eq_true rfl⟩ (fun v5 H5 L5 S5 K5 q5 => ?_)
      obtain ⟨q5, fq5⟩ := q5
      rcases fq5 with ⟨z5, y5, ts5⟩ | ⟨z5, y5, wr5⟩
      · skip
        exact retE_i hQ C S5 hr dX6_numberAfter_22 (⟨by omega, Or.inl ⟨w2, y5, by omega, ts5⟩⟩)
      · skip
        exact retE_i hQ C S5 hr dX6_numberAfter_22 (⟨by omega, Or.inr (Or.inl ⟨w2, y5, by omega, wr5⟩)⟩)
    · have b3 : v2.toInt = (0 : Int32).toInt := i_eq.mp c3
      exact absurd b3 (by omega)
  · obtain ⟨w2, rfl⟩ := tkW_f y2
    have k_0 : (0 : Int32).toInt = 0 := by decide
    refine lv_if_ne (tgt := 13) hx hb dX6_numberAfter_8 (by decide) (fun c6 => ?_) (fun c6 => ?_)
    · have b6 : ¬ v2.toInt = (0 : Int32).toInt := fun z9 => c6 (i_eq.mpr z9)
      exact absurd b6 (by omega)
    · have b6 : v2.toInt = (0 : Int32).toInt := i_eq.mp c6
      refine lv_iconst (v := -1) hx hb dX6_numberAfter_11 (by decide) ?_
      have k_m1 : (-1 : Int32).toInt = -1 := by decide
      exact retE_i hQ C S2 hr dX6_numberAfter_12 (⟨by omega, Or.inr (Or.inr ⟨w2, by omega, wr2⟩)⟩)
