set_option maxRecDepth 100000 in
set_option maxHeartbeats 4000000 in
theorem c_X12_readNumber_f (l : Launch) (D : DD) (G : Nat → Nat) (a0 : Nat) (x1 : Int32) (x2 : Int32) (x3 : Int32) (hi : Int) (at9 : Int) (sg : Sg) (T : Tx) (b : Nat) (ga0 : G a0 = 30) (ix1 : 4 ≤ x1.toInt ∧ x1.toInt ≤ 8) (ix2 : 0 ≤ x2.toInt ∧ x2.toInt ≤ 1000) (hat : x1.toInt = at9) (hlo : x2.toInt = 0) (hhi : x3.toInt = hi) (h999 : x3.toInt ≤ 999) : CE l D G yX12_readNumber cX12_readNumber 5 (some .boolean) 3 [.ref a0, .int x1, .int x2, .int x3] (fun H => (True) ∧ (RB D H a0 T b ∧ MV D H a0 sg ∧ PV sg)) [(30, 10), (30, 12), (31, 0), (31, 1)] (xI (fun H r H1 => (0 ≤ r.toInt ∧ r.toInt ≤ 1) ∧ (RRP D H1 a0 T (nmF T sg b hi at9) r))) := by
  refine enter (by decide) (Nat.le_of_ble_eq_true rfl) ?_
  intro p e s m args below meth c ls Q hA hQ C hr hO hpre hl
  have hx := C.1
  have hb := C.2.1
  have S : Sd D G [(30, 10), (30, 12), (31, 0), (31, 1)] s.heap s.heap [] := Sd.start hO
  have hl : lv_has ls 5 [(0, .ref a0), (1, .int x1), (2, .int x2), (3, .int x3)] := hl
  obtain ⟨hpre, hf⟩ := hpre
  obtain ⟨ts0, mv0, pv0⟩ := hf
  have hT : T.2 ≤ 400 := ts0.le hO ga0
  refine lv_aload_n hx hb dX12_readNumber_0 rfl (lv_at hl 0 rfl) ?_
  refine lv_iload_n hx hb dX12_readNumber_1 rfl (lv_at hl 2 rfl) ?_
  refine lv_iload_n hx hb dX12_readNumber_2 rfl (lv_at hl 3 rfl) ?_
  refine callV_Ei C S (c_X12_number_f l D G a0 x2 x3 0 hi T b ga0 (by omega) hlo hhi h999) kV_X12_109 ga0 (⟨trivial, ts0⟩) (by decide +kernel) dX12_readNumber_3 hl.1 rfl rfl (by decide) cd_X12_number ⟨Nat.le_of_ble_eq_true rfl, Nat.le_of_ble_eq_true rfl, Nat.le_of_ble_eq_true rfl, Nat.le_of_ble_eq_true rfl, Nat.le_of_ble_eq_true rfl⟩ (fun v1 H1 L1 S1 K1 q1 => ?_)
  obtain ⟨q1, fq1⟩ := q1
  have mv1 := mv0.keep S.1 ga0 K1 (by decide +kernel) (by decide +kernel)
  rcases fq1 with ⟨z1, y1, ts1, bg1⟩ | ⟨z1, y1, wr1⟩
  · skip
    refine lv_istore (lv' := [(4, .int v1), (0, .ref a0), (1, .int x1), (2, .int x2), (3, .int x3)]) hx hb dX12_readNumber_6 hl (by decide) rfl (fun ls hl => ?_)
    refine lv_aload_n hx hb dX12_readNumber_8 rfl (lv_at hl 1 rfl) ?_
    refine q_gr (T := TX12) C S1.1 ga0 1 kF_X12_13 dX12_readNumber_9 rfl rfl (by decide) rfl (by decide) rfl (fun g2 => ?_)
    refine lv_iload_n hx hb dX12_readNumber_12 rfl (lv_at hl 2 rfl) ?_
    refine lv_iload hx hb dX12_readNumber_13 (lv_at hl 0 rfl) ?_
    have k_0 : (0 : Int32).toInt = 0 := by decide
    refine lv_if_ge (tgt := 27) hx hb dX12_readNumber_15 (by decide) (fun c3 => ?_) (fun c3 => ?_)
    · have b3 : (0 : Int32).toInt ≤ v1.toInt := i_le.mp c3
      refine lv_iload hx hb dX12_readNumber_27 (lv_at hl 0 rfl) ?_
      have n4 : aN H1 (fR D H1 11 a0 1) = 2052 := len_31 S1.1 g2
      refine q_iast C S1 g2 (by omega) (by omega) dX12_readNumber_29 rfl (by decide) (by decide +kernel) (fun _ _ h => wk_low _ _ (by omega) (fun h9 => by omega) (fun h9 => by omega) (fun h9 => by omega) (fun j hj h9 => by omega) h) (fun H5 L5 S5 P5 => ?_) (hs := fun _ => Or.inl (by decide +kernel))
      have rb5 := ts1.cells S1.1 ga0 g2 (by decide) (by decide) P5.2.2.1
      have bg5 : (fI D H5 11 a0 12).toInt = ((b : Nat) : Int) := by rw [Pa.f P5 (ne_role ga0 g2 (by decide))]; exact bg1
      have mv5 := MV.num (at9 := at9) (v := num T b 0 hi) mv1 S1.1 ga0 rfl P5 (by omega) ⟨by omega, by omega⟩ (by omega)
      refine lv_iload hx hb dX12_readNumber_30 (lv_at hl 0 rfl) ?_
      refine lv_if_lt (tgt := 39) hx hb dX12_readNumber_32 (by decide) (fun c6 => ?_) (fun c6 => ?_)
      · have b6 : v1.toInt < (0 : Int32).toInt := i_lt.mp c6
        exact absurd b6 (by omega)
      · have b6 : ¬ v1.toInt < (0 : Int32).toInt := fun z9 => c6 (i_lt.mpr z9)
        refine lv_iconst (v := 1) hx hb dX12_readNumber_35 (by decide) ?_
        refine lv_goto (tgt := 40) hx hb dX12_readNumber_36 (by decide) ?_
        have k_1 : (1 : Int32).toInt = 1 := by decide
        exact retE_z hQ C S5 hr dX12_readNumber_40 (z01 (by omega) (by omega)) (⟨by omega, RRP.ok (s1 := (if at9 = 7 then sup sg 15 (num T b 0 hi) else sg)) (by simp [nmF, y1]) (by omega) rb5 (mv5) (PV.nmF9 pv0)⟩)
    · have b3 : ¬ (0 : Int32).toInt ≤ v1.toInt := fun z9 => c3 (i_le.mpr z9)
      exact absurd b3 (by omega)
  · skip
    refine lv_istore (lv' := [(4, .int v1), (0, .ref a0), (1, .int x1), (2, .int x2), (3, .int x3)]) hx hb dX12_readNumber_6 hl (by decide) rfl (fun ls hl => ?_)
    refine lv_aload_n hx hb dX12_readNumber_8 rfl (lv_at hl 1 rfl) ?_
    refine q_gr (T := TX12) C S1.1 ga0 1 kF_X12_13 dX12_readNumber_9 rfl rfl (by decide) rfl (by decide) rfl (fun g7 => ?_)
    refine lv_iload_n hx hb dX12_readNumber_12 rfl (lv_at hl 2 rfl) ?_
    refine lv_iload hx hb dX12_readNumber_13 (lv_at hl 0 rfl) ?_
    have k_0 : (0 : Int32).toInt = 0 := by decide
    refine lv_if_ge (tgt := 27) hx hb dX12_readNumber_15 (by decide) (fun c8 => ?_) (fun c8 => ?_)
    · have b8 : (0 : Int32).toInt ≤ v1.toInt := i_le.mp c8
      exact absurd b8 (by omega)
    · have b8 : ¬ (0 : Int32).toInt ≤ v1.toInt := fun z9 => c8 (i_le.mpr z9)
      refine lv_aload_n hx hb dX12_readNumber_18 rfl (lv_at hl 1 rfl) ?_
      refine q_gr (T := TX12) C S1.1 ga0 1 kF_X12_13 dX12_readNumber_19 rfl rfl (by decide) rfl (by decide) rfl (fun g9 => ?_)
      refine lv_iload_n hx hb dX12_readNumber_22 rfl (lv_at hl 2 rfl) ?_
      have n10 : aN H1 (fR D H1 11 a0 1) = 2052 := len_31 S1.1 g9
      refine q_iald C S1.1 g9 (by omega) (by omega) dX12_readNumber_23 rfl (by decide) ?_
      refine lv_topi (fun v11 ev11 => ?_)
      refine lv_goto (tgt := 29) hx hb dX12_readNumber_24 (by decide) ?_
      refine q_iast C S1 g7 (by omega) (by omega) dX12_readNumber_29 rfl (by decide) (by decide +kernel) (fun _ _ h => wk_low _ _ (by omega) (fun h9 => by omega) (fun h9 => by omega) (fun h9 => by omega) (fun j hj h9 => by omega) h) (fun H12 L12 S12 P12 => ?_) (hs := fun _ => Or.inl (by decide +kernel))
      have bg12 : (fI D H12 11 a0 12).toInt = ((b : Nat) : Int) := by rw [Pa.f P12 (ne_role ga0 g7 (by decide))]; exact wr1
      have mv12 := hO
      refine lv_iload hx hb dX12_readNumber_30 (lv_at hl 0 rfl) ?_
      refine lv_if_lt (tgt := 39) hx hb dX12_readNumber_32 (by decide) (fun c13 => ?_) (fun c13 => ?_)
      · have b13 : v1.toInt < (0 : Int32).toInt := i_lt.mp c13
        refine lv_iconst (v := 0) hx hb dX12_readNumber_39 (by decide) ?_
        exact retE_z hQ C S12 hr dX12_readNumber_40 (z01 (by omega) (by omega)) (⟨by omega, RRP.no (s1 := sg) (by simp [nmF, y1]) (by omega) bg12⟩)
      · have b13 : ¬ v1.toInt < (0 : Int32).toInt := fun z9 => c13 (i_lt.mpr z9)
        exact absurd b13 (by omega)
