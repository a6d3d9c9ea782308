set_option maxRecDepth 100000 in
set_option maxHeartbeats 4000000 in
theorem c_L_parish (l : Launch) (D : DD) (G : Nat → Nat) (a0 : Nat)  (o : Nat) (T : Tx) (V K : Sg) (ga0 : G a0 = 1)  (h0 : G o = 0) : CW l D G yL_parish cL_parish 3 [(0, 8, 11, 13), (0, 8, 14, 15)] 11 1 6 [.ref a0, .ref o] o a0 (fun H => (Dr D G H (fR D H 10 a0 2) ∧ G (fR D H 6 (fR D H 10 a0 6) 2) = 23) ∧ tT D H (fR D H 10 a0 0) = T ∧ fR D H 6 (fR D H 10 a0 6) 0 = fR D H 10 a0 0 ∧ (fI D H 6 (fR D H 10 a0 6) 1).toInt = 14 ∧ fR D H 6 (fR D H 10 a0 6) 2 = fR D H 10 a0 2 ∧ CI D H a0 V K ∧ PV V) [(7, 0), (7, 1), (7, 2), (7, 3), (7, 4), (25, 0), (25, 1), (25, 2), (25, 3), (25, 4), (25, 5), (11, 0), (9, 1), (9, 2), (23, 3), (23, 4), (23, 5), (23, 6), (23, 7), (23, 8), (23, 9), (23, 10), (23, 11), (23, 12), (23, 13), (2, 3), (2, 4), (2, 5), (2, 6), (2, 2), (8, 0), (8, 1), (8, 2), (8, 3), (8, 4), (8, 5), (4, 3), (4, 4), (4, 5), (4, 6), (4, 7), (4, 8), (4, 9), (4, 10), (4, 11), (4, 12), (4, 13), (1, 9), (2, 1), (16, 2)] (fun H r H1 => tln D H1 a0 = 0 ∧ ((r.toInt = 0 ∧ (parF T V).1 = true ∧ V 2 < 12 ∧ (eL H1 o).toInt = V 2 + 1 ∧ (fI D H1 10 a0 9).toInt = -1 ∧ CI D H1 a0 (sup (parF T V).2.2 2 (V 2 + 1)) K) ∨ (r.toInt = 1 ∧ (parF T V).1 = false ∧ (fI D H1 10 a0 9).toInt = (((parF T V).2.1 : Nat) : Int) ∧ CI D H1 a0 V K) ∨ (r.toInt = 2 ∧ (parF T V).1 = true ∧ 12 ≤ V 2 ∧ (fI D H1 10 a0 9).toInt = -1 ∧ CI D H1 a0 V K))) := by
  refine enterW (by decide) (Nat.le_of_ble_eq_true rfl) ?_
  intro hl0 p e s m args below meth c ls Q hA hQ htab C hr hO hpre hla hl
  have hx := C.1
  have hb := C.2.1
  have hl : lv_has ls 3 [(0, .ref a0), (1, .ref o)] := hl
  refine lv_aload_n hx hb dL_parish_0 rfl (lv_at hl 1 rfl) ?_
  refine lv_iconst (v := 0) hx hb dL_parish_1 (by decide) ?_
  refine lv_aload_n hx hb dL_parish_2 rfl (lv_at hl 0 rfl) ?_
  refine callV_XW (As := []) hl0 C hO h0 hla (c_X11_parish l D G a0 T V K ga0) kV_L_7 ga0 hpre dL_parish_3 hl.1 rfl rfl (by decide) cd_X11_parish ⟨Nat.le_of_ble_eq_true rfl, Nat.le_of_ble_eq_true rfl, Nat.le_of_ble_eq_true rfl, Nat.le_of_ble_eq_true rfl, Nat.le_of_ble_eq_true rfl⟩ (fun v H1 L1 S1 K1 q1 => ?_) (fun En H1 L1 q ce S1 K1 X1 h7 h8 h9 => ?_)
  · obtain ⟨r1, rfl, q1⟩ := q1
    have qf := q1.2
    have tz : tln D H1 a0 = 0 := q1.1
    refine lv_i2l hx hb dL_parish_6 rfl ?_
    refine w_last C S1 h0 h0 ga0 dL_parish_7 (fun H2 L2 S2 e2 eo e3 => ?_)
    refine lv_goto (tgt := 17) hx hb dL_parish_8 (by decide) ?_
    refine lv_iconst (v := 0) hx hb dL_parish_17 (by decide) ?_
    have hne : a0 ≠ o := fun z => by rw [z, h0] at ga0; exact absurd ga0 (by decide)
    have wb : fI D H2 10 a0 9 = fI D H1 10 a0 9 := congrArg vI (fV_of (e3 a0 hne) 10 9)
    exact w_ret hQ C S2 hr dL_parish_18 (by decide) (by decide) (⟨e2.trans tz, Or.inl ⟨by decide, qf.1, qf.2.1, by rw [eo, Int32.toInt_toInt64]; exact qf.2.2.1, by rw [wb]; exact qf.2.2.2.1, qf.2.2.2.2.out S1.1 ga0 h0 S1.2.2.1 e3 S2.2.2.1⟩⟩)
  · obtain ⟨X1, tz, cx, qf⟩ := X1
    have tz : tln D H1 a0 = 0 := tz
    rcases X1 with rfl | rfl
    · refine w_c1 C htab ⟨by decide, by decide⟩ (by decide) kl_13 kc_IAE h7 h8 h9 ?_
      refine lv_astore_n (lv' := [(2, .ref q), (0, .ref a0), (1, .ref o)]) hx hb dL_parish_11 rfl hl (by decide) rfl (fun ls hl => ?_)
      refine lv_iconst (v := 1) hx hb dL_parish_12 (by decide) ?_
      exact w_ret hQ C S1 hr dL_parish_13 (by decide) (by decide) ⟨tz, qf.elim (fun h9 => Or.inr (Or.inl ⟨by decide, h9.2.1, h9.2.2, cx⟩)) (fun h9 => absurd h9.1 (by simp))⟩
    · refine w_c2 C htab ⟨by decide, by decide⟩ (by decide) (by decide) kl_13 (by decide +kernel) kl_15 kc_UOE h7 h8 h9 ?_
      refine lv_astore_n (lv' := [(2, .ref q), (0, .ref a0), (1, .ref o)]) hx hb dL_parish_14 rfl hl (by decide) rfl (fun ls hl => ?_)
      refine lv_iconst (v := 2) hx hb dL_parish_15 (by decide) ?_
      exact w_ret hQ C S1 hr dL_parish_16 (by decide) (by decide) ⟨tz, qf.elim (fun h9 => absurd h9.1 (by simp)) (fun h9 => Or.inr (Or.inr ⟨by decide, h9.2.1, h9.2.2.1, h9.2.2.2, cx⟩))⟩

set_option maxRecDepth 100000 in
set_option maxHeartbeats 4000000 in
theorem c_L_law (l : Launch) (D : DD) (G : Nat → Nat) (a0 : Nat)  (o : Nat) (T : Tx) (ga0 : G a0 = 1)  (h0 : G o = 0) : CW l D G yL_law cL_law 3 [(0, 8, 11, 13)] 24 5 455 [.ref a0, .ref o] o a0 (fun H => tT D H (fR D H 10 a0 0) = T ∧ fR D H 4 (fR D H 10 a0 7) 0 = fR D H 10 a0 0 ∧ (fI D H 4 (fR D H 10 a0 7) 1).toInt = 12) [(2, 3), (2, 4), (2, 5), (2, 6), (2, 2), (22, 0), (21, 3), (21, 4), (1, 9), (2, 1), (4, 13), (16, 2), (12, 0), (12, 1), (12, 2), (12, 3), (13, 0), (14, 0), (15, 0)] (fun H r H1 => tln D H1 a0 = 0 ∧ ((r.toInt = 0 ∧ (lawF T).1 = true ∧ (eL H1 o).toInt = (((lawF T).2.2 : Nat) : Int) ∧ (fI D H1 10 a0 9).toInt = -1) ∨ (r.toInt = 1 ∧ (lawF T).1 = false ∧ (fI D H1 10 a0 9).toInt = (((lawF T).2.1 : Nat) : Int))) ∧ (pS D H1 a0 = 0 ∨ pS D H1 a0 = pS D H a0)) := by
  refine enterW (by decide) (Nat.le_of_ble_eq_true rfl) ?_
  intro hl0 p e s m args below meth c ls Q hA hQ htab C hr hO hpre hla hl
  have hx := C.1
  have hb := C.2.1
  have hl : lv_has ls 3 [(0, .ref a0), (1, .ref o)] := hl
  refine lv_aload_n hx hb dL_law_0 rfl (lv_at hl 1 rfl) ?_
  refine lv_iconst (v := 0) hx hb dL_law_1 (by decide) ?_
  refine lv_aload_n hx hb dL_law_2 rfl (lv_at hl 0 rfl) ?_
  refine callV_XG (As := []) hl0 C hO h0 hla (c_X11_law l D G a0 T ga0) kV_L_17 ga0 hpre dL_law_3 hl.1 rfl rfl (by decide) cd_X11_law ⟨Nat.le_of_ble_eq_true rfl, Nat.le_of_ble_eq_true rfl, Nat.le_of_ble_eq_true rfl, Nat.le_of_ble_eq_true rfl, Nat.le_of_ble_eq_true rfl⟩ (fun v G1 H1 L1 S1 q1 => ?_) (fun En H1 L1 q ce S1 X1 h7 h8 h9 => ?_)
  · obtain ⟨r1, rfl, q1⟩ := q1
    have qf := q1.2
    have tz : tln D H1 a0 = 0 := q1.1
    have go1 : G1 o = 0 := by obtain ⟨f9, hf9⟩ := hla; rw [S1.2.2.2.2.1 o (Array.getElem?_eq_some_iff.mp hf9).1]; exact h0
    have ga1 : G1 a0 = 1 := by rw [S1.2.2.2.2.1 a0 (hO.lt (by rw [ga0]; decide))]; exact ga0
    refine lv_i2l hx hb dL_law_6 rfl ?_
    refine w_last C S1 go1 h0 ga1 dL_law_7 (fun H2 L2 S2 e2 eo e3 => ?_)
    refine lv_goto (tgt := 14) hx hb dL_law_8 (by decide) ?_
    refine lv_iconst (v := 0) hx hb dL_law_14 (by decide) ?_
    have hne : a0 ≠ o := fun z => by rw [z, h0] at ga0; exact absurd ga0 (by decide)
    have wb : fI D H2 10 a0 9 = fI D H1 10 a0 9 := congrArg vI (fV_of (e3 a0 hne) 10 9)
    exact w_ret hQ C S2 hr dL_law_15 (by decide) (by decide) (⟨e2.trans tz, Or.inl ⟨by decide, qf.1, by rw [eo, Int32.toInt_toInt64]; exact qf.2.1, by rw [wb]; exact qf.2.2.1⟩, Or.inl ((pS_o S1.1 ga1 e3 go1).trans qf.2.2.2)⟩)
  · obtain ⟨X1, tz, qf⟩ := X1
    have tz : tln D H1 a0 = 0 := tz
    subst X1
    refine w_c1 C htab ⟨by decide, by decide⟩ (by decide) kl_13 kc_IAE h7 h8 h9 ?_
    refine lv_astore_n (lv' := [(2, .ref q), (0, .ref a0), (1, .ref o)]) hx hb dL_law_11 rfl hl (by decide) rfl (fun ls hl => ?_)
    refine lv_iconst (v := 1) hx hb dL_law_12 (by decide) ?_
    exact w_ret hQ C S1 hr dL_law_13 (by decide) (by decide) ⟨tz, Or.inr ⟨by decide, qf.1, qf.2.1⟩, Or.inr qf.2.2⟩

set_option maxRecDepth 100000 in
set_option maxHeartbeats 4000000 in
theorem c_L_house (l : Launch) (D : DD) (G : Nat → Nat) (a0 : Nat) (x1 : Int32) (x2 : Int32) (o : Nat) (ga0 : G a0 = 1)  (h0 : G o = 0) : CW l D G yL_house cL_house 5 [(0, 10, 13, 24), (0, 10, 17, 26)] 6 2 12 [.ref a0, .int x1, .int x2, .ref o] o a0 (fun _ => True) [(14, 0), (15, 0)] (fun H _ H1 => tln D H1 a0 = tln D H a0) := by
  refine enterW (by decide) (Nat.le_of_ble_eq_true rfl) ?_
  intro hl0 p e s m args below meth c ls Q hA hQ htab C hr hO hpre hla hl
  have hx := C.1
  have hb := C.2.1
  have hl : lv_has ls 5 [(0, .ref a0), (1, .int x1), (2, .int x2), (3, .ref o)] := hl
  refine lv_aload_n hx hb dL_house_0 rfl (lv_at hl 3 rfl) ?_
  refine lv_iconst (v := 0) hx hb dL_house_1 (by decide) ?_
  refine lv_aload_n hx hb dL_house_2 rfl (lv_at hl 0 rfl) ?_
  refine lv_iload_n hx hb dL_house_3 rfl (lv_at hl 1 rfl) ?_
  refine lv_iload_n hx hb dL_house_4 rfl (lv_at hl 2 rfl) ?_
  refine callV_XW (As := [.int x1, .int x2]) hl0 C hO h0 hla (c_X11_house l D G a0 x1 x2 ga0) kV_L_20 ga0 trivial dL_house_5 hl.1 rfl rfl (by decide) cd_X11_house ⟨Nat.le_of_ble_eq_true rfl, Nat.le_of_ble_eq_true rfl, Nat.le_of_ble_eq_true rfl, Nat.le_of_ble_eq_true rfl, Nat.le_of_ble_eq_true rfl⟩ (fun v H1 L1 S1 K1 q1 => ?_) (fun En H1 L1 q ce S1 K1 X1 h7 h8 h9 => ?_)
  · obtain ⟨r1, rfl, q1⟩ := q1
    have tz : tln D H1 a0 = tln D s.heap a0 := tlW hO ga0 K1 (by decide +kernel) (by decide +kernel)
    refine lv_i2l hx hb dL_house_8 rfl ?_
    refine w_last C S1 h0 h0 ga0 dL_house_9 (fun H2 L2 S2 e2 eo e3 => ?_)
    refine lv_goto (tgt := 21) hx hb dL_house_10 (by decide) ?_
    refine lv_iconst (v := 0) hx hb dL_house_21 (by decide) ?_
    exact w_ret hQ C S2 hr dL_house_22 (by decide) (by decide) (e2.trans tz)
  · have tz : tln D H1 a0 = tln D s.heap a0 := tlW hO ga0 K1 (by decide +kernel) (by decide +kernel)
    rcases X1 with rfl | rfl
    · refine w_c1 C htab ⟨by decide, by decide⟩ (by decide) kl_24 kc_IOB h7 h8 h9 ?_
      refine lv_astore (lv' := [(4, .ref q), (0, .ref a0), (1, .int x1), (2, .int x2), (3, .ref o)]) hx hb dL_house_13 hl (by decide) rfl (fun ls hl => ?_)
      refine lv_iconst (v := 1) hx hb dL_house_15 (by decide) ?_
      exact w_ret hQ C S1 hr dL_house_16 (by decide) (by decide) tz
    · refine w_c2 C htab ⟨by decide, by decide⟩ (by decide) (by decide) kl_24 (by decide +kernel) kl_26 kc_NSE h7 h8 h9 ?_
      refine lv_astore (lv' := [(4, .ref q), (0, .ref a0), (1, .int x1), (2, .int x2), (3, .ref o)]) hx hb dL_house_17 hl (by decide) rfl (fun ls hl => ?_)
      refine lv_iconst (v := 2) hx hb dL_house_19 (by decide) ?_
      exact w_ret hQ C S1 hr dL_house_20 (by decide) (by decide) tz

set_option maxRecDepth 100000 in
set_option maxHeartbeats 4000000 in
theorem c_L_hearth (l : Launch) (D : DD) (G : Nat → Nat) (a0 : Nat) (x1 : Int32) (x2 : Int32) (o : Nat) (ga0 : G a0 = 1)  (h0 : G o = 0) : CW l D G yL_hearth cL_hearth 5 [(0, 10, 13, 24), (0, 10, 17, 26)] 5 2 12 [.ref a0, .int x1, .int x2, .ref o] o a0 (fun _ => True) [(14, 0), (15, 0)] (fun H _ H1 => tln D H1 a0 = tln D H a0) := by
  refine enterW (by decide) (Nat.le_of_ble_eq_true rfl) ?_
  intro hl0 p e s m args below meth c ls Q hA hQ htab C hr hO hpre hla hl
  have hx := C.1
  have hb := C.2.1
  have hl : lv_has ls 5 [(0, .ref a0), (1, .int x1), (2, .int x2), (3, .ref o)] := hl
  refine lv_aload_n hx hb dL_hearth_0 rfl (lv_at hl 3 rfl) ?_
  refine lv_iconst (v := 0) hx hb dL_hearth_1 (by decide) ?_
  refine lv_aload_n hx hb dL_hearth_2 rfl (lv_at hl 0 rfl) ?_
  refine lv_iload_n hx hb dL_hearth_3 rfl (lv_at hl 1 rfl) ?_
  refine lv_iload_n hx hb dL_hearth_4 rfl (lv_at hl 2 rfl) ?_
  refine callV_XW (As := [.int x1, .int x2]) hl0 C hO h0 hla (c_X11_hearth l D G a0 x1 x2 ga0) kV_L_28 ga0 trivial dL_hearth_5 hl.1 rfl rfl (by decide) cd_X11_hearth ⟨Nat.le_of_ble_eq_true rfl, Nat.le_of_ble_eq_true rfl, Nat.le_of_ble_eq_true rfl, Nat.le_of_ble_eq_true rfl, Nat.le_of_ble_eq_true rfl⟩ (fun v H1 L1 S1 K1 q1 => ?_) (fun En H1 L1 q ce S1 K1 X1 h7 h8 h9 => ?_)
  · obtain ⟨r1, rfl, q1⟩ := q1
    have tz : tln D H1 a0 = tln D s.heap a0 := tlW hO ga0 K1 (by decide +kernel) (by decide +kernel)
    refine lv_i2l hx hb dL_hearth_8 rfl ?_
    refine w_last C S1 h0 h0 ga0 dL_hearth_9 (fun H2 L2 S2 e2 eo e3 => ?_)
    refine lv_goto (tgt := 21) hx hb dL_hearth_10 (by decide) ?_
    refine lv_iconst (v := 0) hx hb dL_hearth_21 (by decide) ?_
    exact w_ret hQ C S2 hr dL_hearth_22 (by decide) (by decide) (e2.trans tz)
  · have tz : tln D H1 a0 = tln D s.heap a0 := tlW hO ga0 K1 (by decide +kernel) (by decide +kernel)
    rcases X1 with rfl | rfl
    · refine w_c1 C htab ⟨by decide, by decide⟩ (by decide) kl_24 kc_IOB h7 h8 h9 ?_
      refine lv_astore (lv' := [(4, .ref q), (0, .ref a0), (1, .int x1), (2, .int x2), (3, .ref o)]) hx hb dL_hearth_13 hl (by decide) rfl (fun ls hl => ?_)
      refine lv_iconst (v := 1) hx hb dL_hearth_15 (by decide) ?_
      exact w_ret hQ C S1 hr dL_hearth_16 (by decide) (by decide) tz
    · refine w_c2 C htab ⟨by decide, by decide⟩ (by decide) (by decide) kl_24 (by decide +kernel) kl_26 kc_NSE h7 h8 h9 ?_
      refine lv_astore (lv' := [(4, .ref q), (0, .ref a0), (1, .int x1), (2, .int x2), (3, .ref o)]) hx hb dL_hearth_17 hl (by decide) rfl (fun ls hl => ?_)
      refine lv_iconst (v := 2) hx hb dL_hearth_19 (by decide) ?_
      exact w_ret hQ C S1 hr dL_hearth_20 (by decide) (by decide) tz

set_option maxRecDepth 100000 in
set_option maxHeartbeats 4000000 in
theorem c_L_wall (l : Launch) (D : DD) (G : Nat → Nat) (a0 : Nat) (x1 : Int32) (o : Nat) (ga0 : G a0 = 1)  (h0 : G o = 0) : CW l D G yL_wall cL_wall 4 [(0, 9, 12, 24), (0, 9, 15, 35)] 4 2 12 [.ref a0, .int x1, .ref o] o a0 (fun _ => True) [(7, 0), (7, 1), (7, 2), (7, 3), (7, 4), (8, 0), (8, 1), (8, 2), (8, 3), (8, 4), (8, 5), (11, 0), (9, 1), (9, 2), (4, 3), (4, 4), (4, 5), (4, 6), (4, 7), (4, 8), (4, 9), (4, 10), (4, 11), (4, 12), (4, 13), (16, 1), (16, 2)] (fun H _ H1 => (tln D H1 a0 = tln D H a0) ∧ ∀ Vv Kv : Sg, CI D H a0 Vv Kv → CI D H1 a0 Vv Kv) := by
  refine enterW (by decide) (Nat.le_of_ble_eq_true rfl) ?_
  intro hl0 p e s m args below meth c ls Q hA hQ htab C hr hO hpre hla hl
  have hx := C.1
  have hb := C.2.1
  have hl : lv_has ls 4 [(0, .ref a0), (1, .int x1), (2, .ref o)] := hl
  refine lv_aload_n hx hb dL_wall_0 rfl (lv_at hl 2 rfl) ?_
  refine lv_iconst (v := 0) hx hb dL_wall_1 (by decide) ?_
  refine lv_aload_n hx hb dL_wall_2 rfl (lv_at hl 0 rfl) ?_
  refine lv_iload_n hx hb dL_wall_3 rfl (lv_at hl 1 rfl) ?_
  refine callV_XW (As := [.int x1]) hl0 C hO h0 hla (c_X11_wall l D G a0 x1 ga0) kV_L_31 ga0 trivial dL_wall_4 hl.1 rfl rfl (by decide) cd_X11_wall ⟨Nat.le_of_ble_eq_true rfl, Nat.le_of_ble_eq_true rfl, Nat.le_of_ble_eq_true rfl, Nat.le_of_ble_eq_true rfl, Nat.le_of_ble_eq_true rfl⟩ (fun v H1 L1 S1 K1 q1 => ?_) (fun En H1 L1 q ce S1 K1 X1 h7 h8 h9 => ?_)
  · obtain ⟨r1, rfl, q1⟩ := q1
    obtain ⟨q1, rq1⟩ := q1
    have tz : tln D H1 a0 = tln D s.heap a0 := tlW hO ga0 K1 (by decide +kernel) (by decide +kernel)
    refine lv_i2l hx hb dL_wall_7 rfl ?_
    refine w_last C S1 h0 h0 ga0 dL_wall_8 (fun H2 L2 S2 e2 eo e3 => ?_)
    refine lv_goto (tgt := 18) hx hb dL_wall_9 (by decide) ?_
    refine lv_iconst (v := 0) hx hb dL_wall_18 (by decide) ?_
    exact w_ret hQ C S2 hr dL_wall_19 (by decide) (by decide) (⟨e2.trans tz, fun Vv Kv hv => (rq1 Vv Kv hv).out S1.1 ga0 h0 S1.2.2.1 e3 S2.2.2.1⟩)
  · obtain ⟨X1, rx1⟩ := X1
    have tz : tln D H1 a0 = tln D s.heap a0 := tlW hO ga0 K1 (by decide +kernel) (by decide +kernel)
    rcases X1 with rfl | rfl
    · refine w_c1 C htab ⟨by decide, by decide⟩ (by decide) kl_24 kc_IOB h7 h8 h9 ?_
      refine lv_astore_n (lv' := [(3, .ref q), (0, .ref a0), (1, .int x1), (2, .ref o)]) hx hb dL_wall_12 rfl hl (by decide) rfl (fun ls hl => ?_)
      refine lv_iconst (v := 1) hx hb dL_wall_13 (by decide) ?_
      exact w_ret hQ C S1 hr dL_wall_14 (by decide) (by decide) ⟨tz, rx1⟩
    · refine w_c2 C htab ⟨by decide, by decide⟩ (by decide) (by decide) kl_24 (by decide +kernel) kl_35 kc_ISE h7 h8 h9 ?_
      refine lv_astore_n (lv' := [(3, .ref q), (0, .ref a0), (1, .int x1), (2, .ref o)]) hx hb dL_wall_15 rfl hl (by decide) rfl (fun ls hl => ?_)
      refine lv_iconst (v := 2) hx hb dL_wall_16 (by decide) ?_
      exact w_ret hQ C S1 hr dL_wall_17 (by decide) (by decide) ⟨tz, rx1⟩

set_option maxRecDepth 100000 in
set_option maxHeartbeats 4000000 in
theorem c_L_open (l : Launch) (D : DD) (G : Nat → Nat) (a0 : Nat) (x1 : Int32) (o : Nat) (ga0 : G a0 = 1)  (h0 : G o = 0) : CW l D G yL_open cL_open 4 [(0, 9, 12, 24), (0, 9, 15, 35)] 4 2 12 [.ref a0, .int x1, .ref o] o a0 (fun _ => True) [(7, 0), (7, 1), (7, 2), (7, 3), (7, 4), (8, 0), (8, 1), (8, 2), (8, 3), (8, 4), (8, 5), (11, 0), (9, 1), (9, 2), (4, 3), (4, 4), (4, 5), (4, 6), (4, 7), (4, 8), (4, 9), (4, 10), (4, 11), (4, 12), (4, 13), (16, 1), (16, 2)] (fun H _ H1 => (tln D H1 a0 = tln D H a0) ∧ ∀ Vv Kv : Sg, CI D H a0 Vv Kv → CI D H1 a0 Vv Kv) := by
  refine enterW (by decide) (Nat.le_of_ble_eq_true rfl) ?_
  intro hl0 p e s m args below meth c ls Q hA hQ htab C hr hO hpre hla hl
  have hx := C.1
  have hb := C.2.1
  have hl : lv_has ls 4 [(0, .ref a0), (1, .int x1), (2, .ref o)] := hl
  refine lv_aload_n hx hb dL_open_0 rfl (lv_at hl 2 rfl) ?_
  refine lv_iconst (v := 0) hx hb dL_open_1 (by decide) ?_
  refine lv_aload_n hx hb dL_open_2 rfl (lv_at hl 0 rfl) ?_
  refine lv_iload_n hx hb dL_open_3 rfl (lv_at hl 1 rfl) ?_
  refine callV_XW (As := [.int x1]) hl0 C hO h0 hla (c_X11_open l D G a0 x1 ga0) kV_L_37 ga0 trivial dL_open_4 hl.1 rfl rfl (by decide) cd_X11_open ⟨Nat.le_of_ble_eq_true rfl, Nat.le_of_ble_eq_true rfl, Nat.le_of_ble_eq_true rfl, Nat.le_of_ble_eq_true rfl, Nat.le_of_ble_eq_true rfl⟩ (fun v H1 L1 S1 K1 q1 => ?_) (fun En H1 L1 q ce S1 K1 X1 h7 h8 h9 => ?_)
  · obtain ⟨r1, rfl, q1⟩ := q1
    obtain ⟨q1, rq1⟩ := q1
    have tz : tln D H1 a0 = tln D s.heap a0 := tlW hO ga0 K1 (by decide +kernel) (by decide +kernel)
    refine lv_i2l hx hb dL_open_7 rfl ?_
    refine w_last C S1 h0 h0 ga0 dL_open_8 (fun H2 L2 S2 e2 eo e3 => ?_)
    refine lv_goto (tgt := 18) hx hb dL_open_9 (by decide) ?_
    refine lv_iconst (v := 0) hx hb dL_open_18 (by decide) ?_
    exact w_ret hQ C S2 hr dL_open_19 (by decide) (by decide) (⟨e2.trans tz, fun Vv Kv hv => (rq1 Vv Kv hv).out S1.1 ga0 h0 S1.2.2.1 e3 S2.2.2.1⟩)
  · obtain ⟨X1, rx1⟩ := X1
    have tz : tln D H1 a0 = tln D s.heap a0 := tlW hO ga0 K1 (by decide +kernel) (by decide +kernel)
    rcases X1 with rfl | rfl
    · refine w_c1 C htab ⟨by decide, by decide⟩ (by decide) kl_24 kc_IOB h7 h8 h9 ?_
      refine lv_astore_n (lv' := [(3, .ref q), (0, .ref a0), (1, .int x1), (2, .ref o)]) hx hb dL_open_12 rfl hl (by decide) rfl (fun ls hl => ?_)
      refine lv_iconst (v := 1) hx hb dL_open_13 (by decide) ?_
      exact w_ret hQ C S1 hr dL_open_14 (by decide) (by decide) ⟨tz, rx1⟩
    · refine w_c2 C htab ⟨by decide, by decide⟩ (by decide) (by decide) kl_24 (by decide +kernel) kl_35 kc_ISE h7 h8 h9 ?_
      refine lv_astore_n (lv' := [(3, .ref q), (0, .ref a0), (1, .int x1), (2, .ref o)]) hx hb dL_open_15 rfl hl (by decide) rfl (fun ls hl => ?_)
      refine lv_iconst (v := 2) hx hb dL_open_16 (by decide) ?_
      exact w_ret hQ C S1 hr dL_open_17 (by decide) (by decide) ⟨tz, rx1⟩

set_option maxRecDepth 100000 in
set_option maxHeartbeats 4000000 in
theorem c_L_hide (l : Launch) (D : DD) (G : Nat → Nat) (a0 : Nat) (x1 : Int32) (o : Nat) (ga0 : G a0 = 1)  (h0 : G o = 0) : CW l D G yL_hide cL_hide 4 [(0, 9, 12, 24), (0, 9, 15, 35)] 4 2 12 [.ref a0, .int x1, .ref o] o a0 (fun _ => True) [(7, 0), (7, 1), (7, 2), (7, 3), (7, 4), (8, 0), (8, 1), (8, 2), (8, 3), (8, 4), (8, 5), (11, 0), (9, 1), (9, 2), (4, 3), (4, 4), (4, 5), (4, 6), (4, 7), (4, 8), (4, 9), (4, 10), (4, 11), (4, 12), (4, 13), (16, 1), (16, 2)] (fun H _ H1 => (tln D H1 a0 = tln D H a0) ∧ ∀ Vv Kv : Sg, CI D H a0 Vv Kv → CI D H1 a0 Vv Kv) := by
  refine enterW (by decide) (Nat.le_of_ble_eq_true rfl) ?_
  intro hl0 p e s m args below meth c ls Q hA hQ htab C hr hO hpre hla hl
  have hx := C.1
  have hb := C.2.1
  have hl : lv_has ls 4 [(0, .ref a0), (1, .int x1), (2, .ref o)] := hl
  refine lv_aload_n hx hb dL_hide_0 rfl (lv_at hl 2 rfl) ?_
  refine lv_iconst (v := 0) hx hb dL_hide_1 (by decide) ?_
  refine lv_aload_n hx hb dL_hide_2 rfl (lv_at hl 0 rfl) ?_
  refine lv_iload_n hx hb dL_hide_3 rfl (lv_at hl 1 rfl) ?_
  refine callV_XW (As := [.int x1]) hl0 C hO h0 hla (c_X11_hide l D G a0 x1 ga0) kV_L_40 ga0 trivial dL_hide_4 hl.1 rfl rfl (by decide) cd_X11_hide ⟨Nat.le_of_ble_eq_true rfl, Nat.le_of_ble_eq_true rfl, Nat.le_of_ble_eq_true rfl, Nat.le_of_ble_eq_true rfl, Nat.le_of_ble_eq_true rfl⟩ (fun v H1 L1 S1 K1 q1 => ?_) (fun En H1 L1 q ce S1 K1 X1 h7 h8 h9 => ?_)
  · obtain ⟨r1, rfl, q1⟩ := q1
    obtain ⟨q1, rq1⟩ := q1
    have tz : tln D H1 a0 = tln D s.heap a0 := tlW hO ga0 K1 (by decide +kernel) (by decide +kernel)
    refine lv_i2l hx hb dL_hide_7 rfl ?_
    refine w_last C S1 h0 h0 ga0 dL_hide_8 (fun H2 L2 S2 e2 eo e3 => ?_)
    refine lv_goto (tgt := 18) hx hb dL_hide_9 (by decide) ?_
    refine lv_iconst (v := 0) hx hb dL_hide_18 (by decide) ?_
    exact w_ret hQ C S2 hr dL_hide_19 (by decide) (by decide) (⟨e2.trans tz, fun Vv Kv hv => (rq1 Vv Kv hv).out S1.1 ga0 h0 S1.2.2.1 e3 S2.2.2.1⟩)
  · obtain ⟨X1, rx1⟩ := X1
    have tz : tln D H1 a0 = tln D s.heap a0 := tlW hO ga0 K1 (by decide +kernel) (by decide +kernel)
    rcases X1 with rfl | rfl
    · refine w_c1 C htab ⟨by decide, by decide⟩ (by decide) kl_24 kc_IOB h7 h8 h9 ?_
      refine lv_astore_n (lv' := [(3, .ref q), (0, .ref a0), (1, .int x1), (2, .ref o)]) hx hb dL_hide_12 rfl hl (by decide) rfl (fun ls hl => ?_)
      refine lv_iconst (v := 1) hx hb dL_hide_13 (by decide) ?_
      exact w_ret hQ C S1 hr dL_hide_14 (by decide) (by decide) ⟨tz, rx1⟩
    · refine w_c2 C htab ⟨by decide, by decide⟩ (by decide) (by decide) kl_24 (by decide +kernel) kl_35 kc_ISE h7 h8 h9 ?_
      refine lv_astore_n (lv' := [(3, .ref q), (0, .ref a0), (1, .int x1), (2, .ref o)]) hx hb dL_hide_15 rfl hl (by decide) rfl (fun ls hl => ?_)
      refine lv_iconst (v := 2) hx hb dL_hide_16 (by decide) ?_
      exact w_ret hQ C S1 hr dL_hide_17 (by decide) (by decide) ⟨tz, rx1⟩

set_option maxRecDepth 100000 in
set_option maxHeartbeats 4000000 in
theorem c_L_paper (l : Launch) (D : DD) (G : Nat → Nat) (a0 : Nat) (x1 : Int32) (x2 : Int32) (o : Nat) (ga0 : G a0 = 1) (ix2 : 0 ≤ x2.toInt ∧ x2.toInt ≤ 1) (h0 : G o = 0) : CW l D G yL_paper cL_paper 5 [(0, 17, 20, 24)] 4 1 6 [.ref a0, .int x1, .int x2, .ref o] o a0 (fun _ => True) [(7, 0), (7, 1), (7, 2), (7, 3), (7, 4), (8, 0), (8, 1), (8, 2), (8, 3), (8, 4), (8, 5), (11, 0), (9, 1), (9, 2), (4, 3), (4, 4), (4, 5), (4, 6), (4, 7), (4, 8), (4, 9), (4, 10), (4, 11), (4, 12), (4, 13), (16, 1), (16, 2)] (fun H _ H1 => (tln D H1 a0 = tln D H a0) ∧ ∀ Vv Kv : Sg, CI D H a0 Vv Kv → CI D H1 a0 Vv Kv) := by
  refine enterW (by decide) (Nat.le_of_ble_eq_true rfl) ?_
  intro hl0 p e s m args below meth c ls Q hA hQ htab C hr hO hpre hla hl
  have hx := C.1
  have hb := C.2.1
  have hl : lv_has ls 5 [(0, .ref a0), (1, .int x1), (2, .int x2), (3, .ref o)] := hl
  refine lv_aload_n hx hb dL_paper_0 rfl (lv_at hl 3 rfl) ?_
  refine lv_iconst (v := 0) hx hb dL_paper_1 (by decide) ?_
  refine lv_aload_n hx hb dL_paper_2 rfl (lv_at hl 0 rfl) ?_
  refine lv_iload_n hx hb dL_paper_3 rfl (lv_at hl 1 rfl) ?_
  refine lv_iload_n hx hb dL_paper_4 rfl (lv_at hl 2 rfl) ?_
  refine callV_XW (As := [.int x1, .int x2]) hl0 C hO h0 hla (c_X11_paper l D G a0 x1 x2 ga0 ix2) kV_L_43 ga0 trivial dL_paper_5 hl.1 rfl rfl (by decide) cd_X11_paper ⟨Nat.le_of_ble_eq_true rfl, Nat.le_of_ble_eq_true rfl, Nat.le_of_ble_eq_true rfl, Nat.le_of_ble_eq_true rfl, Nat.le_of_ble_eq_true rfl⟩ (fun v H1 L1 S1 K1 q1 => ?_) (fun En H1 L1 q ce S1 K1 X1 h7 h8 h9 => ?_)
  · obtain ⟨r1, rfl, q1⟩ := q1
    obtain ⟨q1, rq1⟩ := q1
    have tz : tln D H1 a0 = tln D s.heap a0 := tlW hO ga0 K1 (by decide +kernel) (by decide +kernel)
    refine lv_if_eq (tgt := 15) hx hb dL_paper_8 (by decide) (fun c9 => ?_) (fun c9 => ?_)
    · refine lv_lconst hx hb dL_paper_15 rfl ?_
      refine w_last C S1 h0 h0 ga0 dL_paper_16 (fun H2 L2 S2 e2 eo e3 => ?_)
      refine lv_goto (tgt := 24) hx hb dL_paper_17 (by decide) ?_
      refine lv_iconst (v := 0) hx hb dL_paper_24 (by decide) ?_
      exact w_ret hQ C S2 hr dL_paper_25 (by decide) (by decide) (⟨e2.trans tz, fun Vv Kv hv => (rq1 Vv Kv hv).out S1.1 ga0 h0 S1.2.2.1 e3 S2.2.2.1⟩)
    · refine lv_lconst hx hb dL_paper_11 rfl ?_
      refine lv_goto (tgt := 16) hx hb dL_paper_12 (by decide) ?_
      refine w_last C S1 h0 h0 ga0 dL_paper_16 (fun H2 L2 S2 e2 eo e3 => ?_)
      refine lv_goto (tgt := 24) hx hb dL_paper_17 (by decide) ?_
      refine lv_iconst (v := 0) hx hb dL_paper_24 (by decide) ?_
      exact w_ret hQ C S2 hr dL_paper_25 (by decide) (by decide) (⟨e2.trans tz, fun Vv Kv hv => (rq1 Vv Kv hv).out S1.1 ga0 h0 S1.2.2.1 e3 S2.2.2.1⟩)
  · obtain ⟨X1, rx1⟩ := X1
    have tz : tln D H1 a0 = tln D s.heap a0 := tlW hO ga0 K1 (by decide +kernel) (by decide +kernel)
    subst X1
    refine w_c1 C htab ⟨by decide, by decide⟩ (by decide) kl_24 kc_IOB h7 h8 h9 ?_
    refine lv_astore (lv' := [(4, .ref q), (0, .ref a0), (1, .int x1), (2, .int x2), (3, .ref o)]) hx hb dL_paper_20 hl (by decide) rfl (fun ls hl => ?_)
    refine lv_iconst (v := 1) hx hb dL_paper_22 (by decide) ?_
    exact w_ret hQ C S1 hr dL_paper_23 (by decide) (by decide) ⟨tz, rx1⟩

set_option maxRecDepth 100000 in
set_option maxHeartbeats 4000000 in
theorem c_L_flue (l : Launch) (D : DD) (G : Nat → Nat) (a0 : Nat) (x1 : Int32) (x2 : Int32) (o : Nat) (ga0 : G a0 = 1)  (h0 : G o = 0) : CW l D G yL_flue cL_flue 5 [(0, 10, 13, 24)] 4 2 12 [.ref a0, .int x1, .int x2, .ref o] o a0 (fun _ => True) [(7, 0), (7, 1), (7, 2), (7, 3), (7, 4), (8, 0), (8, 1), (8, 2), (8, 3), (8, 4), (8, 5), (11, 0), (9, 1), (9, 2), (4, 3), (4, 4), (4, 5), (4, 6), (4, 7), (4, 8), (4, 9), (4, 10), (4, 11), (4, 12), (4, 13), (16, 1), (16, 2)] (fun H _ H1 => (tln D H1 a0 = tln D H a0) ∧ ∀ Vv Kv : Sg, CI D H a0 Vv Kv → CI D H1 a0 Vv Kv) := by
  refine enterW (by decide) (Nat.le_of_ble_eq_true rfl) ?_
  intro hl0 p e s m args below meth c ls Q hA hQ htab C hr hO hpre hla hl
  have hx := C.1
  have hb := C.2.1
  have hl : lv_has ls 5 [(0, .ref a0), (1, .int x1), (2, .int x2), (3, .ref o)] := hl
  refine lv_aload_n hx hb dL_flue_0 rfl (lv_at hl 3 rfl) ?_
  refine lv_iconst (v := 0) hx hb dL_flue_1 (by decide) ?_
  refine lv_aload_n hx hb dL_flue_2 rfl (lv_at hl 0 rfl) ?_
  refine lv_iload_n hx hb dL_flue_3 rfl (lv_at hl 1 rfl) ?_
  refine lv_iload_n hx hb dL_flue_4 rfl (lv_at hl 2 rfl) ?_
  refine callV_XW (As := [.int x1, .int x2]) hl0 C hO h0 hla (c_X11_flue l D G a0 x1 x2 ga0) kV_L_47 ga0 trivial dL_flue_5 hl.1 rfl rfl (by decide) cd_X11_flue ⟨Nat.le_of_ble_eq_true rfl, Nat.le_of_ble_eq_true rfl, Nat.le_of_ble_eq_true rfl, Nat.le_of_ble_eq_true rfl, Nat.le_of_ble_eq_true rfl⟩ (fun v H1 L1 S1 K1 q1 => ?_) (fun En H1 L1 q ce S1 K1 X1 h7 h8 h9 => ?_)
  · obtain ⟨r1, rfl, q1⟩ := q1
    obtain ⟨q1, rq1⟩ := q1
    have tz : tln D H1 a0 = tln D s.heap a0 := tlW hO ga0 K1 (by decide +kernel) (by decide +kernel)
    refine lv_i2l hx hb dL_flue_8 rfl ?_
    refine w_last C S1 h0 h0 ga0 dL_flue_9 (fun H2 L2 S2 e2 eo e3 => ?_)
    refine lv_goto (tgt := 17) hx hb dL_flue_10 (by decide) ?_
    refine lv_iconst (v := 0) hx hb dL_flue_17 (by decide) ?_
    exact w_ret hQ C S2 hr dL_flue_18 (by decide) (by decide) (⟨e2.trans tz, fun Vv Kv hv => (rq1 Vv Kv hv).out S1.1 ga0 h0 S1.2.2.1 e3 S2.2.2.1⟩)
  · obtain ⟨X1, rx1⟩ := X1
    have tz : tln D H1 a0 = tln D s.heap a0 := tlW hO ga0 K1 (by decide +kernel) (by decide +kernel)
    subst X1
    refine w_c1 C htab ⟨by decide, by decide⟩ (by decide) kl_24 kc_IOB h7 h8 h9 ?_
    refine lv_astore (lv' := [(4, .ref q), (0, .ref a0), (1, .int x1), (2, .int x2), (3, .ref o)]) hx hb dL_flue_13 hl (by decide) rfl (fun ls hl => ?_)
    refine lv_iconst (v := 1) hx hb dL_flue_15 (by decide) ?_
    exact w_ret hQ C S1 hr dL_flue_16 (by decide) (by decide) ⟨tz, rx1⟩

set_option maxRecDepth 100000 in
set_option maxHeartbeats 4000000 in
theorem c_L_rate (l : Launch) (D : DD) (G : Nat → Nat) (a0 : Nat) (x1 : Int32) (o : Nat) (ga0 : G a0 = 1)  (h0 : G o = 0) : CW l D G yL_rate cL_rate 4 [(0, 9, 12, 13)] 4 1 6 [.ref a0, .int x1, .ref o] o a0 (fun _ => True) [(7, 0), (7, 1), (7, 2), (7, 3), (7, 4), (8, 0), (8, 1), (8, 2), (8, 3), (8, 4), (8, 5), (11, 0), (9, 1), (9, 2), (4, 3), (4, 4), (4, 5), (4, 6), (4, 7), (4, 8), (4, 9), (4, 10), (4, 11), (4, 12), (4, 13), (16, 1), (16, 2)] (fun H _ H1 => (tln D H1 a0 = tln D H a0) ∧ ∀ Vv Kv : Sg, CI D H a0 Vv Kv → CI D H1 a0 Vv Kv) := by
  refine enterW (by decide) (Nat.le_of_ble_eq_true rfl) ?_
  intro hl0 p e s m args below meth c ls Q hA hQ htab C hr hO hpre hla hl
  have hx := C.1
  have hb := C.2.1
  have hl : lv_has ls 4 [(0, .ref a0), (1, .int x1), (2, .ref o)] := hl
  refine lv_aload_n hx hb dL_rate_0 rfl (lv_at hl 2 rfl) ?_
  refine lv_iconst (v := 0) hx hb dL_rate_1 (by decide) ?_
  refine lv_aload_n hx hb dL_rate_2 rfl (lv_at hl 0 rfl) ?_
  refine lv_iload_n hx hb dL_rate_3 rfl (lv_at hl 1 rfl) ?_
  refine callV_XW (As := [.int x1]) hl0 C hO h0 hla (c_X11_rate l D G a0 x1 ga0) kV_L_50 ga0 trivial dL_rate_4 hl.1 rfl rfl (by decide) cd_X11_rate ⟨Nat.le_of_ble_eq_true rfl, Nat.le_of_ble_eq_true rfl, Nat.le_of_ble_eq_true rfl, Nat.le_of_ble_eq_true rfl, Nat.le_of_ble_eq_true rfl⟩ (fun v H1 L1 S1 K1 q1 => ?_) (fun En H1 L1 q ce S1 K1 X1 h7 h8 h9 => ?_)
  · obtain ⟨r1, rfl, q1⟩ := q1
    obtain ⟨q1, rq1⟩ := q1
    have tz : tln D H1 a0 = tln D s.heap a0 := tlW hO ga0 K1 (by decide +kernel) (by decide +kernel)
    refine lv_i2l hx hb dL_rate_7 rfl ?_
    refine w_last C S1 h0 h0 ga0 dL_rate_8 (fun H2 L2 S2 e2 eo e3 => ?_)
    refine lv_goto (tgt := 15) hx hb dL_rate_9 (by decide) ?_
    refine lv_iconst (v := 0) hx hb dL_rate_15 (by decide) ?_
    exact w_ret hQ C S2 hr dL_rate_16 (by decide) (by decide) (⟨e2.trans tz, fun Vv Kv hv => (rq1 Vv Kv hv).out S1.1 ga0 h0 S1.2.2.1 e3 S2.2.2.1⟩)
  · obtain ⟨X1, rx1⟩ := X1
    have tz : tln D H1 a0 = tln D s.heap a0 := tlW hO ga0 K1 (by decide +kernel) (by decide +kernel)
    subst X1
    refine w_c1 C htab ⟨by decide, by decide⟩ (by decide) kl_13 kc_IAE h7 h8 h9 ?_
    refine lv_astore_n (lv' := [(3, .ref q), (0, .ref a0), (1, .int x1), (2, .ref o)]) hx hb dL_rate_12 rfl hl (by decide) rfl (fun ls hl => ?_)
    refine lv_iconst (v := 1) hx hb dL_rate_13 (by decide) ?_
    exact w_ret hQ C S1 hr dL_rate_14 (by decide) (by decide) ⟨tz, rx1⟩

set_option maxRecDepth 100000 in
set_option maxHeartbeats 4000000 in
theorem c_L_give (l : Launch) (D : DD) (G : Nat → Nat) (a0 : Nat) (x1 : Int32) (x2 : Int32) (o : Nat) (ga0 : G a0 = 1)  (h0 : G o = 0) : CW l D G yL_give cL_give 5 [(0, 10, 13, 24), (0, 10, 17, 13)] 4 2 12 [.ref a0, .int x1, .int x2, .ref o] o a0 (fun _ => True) [(7, 0), (7, 1), (7, 2), (7, 3), (7, 4), (8, 0), (8, 1), (8, 2), (8, 3), (8, 4), (8, 5), (11, 0), (9, 1), (9, 2), (4, 3), (4, 4), (4, 5), (4, 6), (4, 7), (4, 8), (4, 9), (4, 10), (4, 11), (4, 12), (4, 13), (16, 1), (16, 2)] (fun H _ H1 => (tln D H1 a0 = tln D H a0) ∧ ∀ Vv Kv : Sg, CI D H a0 Vv Kv → CI D H1 a0 Vv Kv) := by
  refine enterW (by decide) (Nat.le_of_ble_eq_true rfl) ?_
  intro hl0 p e s m args below meth c ls Q hA hQ htab C hr hO hpre hla hl
  have hx := C.1
  have hb := C.2.1
  have hl : lv_has ls 5 [(0, .ref a0), (1, .int x1), (2, .int x2), (3, .ref o)] := hl
  refine lv_aload_n hx hb dL_give_0 rfl (lv_at hl 3 rfl) ?_
  refine lv_iconst (v := 0) hx hb dL_give_1 (by decide) ?_
  refine lv_aload_n hx hb dL_give_2 rfl (lv_at hl 0 rfl) ?_
  refine lv_iload_n hx hb dL_give_3 rfl (lv_at hl 1 rfl) ?_
  refine lv_iload_n hx hb dL_give_4 rfl (lv_at hl 2 rfl) ?_
  refine callV_XW (As := [.int x1, .int x2]) hl0 C hO h0 hla (c_X11_give l D G a0 x1 x2 ga0) kV_L_53 ga0 trivial dL_give_5 hl.1 rfl rfl (by decide) cd_X11_give ⟨Nat.le_of_ble_eq_true rfl, Nat.le_of_ble_eq_true rfl, Nat.le_of_ble_eq_true rfl, Nat.le_of_ble_eq_true rfl, Nat.le_of_ble_eq_true rfl⟩ (fun v H1 L1 S1 K1 q1 => ?_) (fun En H1 L1 q ce S1 K1 X1 h7 h8 h9 => ?_)
  · obtain ⟨r1, rfl, q1⟩ := q1
    obtain ⟨q1, rq1⟩ := q1
    have tz : tln D H1 a0 = tln D s.heap a0 := tlW hO ga0 K1 (by decide +kernel) (by decide +kernel)
    refine lv_i2l hx hb dL_give_8 rfl ?_
    refine w_last C S1 h0 h0 ga0 dL_give_9 (fun H2 L2 S2 e2 eo e3 => ?_)
    refine lv_goto (tgt := 21) hx hb dL_give_10 (by decide) ?_
    refine lv_iconst (v := 0) hx hb dL_give_21 (by decide) ?_
    exact w_ret hQ C S2 hr dL_give_22 (by decide) (by decide) (⟨e2.trans tz, fun Vv Kv hv => (rq1 Vv Kv hv).out S1.1 ga0 h0 S1.2.2.1 e3 S2.2.2.1⟩)
  · obtain ⟨X1, rx1⟩ := X1
    have tz : tln D H1 a0 = tln D s.heap a0 := tlW hO ga0 K1 (by decide +kernel) (by decide +kernel)
    rcases X1 with rfl | rfl
    · refine w_c1 C htab ⟨by decide, by decide⟩ (by decide) kl_24 kc_IOB h7 h8 h9 ?_
      refine lv_astore (lv' := [(4, .ref q), (0, .ref a0), (1, .int x1), (2, .int x2), (3, .ref o)]) hx hb dL_give_13 hl (by decide) rfl (fun ls hl => ?_)
      refine lv_iconst (v := 1) hx hb dL_give_15 (by decide) ?_
      exact w_ret hQ C S1 hr dL_give_16 (by decide) (by decide) ⟨tz, rx1⟩
    · refine w_c2 C htab ⟨by decide, by decide⟩ (by decide) (by decide) kl_24 (by decide +kernel) kl_13 kc_IAE h7 h8 h9 ?_
      refine lv_astore (lv' := [(4, .ref q), (0, .ref a0), (1, .int x1), (2, .int x2), (3, .ref o)]) hx hb dL_give_17 hl (by decide) rfl (fun ls hl => ?_)
      refine lv_iconst (v := 2) hx hb dL_give_19 (by decide) ?_
      exact w_ret hQ C S1 hr dL_give_20 (by decide) (by decide) ⟨tz, rx1⟩

set_option maxRecDepth 100000 in
set_option maxHeartbeats 4000000 in
theorem c_L_quarters (l : Launch) (D : DD) (G : Nat → Nat) (a0 : Nat) (x1 : Int32) (o : Nat) (ga0 : G a0 = 1)  (h0 : G o = 0) : CW l D G yL_quarters cL_quarters 4 [(0, 9, 12, 13)] 7 1 6 [.ref a0, .int x1, .ref o] o a0 (fun _ => True) [(7, 0), (7, 1), (7, 2), (7, 3), (7, 4), (8, 0), (8, 1), (8, 2), (8, 3), (8, 4), (8, 5), (11, 0), (9, 1), (9, 2), (4, 3), (4, 4), (4, 5), (4, 6), (4, 7), (4, 8), (4, 9), (4, 10), (4, 11), (4, 12), (4, 13), (16, 1), (16, 2), (14, 0), (15, 0)] (fun H _ H1 => (tln D H1 a0 = tln D H a0) ∧ ∀ Vv Kv : Sg, CI D H a0 Vv Kv → CI D H1 a0 Vv Kv) := by
  refine enterW (by decide) (Nat.le_of_ble_eq_true rfl) ?_
  intro hl0 p e s m args below meth c ls Q hA hQ htab C hr hO hpre hla hl
  have hx := C.1
  have hb := C.2.1
  have hl : lv_has ls 4 [(0, .ref a0), (1, .int x1), (2, .ref o)] := hl
  refine lv_aload_n hx hb dL_quarters_0 rfl (lv_at hl 2 rfl) ?_
  refine lv_iconst (v := 0) hx hb dL_quarters_1 (by decide) ?_
  refine lv_aload_n hx hb dL_quarters_2 rfl (lv_at hl 0 rfl) ?_
  refine lv_iload_n hx hb dL_quarters_3 rfl (lv_at hl 1 rfl) ?_
  refine callV_XW (As := [.int x1]) hl0 C hO h0 hla (c_X11_quarters l D G a0 x1 ga0) kV_L_56 ga0 trivial dL_quarters_4 hl.1 rfl rfl (by decide) cd_X11_quarters ⟨Nat.le_of_ble_eq_true rfl, Nat.le_of_ble_eq_true rfl, Nat.le_of_ble_eq_true rfl, Nat.le_of_ble_eq_true rfl, Nat.le_of_ble_eq_true rfl⟩ (fun v H1 L1 S1 K1 q1 => ?_) (fun En H1 L1 q ce S1 K1 X1 h7 h8 h9 => ?_)
  · obtain ⟨r1, rfl, q1⟩ := q1
    obtain ⟨q1, rq1⟩ := q1
    have tz : tln D H1 a0 = tln D s.heap a0 := tlW hO ga0 K1 (by decide +kernel) (by decide +kernel)
    refine lv_i2l hx hb dL_quarters_7 rfl ?_
    refine w_last C S1 h0 h0 ga0 dL_quarters_8 (fun H2 L2 S2 e2 eo e3 => ?_)
    refine lv_goto (tgt := 15) hx hb dL_quarters_9 (by decide) ?_
    refine lv_iconst (v := 0) hx hb dL_quarters_15 (by decide) ?_
    exact w_ret hQ C S2 hr dL_quarters_16 (by decide) (by decide) (⟨e2.trans tz, fun Vv Kv hv => (rq1 Vv Kv hv).out S1.1 ga0 h0 S1.2.2.1 e3 S2.2.2.1⟩)
  · obtain ⟨X1, rx1⟩ := X1
    have tz : tln D H1 a0 = tln D s.heap a0 := tlW hO ga0 K1 (by decide +kernel) (by decide +kernel)
    subst X1
    refine w_c1 C htab ⟨by decide, by decide⟩ (by decide) kl_13 kc_IAE h7 h8 h9 ?_
    refine lv_astore_n (lv' := [(3, .ref q), (0, .ref a0), (1, .int x1), (2, .ref o)]) hx hb dL_quarters_12 rfl hl (by decide) rfl (fun ls hl => ?_)
    refine lv_iconst (v := 1) hx hb dL_quarters_13 (by decide) ?_
    exact w_ret hQ C S1 hr dL_quarters_14 (by decide) (by decide) ⟨tz, rx1⟩

set_option maxRecDepth 100000 in
set_option maxHeartbeats 4000000 in
theorem c_L_stacks (l : Launch) (D : DD) (G : Nat → Nat) (a0 : Nat) (x1 : Int32) (o : Nat) (ga0 : G a0 = 1)  (h0 : G o = 0) : CW l D G yL_stacks cL_stacks 4 [(0, 9, 12, 24)] 2 1 6 [.ref a0, .int x1, .ref o] o a0 (fun _ => True) [] (fun H _ H1 => tln D H1 a0 = tln D H a0) := by
  refine enterW (by decide) (Nat.le_of_ble_eq_true rfl) ?_
  intro hl0 p e s m args below meth c ls Q hA hQ htab C hr hO hpre hla hl
  have hx := C.1
  have hb := C.2.1
  have hl : lv_has ls 4 [(0, .ref a0), (1, .int x1), (2, .ref o)] := hl
  refine lv_aload_n hx hb dL_stacks_0 rfl (lv_at hl 2 rfl) ?_
  refine lv_iconst (v := 0) hx hb dL_stacks_1 (by decide) ?_
  refine lv_aload_n hx hb dL_stacks_2 rfl (lv_at hl 0 rfl) ?_
  refine lv_iload_n hx hb dL_stacks_3 rfl (lv_at hl 1 rfl) ?_
  refine callV_XW (As := [.int x1]) hl0 C hO h0 hla (c_X11_stacks l D G a0 x1 ga0) kV_L_59 ga0 trivial dL_stacks_4 hl.1 rfl rfl (by decide) cd_X11_stacks ⟨Nat.le_of_ble_eq_true rfl, Nat.le_of_ble_eq_true rfl, Nat.le_of_ble_eq_true rfl, Nat.le_of_ble_eq_true rfl, Nat.le_of_ble_eq_true rfl⟩ (fun v H1 L1 S1 K1 q1 => ?_) (fun En H1 L1 q ce S1 K1 X1 h7 h8 h9 => ?_)
  · obtain ⟨r1, rfl, q1⟩ := q1
    have tz : tln D H1 a0 = tln D s.heap a0 := tlW hO ga0 K1 (by decide +kernel) (by decide +kernel)
    refine lv_i2l hx hb dL_stacks_7 rfl ?_
    refine w_last C S1 h0 h0 ga0 dL_stacks_8 (fun H2 L2 S2 e2 eo e3 => ?_)
    refine lv_goto (tgt := 15) hx hb dL_stacks_9 (by decide) ?_
    refine lv_iconst (v := 0) hx hb dL_stacks_15 (by decide) ?_
    exact w_ret hQ C S2 hr dL_stacks_16 (by decide) (by decide) (e2.trans tz)
  · have tz : tln D H1 a0 = tln D s.heap a0 := tlW hO ga0 K1 (by decide +kernel) (by decide +kernel)
    subst X1
    refine w_c1 C htab ⟨by decide, by decide⟩ (by decide) kl_24 kc_IOB h7 h8 h9 ?_
    refine lv_astore_n (lv' := [(3, .ref q), (0, .ref a0), (1, .int x1), (2, .ref o)]) hx hb dL_stacks_12 rfl hl (by decide) rfl (fun ls hl => ?_)
    refine lv_iconst (v := 1) hx hb dL_stacks_13 (by decide) ?_
    exact w_ret hQ C S1 hr dL_stacks_14 (by decide) (by decide) tz

set_option maxRecDepth 100000 in
set_option maxHeartbeats 4000000 in
theorem c_L_plan (l : Launch) (D : DD) (G : Nat → Nat) (a0 : Nat) (x1 : Int32) (x2 : Int32) (o : Nat) (ga0 : G a0 = 1) (ix2 : 0 ≤ x2.toInt ∧ x2.toInt ≤ 1) (h0 : G o = 0) : CW l D G yL_plan cL_plan 5 [(0, 10, 13, 24)] 5 1 6 [.ref a0, .int x1, .int x2, .ref o] o a0 (fun _ => True) [(14, 0), (15, 0), (19, 0), (18, 2)] (fun H _ H1 => tln D H1 a0 = tln D H a0) := by
  refine enterW (by decide) (Nat.le_of_ble_eq_true rfl) ?_
  intro hl0 p e s m args below meth c ls Q hA hQ htab C hr hO hpre hla hl
  have hx := C.1
  have hb := C.2.1
  have hl : lv_has ls 5 [(0, .ref a0), (1, .int x1), (2, .int x2), (3, .ref o)] := hl
  refine lv_aload_n hx hb dL_plan_0 rfl (lv_at hl 3 rfl) ?_
  refine lv_iconst (v := 0) hx hb dL_plan_1 (by decide) ?_
  refine lv_aload_n hx hb dL_plan_2 rfl (lv_at hl 0 rfl) ?_
  refine lv_iload_n hx hb dL_plan_3 rfl (lv_at hl 1 rfl) ?_
  refine lv_iload_n hx hb dL_plan_4 rfl (lv_at hl 2 rfl) ?_
  refine callV_XW (As := [.int x1, .int x2]) hl0 C hO h0 hla (c_X11_plan l D G a0 x1 x2 ga0 ix2) kV_L_62 ga0 trivial dL_plan_5 hl.1 rfl rfl (by decide) cd_X11_plan ⟨Nat.le_of_ble_eq_true rfl, Nat.le_of_ble_eq_true rfl, Nat.le_of_ble_eq_true rfl, Nat.le_of_ble_eq_true rfl, Nat.le_of_ble_eq_true rfl⟩ (fun v H1 L1 S1 K1 q1 => ?_) (fun En H1 L1 q ce S1 K1 X1 h7 h8 h9 => ?_)
  · obtain ⟨r1, rfl, q1⟩ := q1
    have tz : tln D H1 a0 = tln D s.heap a0 := tlW hO ga0 K1 (by decide +kernel) (by decide +kernel)
    refine lv_i2l hx hb dL_plan_8 rfl ?_
    refine w_last C S1 h0 h0 ga0 dL_plan_9 (fun H2 L2 S2 e2 eo e3 => ?_)
    refine lv_goto (tgt := 17) hx hb dL_plan_10 (by decide) ?_
    refine lv_iconst (v := 0) hx hb dL_plan_17 (by decide) ?_
    exact w_ret hQ C S2 hr dL_plan_18 (by decide) (by decide) (e2.trans tz)
  · have tz : tln D H1 a0 = tln D s.heap a0 := tlW hO ga0 K1 (by decide +kernel) (by decide +kernel)
    subst X1
    refine w_c1 C htab ⟨by decide, by decide⟩ (by decide) kl_24 kc_IOB h7 h8 h9 ?_
    refine lv_astore (lv' := [(4, .ref q), (0, .ref a0), (1, .int x1), (2, .int x2), (3, .ref o)]) hx hb dL_plan_13 hl (by decide) rfl (fun ls hl => ?_)
    refine lv_iconst (v := 1) hx hb dL_plan_15 (by decide) ?_
    exact w_ret hQ C S1 hr dL_plan_16 (by decide) (by decide) tz

set_option maxRecDepth 100000 in
set_option maxHeartbeats 4000000 in
theorem c_L_brings (l : Launch) (D : DD) (G : Nat → Nat) (a0 : Nat) (x1 : Int32) (o : Nat) (ga0 : G a0 = 1)  (h0 : G o = 0) : CW l D G yL_brings cL_brings 4 [(0, 9, 12, 13)] 5 1 6 [.ref a0, .int x1, .ref o] o a0 (fun _ => True) [(14, 0), (15, 0), (19, 0), (18, 2)] (fun H _ H1 => tln D H1 a0 = tln D H a0) := by
  refine enterW (by decide) (Nat.le_of_ble_eq_true rfl) ?_
  intro hl0 p e s m args below meth c ls Q hA hQ htab C hr hO hpre hla hl
  have hx := C.1
  have hb := C.2.1
  have hl : lv_has ls 4 [(0, .ref a0), (1, .int x1), (2, .ref o)] := hl
  refine lv_aload_n hx hb dL_brings_0 rfl (lv_at hl 2 rfl) ?_
  refine lv_iconst (v := 0) hx hb dL_brings_1 (by decide) ?_
  refine lv_aload_n hx hb dL_brings_2 rfl (lv_at hl 0 rfl) ?_
  refine lv_iload_n hx hb dL_brings_3 rfl (lv_at hl 1 rfl) ?_
  refine callV_XW (As := [.int x1]) hl0 C hO h0 hla (c_X11_brings l D G a0 x1 ga0) kV_L_66 ga0 trivial dL_brings_4 hl.1 rfl rfl (by decide) cd_X11_brings ⟨Nat.le_of_ble_eq_true rfl, Nat.le_of_ble_eq_true rfl, Nat.le_of_ble_eq_true rfl, Nat.le_of_ble_eq_true rfl, Nat.le_of_ble_eq_true rfl⟩ (fun v H1 L1 S1 K1 q1 => ?_) (fun En H1 L1 q ce S1 K1 X1 h7 h8 h9 => ?_)
  · obtain ⟨r1, rfl, q1⟩ := q1
    have tz : tln D H1 a0 = tln D s.heap a0 := tlW hO ga0 K1 (by decide +kernel) (by decide +kernel)
    refine lv_i2l hx hb dL_brings_7 rfl ?_
    refine w_last C S1 h0 h0 ga0 dL_brings_8 (fun H2 L2 S2 e2 eo e3 => ?_)
    refine lv_goto (tgt := 15) hx hb dL_brings_9 (by decide) ?_
    refine lv_iconst (v := 0) hx hb dL_brings_15 (by decide) ?_
    exact w_ret hQ C S2 hr dL_brings_16 (by decide) (by decide) (e2.trans tz)
  · have tz : tln D H1 a0 = tln D s.heap a0 := tlW hO ga0 K1 (by decide +kernel) (by decide +kernel)
    subst X1
    refine w_c1 C htab ⟨by decide, by decide⟩ (by decide) kl_13 kc_IAE h7 h8 h9 ?_
    refine lv_astore_n (lv' := [(3, .ref q), (0, .ref a0), (1, .int x1), (2, .ref o)]) hx hb dL_brings_12 rfl hl (by decide) rfl (fun ls hl => ?_)
    refine lv_iconst (v := 1) hx hb dL_brings_13 (by decide) ?_
    exact w_ret hQ C S1 hr dL_brings_14 (by decide) (by decide) tz

set_option maxRecDepth 100000 in
set_option maxHeartbeats 4000000 in
theorem c_L_round (l : Launch) (D : DD) (G : Nat → Nat) (a0 : Nat) (x1 : Int32) (o : Nat) (ga0 : G a0 = 1)  (h0 : G o = 0) : CW l D G yL_round cL_round 4 [(0, 9, 12, 13)] 7 1 6 [.ref a0, .int x1, .ref o] o a0 (fun _ => True) [(14, 0), (15, 0)] (fun H _ H1 => tln D H1 a0 = tln D H a0) := by
  refine enterW (by decide) (Nat.le_of_ble_eq_true rfl) ?_
  intro hl0 p e s m args below meth c ls Q hA hQ htab C hr hO hpre hla hl
  have hx := C.1
  have hb := C.2.1
  have hl : lv_has ls 4 [(0, .ref a0), (1, .int x1), (2, .ref o)] := hl
  refine lv_aload_n hx hb dL_round_0 rfl (lv_at hl 2 rfl) ?_
  refine lv_iconst (v := 0) hx hb dL_round_1 (by decide) ?_
  refine lv_aload_n hx hb dL_round_2 rfl (lv_at hl 0 rfl) ?_
  refine lv_iload_n hx hb dL_round_3 rfl (lv_at hl 1 rfl) ?_
  refine callV_XW (As := [.int x1]) hl0 C hO h0 hla (c_X11_round l D G a0 x1 ga0) kV_L_69 ga0 trivial dL_round_4 hl.1 rfl rfl (by decide) cd_X11_round ⟨Nat.le_of_ble_eq_true rfl, Nat.le_of_ble_eq_true rfl, Nat.le_of_ble_eq_true rfl, Nat.le_of_ble_eq_true rfl, Nat.le_of_ble_eq_true rfl⟩ (fun v H1 L1 S1 K1 q1 => ?_) (fun En H1 L1 q ce S1 K1 X1 h7 h8 h9 => ?_)
  · obtain ⟨r1, rfl, q1⟩ := q1
    have tz : tln D H1 a0 = tln D s.heap a0 := tlW hO ga0 K1 (by decide +kernel) (by decide +kernel)
    refine lv_i2l hx hb dL_round_7 rfl ?_
    refine w_last C S1 h0 h0 ga0 dL_round_8 (fun H2 L2 S2 e2 eo e3 => ?_)
    refine lv_goto (tgt := 15) hx hb dL_round_9 (by decide) ?_
    refine lv_iconst (v := 0) hx hb dL_round_15 (by decide) ?_
    exact w_ret hQ C S2 hr dL_round_16 (by decide) (by decide) (e2.trans tz)
  · have tz : tln D H1 a0 = tln D s.heap a0 := tlW hO ga0 K1 (by decide +kernel) (by decide +kernel)
    subst X1
    refine w_c1 C htab ⟨by decide, by decide⟩ (by decide) kl_13 kc_IAE h7 h8 h9 ?_
    refine lv_astore_n (lv' := [(3, .ref q), (0, .ref a0), (1, .int x1), (2, .ref o)]) hx hb dL_round_12 rfl hl (by decide) rfl (fun ls hl => ?_)
    refine lv_iconst (v := 1) hx hb dL_round_13 (by decide) ?_
    exact w_ret hQ C S1 hr dL_round_14 (by decide) (by decide) tz

set_option maxRecDepth 100000 in
set_option maxHeartbeats 4000000 in
theorem c_L_smokes (l : Launch) (D : DD) (G : Nat → Nat) (a0 : Nat) (x1 : Int32) (x2 : Int32) (o : Nat) (ga0 : G a0 = 1) (ix2 : 0 ≤ x2.toInt ∧ x2.toInt ≤ 1) (h0 : G o = 0) : CW l D G yL_smokes cL_smokes 5 [(0, 10, 13, 24), (0, 10, 17, 13)] 3 2 12 [.ref a0, .int x1, .int x2, .ref o] o a0 (fun _ => True) [(18, 3), (18, 4), (2, 1)] (fun H _ H1 => tln D H1 a0 = 0) := by
  refine enterW (by decide) (Nat.le_of_ble_eq_true rfl) ?_
  intro hl0 p e s m args below meth c ls Q hA hQ htab C hr hO hpre hla hl
  have hx := C.1
  have hb := C.2.1
  have hl : lv_has ls 5 [(0, .ref a0), (1, .int x1), (2, .int x2), (3, .ref o)] := hl
  refine lv_aload_n hx hb dL_smokes_0 rfl (lv_at hl 3 rfl) ?_
  refine lv_iconst (v := 0) hx hb dL_smokes_1 (by decide) ?_
  refine lv_aload_n hx hb dL_smokes_2 rfl (lv_at hl 0 rfl) ?_
  refine lv_iload_n hx hb dL_smokes_3 rfl (lv_at hl 1 rfl) ?_
  refine lv_iload_n hx hb dL_smokes_4 rfl (lv_at hl 2 rfl) ?_
  refine callV_XW (As := [.int x1, .int x2]) hl0 C hO h0 hla (c_X11_smokes l D G a0 x1 x2 ga0 ix2) kV_L_72 ga0 trivial dL_smokes_5 hl.1 rfl rfl (by decide) cd_X11_smokes ⟨Nat.le_of_ble_eq_true rfl, Nat.le_of_ble_eq_true rfl, Nat.le_of_ble_eq_true rfl, Nat.le_of_ble_eq_true rfl, Nat.le_of_ble_eq_true rfl⟩ (fun v H1 L1 S1 K1 q1 => ?_) (fun En H1 L1 q ce S1 K1 X1 h7 h8 h9 => ?_)
  · obtain ⟨r1, rfl, q1⟩ := q1
    have tz : tln D H1 a0 = 0 := q1
    refine lv_i2l hx hb dL_smokes_8 rfl ?_
    refine w_last C S1 h0 h0 ga0 dL_smokes_9 (fun H2 L2 S2 e2 eo e3 => ?_)
    refine lv_goto (tgt := 21) hx hb dL_smokes_10 (by decide) ?_
    refine lv_iconst (v := 0) hx hb dL_smokes_21 (by decide) ?_
    exact w_ret hQ C S2 hr dL_smokes_22 (by decide) (by decide) (e2.trans tz)
  · obtain ⟨X1, tz⟩ := X1
    have tz : tln D H1 a0 = 0 := tz
    rcases X1 with rfl | rfl
    · refine w_c1 C htab ⟨by decide, by decide⟩ (by decide) kl_24 kc_IOB h7 h8 h9 ?_
      refine lv_astore (lv' := [(4, .ref q), (0, .ref a0), (1, .int x1), (2, .int x2), (3, .ref o)]) hx hb dL_smokes_13 hl (by decide) rfl (fun ls hl => ?_)
      refine lv_iconst (v := 1) hx hb dL_smokes_15 (by decide) ?_
      exact w_ret hQ C S1 hr dL_smokes_16 (by decide) (by decide) tz
    · refine w_c2 C htab ⟨by decide, by decide⟩ (by decide) (by decide) kl_24 (by decide +kernel) kl_13 kc_IAE h7 h8 h9 ?_
      refine lv_astore (lv' := [(4, .ref q), (0, .ref a0), (1, .int x1), (2, .int x2), (3, .ref o)]) hx hb dL_smokes_17 hl (by decide) rfl (fun ls hl => ?_)
      refine lv_iconst (v := 2) hx hb dL_smokes_19 (by decide) ?_
      exact w_ret hQ C S1 hr dL_smokes_20 (by decide) (by decide) tz

set_option maxRecDepth 100000 in
set_option maxHeartbeats 4000000 in
theorem c_L_look (l : Launch) (D : DD) (G : Nat → Nat) (a0 : Nat) (x1 : Int32) (o : Nat) (ga0 : G a0 = 1)  (h0 : G o = 0) : CW l D G yL_look cL_look 4 [(0, 9, 12, 24), (0, 9, 15, 13)] 3 2 12 [.ref a0, .int x1, .ref o] o a0 (fun _ => True) [(18, 3), (18, 4), (2, 1)] (fun H _ H1 => tln D H1 a0 = 0) := by
  refine enterW (by decide) (Nat.le_of_ble_eq_true rfl) ?_
  intro hl0 p e s m args below meth c ls Q hA hQ htab C hr hO hpre hla hl
  have hx := C.1
  have hb := C.2.1
  have hl : lv_has ls 4 [(0, .ref a0), (1, .int x1), (2, .ref o)] := hl
  refine lv_aload_n hx hb dL_look_0 rfl (lv_at hl 2 rfl) ?_
  refine lv_iconst (v := 0) hx hb dL_look_1 (by decide) ?_
  refine lv_aload_n hx hb dL_look_2 rfl (lv_at hl 0 rfl) ?_
  refine lv_iload_n hx hb dL_look_3 rfl (lv_at hl 1 rfl) ?_
  refine callV_XW (As := [.int x1]) hl0 C hO h0 hla (c_X11_look l D G a0 x1 ga0) kV_L_75 ga0 trivial dL_look_4 hl.1 rfl rfl (by decide) cd_X11_look ⟨Nat.le_of_ble_eq_true rfl, Nat.le_of_ble_eq_true rfl, Nat.le_of_ble_eq_true rfl, Nat.le_of_ble_eq_true rfl, Nat.le_of_ble_eq_true rfl⟩ (fun v H1 L1 S1 K1 q1 => ?_) (fun En H1 L1 q ce S1 K1 X1 h7 h8 h9 => ?_)
  · obtain ⟨r1, rfl, q1⟩ := q1
    have tz : tln D H1 a0 = 0 := q1
    refine lv_i2l hx hb dL_look_7 rfl ?_
    refine w_last C S1 h0 h0 ga0 dL_look_8 (fun H2 L2 S2 e2 eo e3 => ?_)
    refine lv_goto (tgt := 18) hx hb dL_look_9 (by decide) ?_
    refine lv_iconst (v := 0) hx hb dL_look_18 (by decide) ?_
    exact w_ret hQ C S2 hr dL_look_19 (by decide) (by decide) (e2.trans tz)
  · obtain ⟨X1, tz⟩ := X1
    have tz : tln D H1 a0 = 0 := tz
    rcases X1 with rfl | rfl
    · refine w_c1 C htab ⟨by decide, by decide⟩ (by decide) kl_24 kc_IOB h7 h8 h9 ?_
      refine lv_astore_n (lv' := [(3, .ref q), (0, .ref a0), (1, .int x1), (2, .ref o)]) hx hb dL_look_12 rfl hl (by decide) rfl (fun ls hl => ?_)
      refine lv_iconst (v := 1) hx hb dL_look_13 (by decide) ?_
      exact w_ret hQ C S1 hr dL_look_14 (by decide) (by decide) tz
    · refine w_c2 C htab ⟨by decide, by decide⟩ (by decide) (by decide) kl_24 (by decide +kernel) kl_13 kc_IAE h7 h8 h9 ?_
      refine lv_astore_n (lv' := [(3, .ref q), (0, .ref a0), (1, .int x1), (2, .ref o)]) hx hb dL_look_15 rfl hl (by decide) rfl (fun ls hl => ?_)
      refine lv_iconst (v := 2) hx hb dL_look_16 (by decide) ?_
      exact w_ret hQ C S1 hr dL_look_17 (by decide) (by decide) tz

set_option maxRecDepth 100000 in
set_option maxHeartbeats 4000000 in
theorem c_L_window (l : Launch) (D : DD) (G : Nat → Nat) (a0 : Nat) (x1 : Int32) (o : Nat) (ga0 : G a0 = 1)  (h0 : G o = 0) : CW l D G yL_window cL_window 4 [(0, 9, 12, 24)] 5 1 6 [.ref a0, .int x1, .ref o] o a0 (fun _ => True) [(14, 0), (15, 0)] (fun H _ H1 => tln D H1 a0 = tln D H a0) := by
  refine enterW (by decide) (Nat.le_of_ble_eq_true rfl) ?_
  intro hl0 p e s m args below meth c ls Q hA hQ htab C hr hO hpre hla hl
  have hx := C.1
  have hb := C.2.1
  have hl : lv_has ls 4 [(0, .ref a0), (1, .int x1), (2, .ref o)] := hl
  refine lv_aload_n hx hb dL_window_0 rfl (lv_at hl 2 rfl) ?_
  refine lv_iconst (v := 0) hx hb dL_window_1 (by decide) ?_
  refine lv_aload_n hx hb dL_window_2 rfl (lv_at hl 0 rfl) ?_
  refine lv_iload_n hx hb dL_window_3 rfl (lv_at hl 1 rfl) ?_
  refine callV_XW (As := [.int x1]) hl0 C hO h0 hla (c_X11_window l D G a0 x1 ga0) kV_L_78 ga0 trivial dL_window_4 hl.1 rfl rfl (by decide) cd_X11_window ⟨Nat.le_of_ble_eq_true rfl, Nat.le_of_ble_eq_true rfl, Nat.le_of_ble_eq_true rfl, Nat.le_of_ble_eq_true rfl, Nat.le_of_ble_eq_true rfl⟩ (fun v H1 L1 S1 K1 q1 => ?_) (fun En H1 L1 q ce S1 K1 X1 h7 h8 h9 => ?_)
  · obtain ⟨r1, rfl, q1⟩ := q1
    have tz : tln D H1 a0 = tln D s.heap a0 := tlW hO ga0 K1 (by decide +kernel) (by decide +kernel)
    refine lv_i2l hx hb dL_window_7 rfl ?_
    refine w_last C S1 h0 h0 ga0 dL_window_8 (fun H2 L2 S2 e2 eo e3 => ?_)
    refine lv_goto (tgt := 15) hx hb dL_window_9 (by decide) ?_
    refine lv_iconst (v := 0) hx hb dL_window_15 (by decide) ?_
    exact w_ret hQ C S2 hr dL_window_16 (by decide) (by decide) (e2.trans tz)
  · have tz : tln D H1 a0 = tln D s.heap a0 := tlW hO ga0 K1 (by decide +kernel) (by decide +kernel)
    subst X1
    refine w_c1 C htab ⟨by decide, by decide⟩ (by decide) kl_24 kc_IOB h7 h8 h9 ?_
    refine lv_astore_n (lv' := [(3, .ref q), (0, .ref a0), (1, .int x1), (2, .ref o)]) hx hb dL_window_12 rfl hl (by decide) rfl (fun ls hl => ?_)
    refine lv_iconst (v := 1) hx hb dL_window_13 (by decide) ?_
    exact w_ret hQ C S1 hr dL_window_14 (by decide) (by decide) tz

set_option maxRecDepth 100000 in
set_option maxHeartbeats 4000000 in
theorem c_L_odds (l : Launch) (D : DD) (G : Nat → Nat) (a0 : Nat) (x1 : Int32) (o : Nat) (ga0 : G a0 = 1)  (h0 : G o = 0) : CW l D G yL_odds cL_odds 4 [(0, 9, 12, 24)] 2 1 6 [.ref a0, .int x1, .ref o] o a0 (fun _ => True) [] (fun H r H1 => (tln D H1 a0 = tln D H a0) ∧ ((r.toInt = 0 ∧ (0 ≤ x1.toInt ∧ x1.toInt < (fI D H 5 (fR D H 10 a0 1) 3).toInt) ∧ eL H1 o = (fI D H 5 (fR D H 10 a0 1) 8 * 100 + (100 - fI D H 5 (fR D H 10 a0 1) 8) * fI D H 2 (hoA D H (fR D H 10 a0 1) x1.toInt.toNat) 4).toInt64) ∨ (r.toInt = 1 ∧ (x1.toInt < 0 ∨ (fI D H 5 (fR D H 10 a0 1) 3).toInt ≤ x1.toInt)))) := by
  refine enterW (by decide) (Nat.le_of_ble_eq_true rfl) ?_
  intro hl0 p e s m args below meth c ls Q hA hQ htab C hr hO hpre hla hl
  have hx := C.1
  have hb := C.2.1
  have hl : lv_has ls 4 [(0, .ref a0), (1, .int x1), (2, .ref o)] := hl
  refine lv_aload_n hx hb dL_odds_0 rfl (lv_at hl 2 rfl) ?_
  refine lv_iconst (v := 0) hx hb dL_odds_1 (by decide) ?_
  refine lv_aload_n hx hb dL_odds_2 rfl (lv_at hl 0 rfl) ?_
  refine lv_iload_n hx hb dL_odds_3 rfl (lv_at hl 1 rfl) ?_
  refine callV_XW (As := [.int x1]) hl0 C hO h0 hla (c_X11_odds_o l D G a0 x1 ga0) kV_L_81 ga0 trivial dL_odds_4 hl.1 rfl rfl (by decide) cd_X11_odds ⟨Nat.le_of_ble_eq_true rfl, Nat.le_of_ble_eq_true rfl, Nat.le_of_ble_eq_true rfl, Nat.le_of_ble_eq_true rfl, Nat.le_of_ble_eq_true rfl⟩ (fun v H1 L1 S1 K1 q1 => ?_) (fun En H1 L1 q ce S1 K1 X1 h7 h8 h9 => ?_)
  · obtain ⟨r1, rfl, q1⟩ := q1
    have tz : tln D H1 a0 = tln D s.heap a0 := tlW hO ga0 K1 (by decide +kernel) (by decide +kernel)
    refine lv_i2l hx hb dL_odds_7 rfl ?_
    refine w_last C S1 h0 h0 ga0 dL_odds_8 (fun H2 L2 S2 e2 eo e3 => ?_)
    refine lv_goto (tgt := 15) hx hb dL_odds_9 (by decide) ?_
    refine lv_iconst (v := 0) hx hb dL_odds_15 (by decide) ?_
    exact w_ret hQ C S2 hr dL_odds_16 (by decide) (by decide) (⟨e2.trans tz, Or.inl ⟨by decide, q1.1, by rw [eo, q1.2]⟩⟩)
  · obtain ⟨X1, qx⟩ := X1
    have tz : tln D H1 a0 = tln D s.heap a0 := tlW hO ga0 K1 (by decide +kernel) (by decide +kernel)
    subst X1
    refine w_c1 C htab ⟨by decide, by decide⟩ (by decide) kl_24 kc_IOB h7 h8 h9 ?_
    refine lv_astore_n (lv' := [(3, .ref q), (0, .ref a0), (1, .int x1), (2, .ref o)]) hx hb dL_odds_12 rfl hl (by decide) rfl (fun ls hl => ?_)
    refine lv_iconst (v := 1) hx hb dL_odds_13 (by decide) ?_
    exact w_ret hQ C S1 hr dL_odds_14 (by decide) (by decide) ⟨tz, Or.inr ⟨by decide, qx⟩⟩

set_option maxRecDepth 100000 in
set_option maxHeartbeats 4000000 in
theorem c_L_broke (l : Launch) (D : DD) (G : Nat → Nat) (a0 : Nat) (x1 : Int32) (o : Nat) (ga0 : G a0 = 1)  (h0 : G o = 0) : CW l D G yL_broke cL_broke 4 [(0, 9, 12, 24)] 7 1 6 [.ref a0, .int x1, .ref o] o a0 (fun H => Dr D G H (fR D H 10 a0 2)) [(7, 0), (7, 1), (7, 2), (7, 3), (7, 4), (25, 0), (25, 1), (25, 2), (25, 3), (25, 4), (25, 5), (11, 0), (9, 1), (9, 2), (23, 3), (23, 4), (23, 5), (23, 6), (23, 7), (23, 8), (23, 9), (23, 10), (23, 11), (23, 12), (23, 13), (14, 0), (15, 0), (8, 5), (4, 10), (4, 11), (4, 12)] (fun H _ H1 => (tln D H1 a0 = tln D H a0) ∧ ∀ Vv Kv : Sg, CI D H a0 Vv Kv → CI D H1 a0 Vv Kv) := by
  refine enterW (by decide) (Nat.le_of_ble_eq_true rfl) ?_
  intro hl0 p e s m args below meth c ls Q hA hQ htab C hr hO hpre hla hl
  have hx := C.1
  have hb := C.2.1
  have hl : lv_has ls 4 [(0, .ref a0), (1, .int x1), (2, .ref o)] := hl
  refine lv_aload_n hx hb dL_broke_0 rfl (lv_at hl 2 rfl) ?_
  refine lv_iconst (v := 0) hx hb dL_broke_1 (by decide) ?_
  refine lv_aload_n hx hb dL_broke_2 rfl (lv_at hl 0 rfl) ?_
  refine lv_iload_n hx hb dL_broke_3 rfl (lv_at hl 1 rfl) ?_
  refine callV_XW (As := [.int x1]) hl0 C hO h0 hla (c_X11_broke l D G a0 x1 ga0) kV_L_84 ga0 hpre dL_broke_4 hl.1 rfl rfl (by decide) cd_X11_broke ⟨Nat.le_of_ble_eq_true rfl, Nat.le_of_ble_eq_true rfl, Nat.le_of_ble_eq_true rfl, Nat.le_of_ble_eq_true rfl, Nat.le_of_ble_eq_true rfl⟩ (fun v H1 L1 S1 K1 q1 => ?_) (fun En H1 L1 q ce S1 K1 X1 h7 h8 h9 => ?_)
  · obtain ⟨r1, rfl, q1⟩ := q1
    obtain ⟨q1, rq1⟩ := q1
    have tz : tln D H1 a0 = tln D s.heap a0 := tlW hO ga0 K1 (by decide +kernel) (by decide +kernel)
    refine lv_i2l hx hb dL_broke_7 rfl ?_
    refine w_last C S1 h0 h0 ga0 dL_broke_8 (fun H2 L2 S2 e2 eo e3 => ?_)
    refine lv_goto (tgt := 15) hx hb dL_broke_9 (by decide) ?_
    refine lv_iconst (v := 0) hx hb dL_broke_15 (by decide) ?_
    exact w_ret hQ C S2 hr dL_broke_16 (by decide) (by decide) (⟨e2.trans tz, fun Vv Kv hv => (rq1 Vv Kv hv).out S1.1 ga0 h0 S1.2.2.1 e3 S2.2.2.1⟩)
  · obtain ⟨X1, rx1⟩ := X1
    have tz : tln D H1 a0 = tln D s.heap a0 := tlW hO ga0 K1 (by decide +kernel) (by decide +kernel)
    subst X1
    refine w_c1 C htab ⟨by decide, by decide⟩ (by decide) kl_24 kc_IOB h7 h8 h9 ?_
    refine lv_astore_n (lv' := [(3, .ref q), (0, .ref a0), (1, .int x1), (2, .ref o)]) hx hb dL_broke_12 rfl hl (by decide) rfl (fun ls hl => ?_)
    refine lv_iconst (v := 1) hx hb dL_broke_13 (by decide) ?_
    exact w_ret hQ C S1 hr dL_broke_14 (by decide) (by decide) ⟨tz, rx1⟩

set_option maxRecDepth 100000 in
set_option maxHeartbeats 4000000 in
theorem c_L_game (l : Launch) (D : DD) (G : Nat → Nat) (a0 : Nat) (x1 : Int32) (o : Nat) (ga0 : G a0 = 1)  (h0 : G o = 0) : CW l D G yL_game cL_game 4 [(0, 9, 12, 24)] 5 3 14 [.ref a0, .int x1, .ref o] o a0 (fun _ => True) [(14, 0), (15, 0), (40, 0)] (fun H _ H1 => tln D H1 a0 = tln D H a0) := by
  refine enterW (by decide) (Nat.le_of_ble_eq_true rfl) ?_
  intro hl0 p e s m args below meth c ls Q hA hQ htab C hr hO hpre hla hl
  have hx := C.1
  have hb := C.2.1
  have hl : lv_has ls 4 [(0, .ref a0), (1, .int x1), (2, .ref o)] := hl
  refine lv_aload_n hx hb dL_game_0 rfl (lv_at hl 2 rfl) ?_
  refine lv_iconst (v := 0) hx hb dL_game_1 (by decide) ?_
  refine lv_aload_n hx hb dL_game_2 rfl (lv_at hl 0 rfl) ?_
  refine lv_iload_n hx hb dL_game_3 rfl (lv_at hl 1 rfl) ?_
  refine callV_XW (As := [.int x1]) hl0 C hO h0 hla (c_X11_game l D G a0 x1 ga0) kV_L_87 ga0 trivial dL_game_4 hl.1 rfl rfl (by decide) cd_X11_game ⟨Nat.le_of_ble_eq_true rfl, Nat.le_of_ble_eq_true rfl, Nat.le_of_ble_eq_true rfl, Nat.le_of_ble_eq_true rfl, Nat.le_of_ble_eq_true rfl⟩ (fun v H1 L1 S1 K1 q1 => ?_) (fun En H1 L1 q ce S1 K1 X1 h7 h8 h9 => ?_)
  · obtain ⟨r1, rfl, q1⟩ := q1
    have tz : tln D H1 a0 = tln D s.heap a0 := tlW hO ga0 K1 (by decide +kernel) (by decide +kernel)
    refine lv_i2l hx hb dL_game_7 rfl ?_
    refine w_last C S1 h0 h0 ga0 dL_game_8 (fun H2 L2 S2 e2 eo e3 => ?_)
    refine lv_goto (tgt := 15) hx hb dL_game_9 (by decide) ?_
    refine lv_iconst (v := 0) hx hb dL_game_15 (by decide) ?_
    exact w_ret hQ C S2 hr dL_game_16 (by decide) (by decide) (e2.trans tz)
  · have tz : tln D H1 a0 = tln D s.heap a0 := tlW hO ga0 K1 (by decide +kernel) (by decide +kernel)
    subst X1
    refine w_c1 C htab ⟨by decide, by decide⟩ (by decide) kl_24 kc_IOB h7 h8 h9 ?_
    refine lv_astore_n (lv' := [(3, .ref q), (0, .ref a0), (1, .int x1), (2, .ref o)]) hx hb dL_game_12 rfl hl (by decide) rfl (fun ls hl => ?_)
    refine lv_iconst (v := 1) hx hb dL_game_13 (by decide) ?_
    exact w_ret hQ C S1 hr dL_game_14 (by decide) (by decide) tz

set_option maxRecDepth 100000 in
set_option maxHeartbeats 4000000 in
theorem c_L_crowd (l : Launch) (D : DD) (G : Nat → Nat) (a0 : Nat) (x1 : Int32) (o : Nat) (ga0 : G a0 = 1)  (h0 : G o = 0) : CW l D G yL_crowd cL_crowd 4 [(0, 9, 12, 24)] 2 1 6 [.ref a0, .int x1, .ref o] o a0 (fun _ => True) [] (fun H _ H1 => tln D H1 a0 = tln D H a0) := by
  refine enterW (by decide) (Nat.le_of_ble_eq_true rfl) ?_
  intro hl0 p e s m args below meth c ls Q hA hQ htab C hr hO hpre hla hl
  have hx := C.1
  have hb := C.2.1
  have hl : lv_has ls 4 [(0, .ref a0), (1, .int x1), (2, .ref o)] := hl
  refine lv_aload_n hx hb dL_crowd_0 rfl (lv_at hl 2 rfl) ?_
  refine lv_iconst (v := 0) hx hb dL_crowd_1 (by decide) ?_
  refine lv_aload_n hx hb dL_crowd_2 rfl (lv_at hl 0 rfl) ?_
  refine lv_iload_n hx hb dL_crowd_3 rfl (lv_at hl 1 rfl) ?_
  refine callV_XW (As := [.int x1]) hl0 C hO h0 hla (c_X11_crowd l D G a0 x1 ga0) kV_L_90 ga0 trivial dL_crowd_4 hl.1 rfl rfl (by decide) cd_X11_crowd ⟨Nat.le_of_ble_eq_true rfl, Nat.le_of_ble_eq_true rfl, Nat.le_of_ble_eq_true rfl, Nat.le_of_ble_eq_true rfl, Nat.le_of_ble_eq_true rfl⟩ (fun v H1 L1 S1 K1 q1 => ?_) (fun En H1 L1 q ce S1 K1 X1 h7 h8 h9 => ?_)
  · obtain ⟨r1, rfl, q1⟩ := q1
    have tz : tln D H1 a0 = tln D s.heap a0 := tlW hO ga0 K1 (by decide +kernel) (by decide +kernel)
    refine lv_i2l hx hb dL_crowd_7 rfl ?_
    refine w_last C S1 h0 h0 ga0 dL_crowd_8 (fun H2 L2 S2 e2 eo e3 => ?_)
    refine lv_goto (tgt := 15) hx hb dL_crowd_9 (by decide) ?_
    refine lv_iconst (v := 0) hx hb dL_crowd_15 (by decide) ?_
    exact w_ret hQ C S2 hr dL_crowd_16 (by decide) (by decide) (e2.trans tz)
  · have tz : tln D H1 a0 = tln D s.heap a0 := tlW hO ga0 K1 (by decide +kernel) (by decide +kernel)
    subst X1
    refine w_c1 C htab ⟨by decide, by decide⟩ (by decide) kl_24 kc_IOB h7 h8 h9 ?_
    refine lv_astore_n (lv' := [(3, .ref q), (0, .ref a0), (1, .int x1), (2, .ref o)]) hx hb dL_crowd_12 rfl hl (by decide) rfl (fun ls hl => ?_)
    refine lv_iconst (v := 1) hx hb dL_crowd_13 (by decide) ?_
    exact w_ret hQ C S1 hr dL_crowd_14 (by decide) (by decide) tz

set_option maxRecDepth 100000 in
set_option maxHeartbeats 4000000 in
theorem c_L_warmer (l : Launch) (D : DD) (G : Nat → Nat) (a0 : Nat) (x1 : Int32) (o : Nat) (ga0 : G a0 = 1)  (h0 : G o = 0) : CW l D G yL_warmer cL_warmer 4 [(0, 9, 12, 24)] 5 1 6 [.ref a0, .int x1, .ref o] o a0 (fun _ => True) [(14, 0), (15, 0), (19, 0)] (fun H _ H1 => tln D H1 a0 = tln D H a0) := by
  refine enterW (by decide) (Nat.le_of_ble_eq_true rfl) ?_
  intro hl0 p e s m args below meth c ls Q hA hQ htab C hr hO hpre hla hl
  have hx := C.1
  have hb := C.2.1
  have hl : lv_has ls 4 [(0, .ref a0), (1, .int x1), (2, .ref o)] := hl
  refine lv_aload_n hx hb dL_warmer_0 rfl (lv_at hl 2 rfl) ?_
  refine lv_iconst (v := 0) hx hb dL_warmer_1 (by decide) ?_
  refine lv_aload_n hx hb dL_warmer_2 rfl (lv_at hl 0 rfl) ?_
  refine lv_iload_n hx hb dL_warmer_3 rfl (lv_at hl 1 rfl) ?_
  refine callV_XW (As := [.int x1]) hl0 C hO h0 hla (c_X11_warmer l D G a0 x1 ga0) kV_L_93 ga0 trivial dL_warmer_4 hl.1 rfl rfl (by decide) cd_X11_warmer ⟨Nat.le_of_ble_eq_true rfl, Nat.le_of_ble_eq_true rfl, Nat.le_of_ble_eq_true rfl, Nat.le_of_ble_eq_true rfl, Nat.le_of_ble_eq_true rfl⟩ (fun v H1 L1 S1 K1 q1 => ?_) (fun En H1 L1 q ce S1 K1 X1 h7 h8 h9 => ?_)
  · obtain ⟨r1, rfl, q1⟩ := q1
    have tz : tln D H1 a0 = tln D s.heap a0 := tlW hO ga0 K1 (by decide +kernel) (by decide +kernel)
    refine lv_i2l hx hb dL_warmer_7 rfl ?_
    refine w_last C S1 h0 h0 ga0 dL_warmer_8 (fun H2 L2 S2 e2 eo e3 => ?_)
    refine lv_goto (tgt := 15) hx hb dL_warmer_9 (by decide) ?_
    refine lv_iconst (v := 0) hx hb dL_warmer_15 (by decide) ?_
    exact w_ret hQ C S2 hr dL_warmer_16 (by decide) (by decide) (e2.trans tz)
  · have tz : tln D H1 a0 = tln D s.heap a0 := tlW hO ga0 K1 (by decide +kernel) (by decide +kernel)
    subst X1
    refine w_c1 C htab ⟨by decide, by decide⟩ (by decide) kl_24 kc_IOB h7 h8 h9 ?_
    refine lv_astore_n (lv' := [(3, .ref q), (0, .ref a0), (1, .int x1), (2, .ref o)]) hx hb dL_warmer_12 rfl hl (by decide) rfl (fun ls hl => ?_)
    refine lv_iconst (v := 1) hx hb dL_warmer_13 (by decide) ?_
    exact w_ret hQ C S1 hr dL_warmer_14 (by decide) (by decide) tz

set_option maxRecDepth 100000 in
set_option maxHeartbeats 4000000 in
theorem c_L_first (l : Launch) (D : DD) (G : Nat → Nat) (a0 : Nat) (x1 : Int32) (o : Nat) (ga0 : G a0 = 1)  (h0 : G o = 0) : CW l D G yL_first cL_first 4 [(0, 9, 12, 13)] 7 1 6 [.ref a0, .int x1, .ref o] o a0 (fun H => Dr D G H (fR D H 10 a0 2)) [(7, 0), (7, 1), (7, 2), (7, 3), (7, 4), (25, 0), (25, 1), (25, 2), (25, 3), (25, 4), (25, 5), (11, 0), (9, 1), (9, 2), (23, 3), (23, 4), (23, 5), (23, 6), (23, 7), (23, 8), (23, 9), (23, 10), (23, 11), (23, 12), (23, 13), (14, 0), (15, 0), (8, 5), (4, 10), (4, 11), (4, 12)] (fun H _ H1 => (tln D H1 a0 = tln D H a0) ∧ ∀ Vv Kv : Sg, CI D H a0 Vv Kv → CI D H1 a0 Vv Kv) := by
  refine enterW (by decide) (Nat.le_of_ble_eq_true rfl) ?_
  intro hl0 p e s m args below meth c ls Q hA hQ htab C hr hO hpre hla hl
  have hx := C.1
  have hb := C.2.1
  have hl : lv_has ls 4 [(0, .ref a0), (1, .int x1), (2, .ref o)] := hl
  refine lv_aload_n hx hb dL_first_0 rfl (lv_at hl 2 rfl) ?_
  refine lv_iconst (v := 0) hx hb dL_first_1 (by decide) ?_
  refine lv_aload_n hx hb dL_first_2 rfl (lv_at hl 0 rfl) ?_
  refine lv_iload_n hx hb dL_first_3 rfl (lv_at hl 1 rfl) ?_
  refine callV_XW (As := [.int x1]) hl0 C hO h0 hla (c_X11_first l D G a0 x1 ga0) kV_L_96 ga0 hpre dL_first_4 hl.1 rfl rfl (by decide) cd_X11_first ⟨Nat.le_of_ble_eq_true rfl, Nat.le_of_ble_eq_true rfl, Nat.le_of_ble_eq_true rfl, Nat.le_of_ble_eq_true rfl, Nat.le_of_ble_eq_true rfl⟩ (fun v H1 L1 S1 K1 q1 => ?_) (fun En H1 L1 q ce S1 K1 X1 h7 h8 h9 => ?_)
  · obtain ⟨r1, rfl, q1⟩ := q1
    obtain ⟨q1, rq1⟩ := q1
    have tz : tln D H1 a0 = tln D s.heap a0 := tlW hO ga0 K1 (by decide +kernel) (by decide +kernel)
    refine lv_i2l hx hb dL_first_7 rfl ?_
    refine w_last C S1 h0 h0 ga0 dL_first_8 (fun H2 L2 S2 e2 eo e3 => ?_)
    refine lv_goto (tgt := 15) hx hb dL_first_9 (by decide) ?_
    refine lv_iconst (v := 0) hx hb dL_first_15 (by decide) ?_
    exact w_ret hQ C S2 hr dL_first_16 (by decide) (by decide) (⟨e2.trans tz, fun Vv Kv hv => (rq1 Vv Kv hv).out S1.1 ga0 h0 S1.2.2.1 e3 S2.2.2.1⟩)
  · obtain ⟨X1, rx1⟩ := X1
    have tz : tln D H1 a0 = tln D s.heap a0 := tlW hO ga0 K1 (by decide +kernel) (by decide +kernel)
    subst X1
    refine w_c1 C htab ⟨by decide, by decide⟩ (by decide) kl_13 kc_IAE h7 h8 h9 ?_
    refine lv_astore_n (lv' := [(3, .ref q), (0, .ref a0), (1, .int x1), (2, .ref o)]) hx hb dL_first_12 rfl hl (by decide) rfl (fun ls hl => ?_)
    refine lv_iconst (v := 1) hx hb dL_first_13 (by decide) ?_
    exact w_ret hQ C S1 hr dL_first_14 (by decide) (by decide) ⟨tz, rx1⟩

set_option maxRecDepth 100000 in
set_option maxHeartbeats 4000000 in
theorem c_L_least (l : Launch) (D : DD) (G : Nat → Nat) (a0 : Nat) (x1 : Int32) (x2 : Int32) (o : Nat) (ga0 : G a0 = 1)  (h0 : G o = 0) : CW l D G yL_least cL_least 5 [(0, 10, 13, 24), (0, 10, 17, 13)] 5 2 12 [.ref a0, .int x1, .int x2, .ref o] o a0 (fun _ => True) [(14, 0), (15, 0), (19, 0)] (fun H _ H1 => tln D H1 a0 = tln D H a0) := by
  refine enterW (by decide) (Nat.le_of_ble_eq_true rfl) ?_
  intro hl0 p e s m args below meth c ls Q hA hQ htab C hr hO hpre hla hl
  have hx := C.1
  have hb := C.2.1
  have hl : lv_has ls 5 [(0, .ref a0), (1, .int x1), (2, .int x2), (3, .ref o)] := hl
  refine lv_aload_n hx hb dL_least_0 rfl (lv_at hl 3 rfl) ?_
  refine lv_iconst (v := 0) hx hb dL_least_1 (by decide) ?_
  refine lv_aload_n hx hb dL_least_2 rfl (lv_at hl 0 rfl) ?_
  refine lv_iload_n hx hb dL_least_3 rfl (lv_at hl 1 rfl) ?_
  refine lv_iload_n hx hb dL_least_4 rfl (lv_at hl 2 rfl) ?_
  refine callV_XW (As := [.int x1, .int x2]) hl0 C hO h0 hla (c_X11_least l D G a0 x1 x2 ga0) kV_L_99 ga0 trivial dL_least_5 hl.1 rfl rfl (by decide) cd_X11_least ⟨Nat.le_of_ble_eq_true rfl, Nat.le_of_ble_eq_true rfl, Nat.le_of_ble_eq_true rfl, Nat.le_of_ble_eq_true rfl, Nat.le_of_ble_eq_true rfl⟩ (fun v H1 L1 S1 K1 q1 => ?_) (fun En H1 L1 q ce S1 K1 X1 h7 h8 h9 => ?_)
  · obtain ⟨r1, rfl, q1⟩ := q1
    have tz : tln D H1 a0 = tln D s.heap a0 := tlW hO ga0 K1 (by decide +kernel) (by decide +kernel)
    refine lv_i2l hx hb dL_least_8 rfl ?_
    refine w_last C S1 h0 h0 ga0 dL_least_9 (fun H2 L2 S2 e2 eo e3 => ?_)
    refine lv_goto (tgt := 21) hx hb dL_least_10 (by decide) ?_
    refine lv_iconst (v := 0) hx hb dL_least_21 (by decide) ?_
    exact w_ret hQ C S2 hr dL_least_22 (by decide) (by decide) (e2.trans tz)
  · have tz : tln D H1 a0 = tln D s.heap a0 := tlW hO ga0 K1 (by decide +kernel) (by decide +kernel)
    rcases X1 with rfl | rfl
    · refine w_c1 C htab ⟨by decide, by decide⟩ (by decide) kl_24 kc_IOB h7 h8 h9 ?_
      refine lv_astore (lv' := [(4, .ref q), (0, .ref a0), (1, .int x1), (2, .int x2), (3, .ref o)]) hx hb dL_least_13 hl (by decide) rfl (fun ls hl => ?_)
      refine lv_iconst (v := 1) hx hb dL_least_15 (by decide) ?_
      exact w_ret hQ C S1 hr dL_least_16 (by decide) (by decide) tz
    · refine w_c2 C htab ⟨by decide, by decide⟩ (by decide) (by decide) kl_24 (by decide +kernel) kl_13 kc_IAE h7 h8 h9 ?_
      refine lv_astore (lv' := [(4, .ref q), (0, .ref a0), (1, .int x1), (2, .int x2), (3, .ref o)]) hx hb dL_least_17 hl (by decide) rfl (fun ls hl => ?_)
      refine lv_iconst (v := 2) hx hb dL_least_19 (by decide) ?_
      exact w_ret hQ C S1 hr dL_least_20 (by decide) (by decide) tz

set_option maxRecDepth 100000 in
set_option maxHeartbeats 4000000 in
theorem c_L_ahead (l : Launch) (D : DD) (G : Nat → Nat) (a0 : Nat) (x1 : Int32) (x2 : Int32) (o : Nat) (ga0 : G a0 = 1)  (h0 : G o = 0) : CW l D G yL_ahead cL_ahead 5 [(0, 10, 13, 24), (0, 10, 17, 13)] 7 2 12 [.ref a0, .int x1, .int x2, .ref o] o a0 (fun H => Dr D G H (fR D H 10 a0 2)) [(7, 0), (7, 1), (7, 2), (7, 3), (7, 4), (25, 0), (25, 1), (25, 2), (25, 3), (25, 4), (25, 5), (11, 0), (9, 1), (9, 2), (23, 3), (23, 4), (23, 5), (23, 6), (23, 7), (23, 8), (23, 9), (23, 10), (23, 11), (23, 12), (23, 13), (14, 0), (15, 0), (8, 5), (4, 10), (4, 11), (4, 12)] (fun H _ H1 => (tln D H1 a0 = tln D H a0) ∧ ∀ Vv Kv : Sg, CI D H a0 Vv Kv → CI D H1 a0 Vv Kv) := by
  refine enterW (by decide) (Nat.le_of_ble_eq_true rfl) ?_
  intro hl0 p e s m args below meth c ls Q hA hQ htab C hr hO hpre hla hl
  have hx := C.1
  have hb := C.2.1
  have hl : lv_has ls 5 [(0, .ref a0), (1, .int x1), (2, .int x2), (3, .ref o)] := hl
  refine lv_aload_n hx hb dL_ahead_0 rfl (lv_at hl 3 rfl) ?_
  refine lv_iconst (v := 0) hx hb dL_ahead_1 (by decide) ?_
  refine lv_aload_n hx hb dL_ahead_2 rfl (lv_at hl 0 rfl) ?_
  refine lv_iload_n hx hb dL_ahead_3 rfl (lv_at hl 1 rfl) ?_
  refine lv_iload_n hx hb dL_ahead_4 rfl (lv_at hl 2 rfl) ?_
  refine callV_XW (As := [.int x1, .int x2]) hl0 C hO h0 hla (c_X11_ahead l D G a0 x1 x2 ga0) kV_L_102 ga0 hpre dL_ahead_5 hl.1 rfl rfl (by decide) cd_X11_ahead ⟨Nat.le_of_ble_eq_true rfl, Nat.le_of_ble_eq_true rfl, Nat.le_of_ble_eq_true rfl, Nat.le_of_ble_eq_true rfl, Nat.le_of_ble_eq_true rfl⟩ (fun v H1 L1 S1 K1 q1 => ?_) (fun En H1 L1 q ce S1 K1 X1 h7 h8 h9 => ?_)
  · obtain ⟨r1, rfl, q1⟩ := q1
    obtain ⟨q1, rq1⟩ := q1
    have tz : tln D H1 a0 = tln D s.heap a0 := tlW hO ga0 K1 (by decide +kernel) (by decide +kernel)
    refine lv_i2l hx hb dL_ahead_8 rfl ?_
    refine w_last C S1 h0 h0 ga0 dL_ahead_9 (fun H2 L2 S2 e2 eo e3 => ?_)
    refine lv_goto (tgt := 21) hx hb dL_ahead_10 (by decide) ?_
    refine lv_iconst (v := 0) hx hb dL_ahead_21 (by decide) ?_
    exact w_ret hQ C S2 hr dL_ahead_22 (by decide) (by decide) (⟨e2.trans tz, fun Vv Kv hv => (rq1 Vv Kv hv).out S1.1 ga0 h0 S1.2.2.1 e3 S2.2.2.1⟩)
  · obtain ⟨X1, rx1⟩ := X1
    have tz : tln D H1 a0 = tln D s.heap a0 := tlW hO ga0 K1 (by decide +kernel) (by decide +kernel)
    rcases X1 with rfl | rfl
    · refine w_c1 C htab ⟨by decide, by decide⟩ (by decide) kl_24 kc_IOB h7 h8 h9 ?_
      refine lv_astore (lv' := [(4, .ref q), (0, .ref a0), (1, .int x1), (2, .int x2), (3, .ref o)]) hx hb dL_ahead_13 hl (by decide) rfl (fun ls hl => ?_)
      refine lv_iconst (v := 1) hx hb dL_ahead_15 (by decide) ?_
      exact w_ret hQ C S1 hr dL_ahead_16 (by decide) (by decide) ⟨tz, rx1⟩
    · refine w_c2 C htab ⟨by decide, by decide⟩ (by decide) (by decide) kl_24 (by decide +kernel) kl_13 kc_IAE h7 h8 h9 ?_
      refine lv_astore (lv' := [(4, .ref q), (0, .ref a0), (1, .int x1), (2, .int x2), (3, .ref o)]) hx hb dL_ahead_17 hl (by decide) rfl (fun ls hl => ?_)
      refine lv_iconst (v := 2) hx hb dL_ahead_19 (by decide) ?_
      exact w_ret hQ C S1 hr dL_ahead_20 (by decide) (by decide) ⟨tz, rx1⟩

set_option maxRecDepth 100000 in
set_option maxHeartbeats 4000000 in
theorem c_L_trial (l : Launch) (D : DD) (G : Nat → Nat) (a0 : Nat) (x1 : Int32) (x2 : Int32) (o : Nat) (ga0 : G a0 = 1) (ix2 : 0 ≤ x2.toInt ∧ x2.toInt ≤ 1) (h0 : G o = 0) : CW l D G yL_trial cL_trial 5 [(0, 10, 13, 13)] 8 1 6 [.ref a0, .int x1, .int x2, .ref o] o a0 (fun H => Dr D G H (fR D H 10 a0 2)) [(7, 0), (7, 1), (7, 2), (7, 3), (7, 4), (25, 0), (25, 1), (25, 2), (25, 3), (25, 4), (25, 5), (11, 0), (9, 1), (9, 2), (23, 3), (23, 4), (23, 5), (23, 6), (23, 7), (23, 8), (23, 9), (23, 10), (23, 11), (23, 12), (23, 13), (14, 0), (15, 0), (8, 5), (4, 10), (4, 11), (4, 12)] (fun H _ H1 => (tln D H1 a0 = tln D H a0) ∧ ∀ Vv Kv : Sg, CI D H a0 Vv Kv → CI D H1 a0 Vv Kv) := by
  refine enterW (by decide) (Nat.le_of_ble_eq_true rfl) ?_
  intro hl0 p e s m args below meth c ls Q hA hQ htab C hr hO hpre hla hl
  have hx := C.1
  have hb := C.2.1
  have hl : lv_has ls 5 [(0, .ref a0), (1, .int x1), (2, .int x2), (3, .ref o)] := hl
  refine lv_aload_n hx hb dL_trial_0 rfl (lv_at hl 3 rfl) ?_
  refine lv_iconst (v := 0) hx hb dL_trial_1 (by decide) ?_
  refine lv_aload_n hx hb dL_trial_2 rfl (lv_at hl 0 rfl) ?_
  refine lv_iload_n hx hb dL_trial_3 rfl (lv_at hl 1 rfl) ?_
  refine lv_iload_n hx hb dL_trial_4 rfl (lv_at hl 2 rfl) ?_
  refine callV_XW (As := [.int x1, .int x2]) hl0 C hO h0 hla (c_X11_trial l D G a0 x1 x2 ga0 ix2) kV_L_105 ga0 hpre dL_trial_5 hl.1 rfl rfl (by decide) cd_X11_trial ⟨Nat.le_of_ble_eq_true rfl, Nat.le_of_ble_eq_true rfl, Nat.le_of_ble_eq_true rfl, Nat.le_of_ble_eq_true rfl, Nat.le_of_ble_eq_true rfl⟩ (fun v H1 L1 S1 K1 q1 => ?_) (fun En H1 L1 q ce S1 K1 X1 h7 h8 h9 => ?_)
  · obtain ⟨r1, rfl, q1⟩ := q1
    obtain ⟨q1, rq1⟩ := q1
    have tz : tln D H1 a0 = tln D s.heap a0 := tlW hO ga0 K1 (by decide +kernel) (by decide +kernel)
    refine lv_i2l hx hb dL_trial_8 rfl ?_
    refine w_last C S1 h0 h0 ga0 dL_trial_9 (fun H2 L2 S2 e2 eo e3 => ?_)
    refine lv_goto (tgt := 17) hx hb dL_trial_10 (by decide) ?_
    refine lv_iconst (v := 0) hx hb dL_trial_17 (by decide) ?_
    exact w_ret hQ C S2 hr dL_trial_18 (by decide) (by decide) (⟨e2.trans tz, fun Vv Kv hv => (rq1 Vv Kv hv).out S1.1 ga0 h0 S1.2.2.1 e3 S2.2.2.1⟩)
  · obtain ⟨X1, rx1⟩ := X1
    have tz : tln D H1 a0 = tln D s.heap a0 := tlW hO ga0 K1 (by decide +kernel) (by decide +kernel)
    subst X1
    refine w_c1 C htab ⟨by decide, by decide⟩ (by decide) kl_13 kc_IAE h7 h8 h9 ?_
    refine lv_astore (lv' := [(4, .ref q), (0, .ref a0), (1, .int x1), (2, .int x2), (3, .ref o)]) hx hb dL_trial_13 hl (by decide) rfl (fun ls hl => ?_)
    refine lv_iconst (v := 1) hx hb dL_trial_15 (by decide) ?_
    exact w_ret hQ C S1 hr dL_trial_16 (by decide) (by decide) ⟨tz, rx1⟩

set_option maxRecDepth 100000 in
set_option maxHeartbeats 4000000 in
theorem c_L_span (l : Launch) (D : DD) (G : Nat → Nat) (a0 : Nat) (x1 : Int32) (x2 : Int32) (o : Nat) (ga0 : G a0 = 1) (ix2 : 0 ≤ x2.toInt ∧ x2.toInt ≤ 1) (h0 : G o = 0) : CW l D G yL_span cL_span 5 [(0, 10, 13, 13)] 8 1 6 [.ref a0, .int x1, .int x2, .ref o] o a0 (fun H => Dr D G H (fR D H 10 a0 2)) [(7, 0), (7, 1), (7, 2), (7, 3), (7, 4), (25, 0), (25, 1), (25, 2), (25, 3), (25, 4), (25, 5), (11, 0), (9, 1), (9, 2), (23, 3), (23, 4), (23, 5), (23, 6), (23, 7), (23, 8), (23, 9), (23, 10), (23, 11), (23, 12), (23, 13), (14, 0), (15, 0), (8, 5), (4, 10), (4, 11), (4, 12)] (fun H _ H1 => (tln D H1 a0 = tln D H a0) ∧ ∀ Vv Kv : Sg, CI D H a0 Vv Kv → CI D H1 a0 Vv Kv) := by
  refine enterW (by decide) (Nat.le_of_ble_eq_true rfl) ?_
  intro hl0 p e s m args below meth c ls Q hA hQ htab C hr hO hpre hla hl
  have hx := C.1
  have hb := C.2.1
  have hl : lv_has ls 5 [(0, .ref a0), (1, .int x1), (2, .int x2), (3, .ref o)] := hl
  refine lv_aload_n hx hb dL_span_0 rfl (lv_at hl 3 rfl) ?_
  refine lv_iconst (v := 0) hx hb dL_span_1 (by decide) ?_
  refine lv_aload_n hx hb dL_span_2 rfl (lv_at hl 0 rfl) ?_
  refine lv_iload_n hx hb dL_span_3 rfl (lv_at hl 1 rfl) ?_
  refine lv_iload_n hx hb dL_span_4 rfl (lv_at hl 2 rfl) ?_
  refine callV_XW (As := [.int x1, .int x2]) hl0 C hO h0 hla (c_X11_span l D G a0 x1 x2 ga0 ix2) kV_L_108 ga0 hpre dL_span_5 hl.1 rfl rfl (by decide) cd_X11_span ⟨Nat.le_of_ble_eq_true rfl, Nat.le_of_ble_eq_true rfl, Nat.le_of_ble_eq_true rfl, Nat.le_of_ble_eq_true rfl, Nat.le_of_ble_eq_true rfl⟩ (fun v H1 L1 S1 K1 q1 => ?_) (fun En H1 L1 q ce S1 K1 X1 h7 h8 h9 => ?_)
  · obtain ⟨r1, rfl, q1⟩ := q1
    obtain ⟨q1, rq1⟩ := q1
    have tz : tln D H1 a0 = tln D s.heap a0 := tlW hO ga0 K1 (by decide +kernel) (by decide +kernel)
    refine lv_i2l hx hb dL_span_8 rfl ?_
    refine w_last C S1 h0 h0 ga0 dL_span_9 (fun H2 L2 S2 e2 eo e3 => ?_)
    refine lv_goto (tgt := 17) hx hb dL_span_10 (by decide) ?_
    refine lv_iconst (v := 0) hx hb dL_span_17 (by decide) ?_
    exact w_ret hQ C S2 hr dL_span_18 (by decide) (by decide) (⟨e2.trans tz, fun Vv Kv hv => (rq1 Vv Kv hv).out S1.1 ga0 h0 S1.2.2.1 e3 S2.2.2.1⟩)
  · obtain ⟨X1, rx1⟩ := X1
    have tz : tln D H1 a0 = tln D s.heap a0 := tlW hO ga0 K1 (by decide +kernel) (by decide +kernel)
    subst X1
    refine w_c1 C htab ⟨by decide, by decide⟩ (by decide) kl_13 kc_IAE h7 h8 h9 ?_
    refine lv_astore (lv' := [(4, .ref q), (0, .ref a0), (1, .int x1), (2, .int x2), (3, .ref o)]) hx hb dL_span_13 hl (by decide) rfl (fun ls hl => ?_)
    refine lv_iconst (v := 1) hx hb dL_span_15 (by decide) ?_
    exact w_ret hQ C S1 hr dL_span_16 (by decide) (by decide) ⟨tz, rx1⟩

set_option maxRecDepth 100000 in
set_option maxHeartbeats 4000000 in
theorem c_L_led (l : Launch) (D : DD) (G : Nat → Nat) (a0 : Nat) (x1 : Int32) (x2 : Int32) (o : Nat) (ga0 : G a0 = 1) (ix2 : 0 ≤ x2.toInt ∧ x2.toInt ≤ 1) (h0 : G o = 0) : CW l D G yL_led cL_led 5 [(0, 10, 13, 24)] 3 1 6 [.ref a0, .int x1, .int x2, .ref o] o a0 (fun _ => True) [] (fun H _ H1 => tln D H1 a0 = tln D H a0) := by
  refine enterW (by decide) (Nat.le_of_ble_eq_true rfl) ?_
  intro hl0 p e s m args below meth c ls Q hA hQ htab C hr hO hpre hla hl
  have hx := C.1
  have hb := C.2.1
  have hl : lv_has ls 5 [(0, .ref a0), (1, .int x1), (2, .int x2), (3, .ref o)] := hl
  refine lv_aload_n hx hb dL_led_0 rfl (lv_at hl 3 rfl) ?_
  refine lv_iconst (v := 0) hx hb dL_led_1 (by decide) ?_
  refine lv_aload_n hx hb dL_led_2 rfl (lv_at hl 0 rfl) ?_
  refine lv_iload_n hx hb dL_led_3 rfl (lv_at hl 1 rfl) ?_
  refine lv_iload_n hx hb dL_led_4 rfl (lv_at hl 2 rfl) ?_
  refine callV_XW (As := [.int x1, .int x2]) hl0 C hO h0 hla (c_X11_led l D G a0 x1 x2 ga0 ix2) kV_L_111 ga0 trivial dL_led_5 hl.1 rfl rfl (by decide) cd_X11_led ⟨Nat.le_of_ble_eq_true rfl, Nat.le_of_ble_eq_true rfl, Nat.le_of_ble_eq_true rfl, Nat.le_of_ble_eq_true rfl, Nat.le_of_ble_eq_true rfl⟩ (fun v H1 L1 S1 K1 q1 => ?_) (fun En H1 L1 q ce S1 K1 X1 h7 h8 h9 => ?_)
  · obtain ⟨r1, rfl, q1⟩ := q1
    have tz : tln D H1 a0 = tln D s.heap a0 := tlW hO ga0 K1 (by decide +kernel) (by decide +kernel)
    refine lv_i2l hx hb dL_led_8 rfl ?_
    refine w_last C S1 h0 h0 ga0 dL_led_9 (fun H2 L2 S2 e2 eo e3 => ?_)
    refine lv_goto (tgt := 17) hx hb dL_led_10 (by decide) ?_
    refine lv_iconst (v := 0) hx hb dL_led_17 (by decide) ?_
    exact w_ret hQ C S2 hr dL_led_18 (by decide) (by decide) (e2.trans tz)
  · have tz : tln D H1 a0 = tln D s.heap a0 := tlW hO ga0 K1 (by decide +kernel) (by decide +kernel)
    subst X1
    refine w_c1 C htab ⟨by decide, by decide⟩ (by decide) kl_24 kc_IOB h7 h8 h9 ?_
    refine lv_astore (lv' := [(4, .ref q), (0, .ref a0), (1, .int x1), (2, .int x2), (3, .ref o)]) hx hb dL_led_13 hl (by decide) rfl (fun ls hl => ?_)
    refine lv_iconst (v := 1) hx hb dL_led_15 (by decide) ?_
    exact w_ret hQ C S1 hr dL_led_16 (by decide) (by decide) tz

set_option maxRecDepth 100000 in
set_option maxHeartbeats 4000000 in
theorem c_L_log (l : Launch) (D : DD) (G : Nat → Nat) (a0 : Nat) (x1 : Int32) (x2 : Int32) (o : Nat) (ga0 : G a0 = 1)  (h0 : G o = 0) : CW l D G yL_log cL_log 5 [(0, 10, 13, 26)] 2 1 6 [.ref a0, .int x1, .int x2, .ref o] o a0 (fun _ => True) [] (fun H _ H1 => tln D H1 a0 = tln D H a0) := by
  refine enterW (by decide) (Nat.le_of_ble_eq_true rfl) ?_
  intro hl0 p e s m args below meth c ls Q hA hQ htab C hr hO hpre hla hl
  have hx := C.1
  have hb := C.2.1
  have hl : lv_has ls 5 [(0, .ref a0), (1, .int x1), (2, .int x2), (3, .ref o)] := hl
  refine lv_aload_n hx hb dL_log_0 rfl (lv_at hl 3 rfl) ?_
  refine lv_iconst (v := 0) hx hb dL_log_1 (by decide) ?_
  refine lv_aload_n hx hb dL_log_2 rfl (lv_at hl 0 rfl) ?_
  refine lv_iload_n hx hb dL_log_3 rfl (lv_at hl 1 rfl) ?_
  refine lv_iload_n hx hb dL_log_4 rfl (lv_at hl 2 rfl) ?_
  refine callV_XW (As := [.int x1, .int x2]) hl0 C hO h0 hla (c_X11_log l D G a0 x1 x2 ga0) kV_L_114 ga0 trivial dL_log_5 hl.1 rfl rfl (by decide) cd_X11_log ⟨Nat.le_of_ble_eq_true rfl, Nat.le_of_ble_eq_true rfl, Nat.le_of_ble_eq_true rfl, Nat.le_of_ble_eq_true rfl, Nat.le_of_ble_eq_true rfl⟩ (fun v H1 L1 S1 K1 q1 => ?_) (fun En H1 L1 q ce S1 K1 X1 h7 h8 h9 => ?_)
  · obtain ⟨r1, rfl, q1⟩ := q1
    have tz : tln D H1 a0 = tln D s.heap a0 := tlW hO ga0 K1 (by decide +kernel) (by decide +kernel)
    refine lv_i2l hx hb dL_log_8 rfl ?_
    refine w_last C S1 h0 h0 ga0 dL_log_9 (fun H2 L2 S2 e2 eo e3 => ?_)
    refine lv_goto (tgt := 17) hx hb dL_log_10 (by decide) ?_
    refine lv_iconst (v := 0) hx hb dL_log_17 (by decide) ?_
    exact w_ret hQ C S2 hr dL_log_18 (by decide) (by decide) (e2.trans tz)
  · have tz : tln D H1 a0 = tln D s.heap a0 := tlW hO ga0 K1 (by decide +kernel) (by decide +kernel)
    subst X1
    refine w_c1 C htab ⟨by decide, by decide⟩ (by decide) kl_26 kc_NSE h7 h8 h9 ?_
    refine lv_astore (lv' := [(4, .ref q), (0, .ref a0), (1, .int x1), (2, .int x2), (3, .ref o)]) hx hb dL_log_13 hl (by decide) rfl (fun ls hl => ?_)
    refine lv_iconst (v := 1) hx hb dL_log_15 (by decide) ?_
    exact w_ret hQ C S1 hr dL_log_16 (by decide) (by decide) tz
