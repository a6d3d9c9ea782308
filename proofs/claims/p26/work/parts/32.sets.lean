set_option maxRecDepth 100000 in
set_option maxHeartbeats 4000000 in
theorem c_X7_remember (l : Launch) (D : DD) (G : Nat → Nat) (a0 : Nat) (a1 : Nat) (ga0 : G a0 = 16) (ga1 : G a1 = 4) : CE l D G yX7_remember cX7_remember 2 none 2 [.ref a0, .ref a1] (fun _ => True) [(7, 0), (7, 1), (7, 2), (7, 3), (7, 4), (8, 0), (8, 1), (8, 2), (8, 3), (8, 4), (8, 5), (11, 0), (9, 1), (9, 2), (4, 3), (4, 4), (4, 5), (4, 6), (4, 7), (4, 8), (4, 9), (4, 10), (4, 11), (4, 12), (4, 13), (16, 1), (16, 2)] (xV (fun H H1 => BC D G H H1 (eR H (fR D H 7 a0 0) (fI D H 7 a0 1).toInt.toNat) a1 ∧ (fI D H1 7 a0 1).toInt = ((fI D H 7 a0 1).toInt + 1) % 12 ∧ (fI D H1 7 a0 2).toInt = min 12 ((fI D H 7 a0 2).toInt + 1))) := by
  refine enter (by decide) (Nat.le_of_ble_eq_true rfl) ?_
  intro p e s m args below meth c ls Q hA hQ C hr hO hpre hl
  have hx := C.1
  have hb := C.2.1
  have S : Sd D G [(7, 0), (7, 1), (7, 2), (7, 3), (7, 4), (8, 0), (8, 1), (8, 2), (8, 3), (8, 4), (8, 5), (11, 0), (9, 1), (9, 2), (4, 3), (4, 4), (4, 5), (4, 6), (4, 7), (4, 8), (4, 9), (4, 10), (4, 11), (4, 12), (4, 13), (16, 1), (16, 2)] s.heap s.heap [] := Sd.start hO
  have hl : lv_has ls 2 [(0, .ref a0), (1, .ref a1)] := hl
  refine lv_aload_n hx hb dX7_remember_0 rfl (lv_at hl 0 rfl) ?_
  refine q_gr (T := TX7) C S.1 ga0 0 kF_X7_11 dX7_remember_1 rfl rfl (by decide) rfl (by decide) rfl (fun g1 => ?_)
  refine lv_aload_n hx hb dX7_remember_4 rfl (lv_at hl 0 rfl) ?_
  refine q_gi (T := TX7) C S.1 ga0 1 kF_X7_15 dX7_remember_5 rfl rfl (by decide) rfl (by decide) rfl ?_
  have r2 : 0 ≤ (fI D s.heap 7 a0 1).toInt ∧ (fI D s.heap 7 a0 1).toInt ≤ 11 := S.1.rng ga0 rfl (by decide) rfl
  refine q_aald C S.1 g1 (by omega) (by omega) dX7_remember_8 rfl (by decide) rfl rfl (fun g3 => ?_)
  refine lv_aload_n hx hb dX7_remember_9 rfl (lv_at hl 1 rfl) ?_
  have gst := g3
  refine callV_Ev C S (c_X5_become l D G (eR s.heap (fR D s.heap 7 a0 0) (fI D s.heap 7 a0 1).toInt.toNat) a1 g3 ga1) kV_X7_23 g3 (trivial) (by decide +kernel) dX7_remember_10 hl.1 rfl rfl (by decide) cd_X5_become ⟨Nat.le_of_ble_eq_true rfl, Nat.le_of_ble_eq_true rfl, Nat.le_of_ble_eq_true rfl, Nat.le_of_ble_eq_true rfl, Nat.le_of_ble_eq_true rfl⟩ (fun H4 L4 S4 K4 q4 => ?_)
  have bq := q4
  have SQ := S4
  have n4 := congrArg Int32.toInt (K4.fI (k := 1) ga0 rfl (by decide) (by decide +kernel))
  have s4 := congrArg Int32.toInt (K4.fI (k := 2) ga0 rfl (by decide) (by decide +kernel))
  refine lv_aload_n hx hb dX7_remember_13 rfl (lv_at hl 0 rfl) ?_
  refine lv_aload_n hx hb dX7_remember_14 rfl (lv_at hl 0 rfl) ?_
  refine q_gi (T := TX7) C S4.1 ga0 1 kF_X7_15 dX7_remember_15 rfl rfl (by decide) rfl (by decide) rfl ?_
  have r5 : 0 ≤ (fI D H4 7 a0 1).toInt ∧ (fI D H4 7 a0 1).toInt ≤ 11 := S4.1.rng ga0 rfl (by decide) rfl
  refine lv_iconst (v := 1) hx hb dX7_remember_18 (by decide) ?_
  have k_1 : (1 : Int32).toInt = 1 := by decide
  refine lv_iadd hx hb dX7_remember_19 ?_
  refine lv_topi (fun v6 ev6 => ?_)
  have f7 : v6.toInt = (fI D H4 7 a0 1).toInt + (1 : Int32).toInt := by rw [ev6]; exact i_add (by omega) (by omega)
  refine lv_bipush (v := 12) hx hb dX7_remember_20 (by decide) ?_
  have k_12 : (12 : Int32).toInt = 12 := by decide
  refine lv_irem hx hb dX7_remember_22 (by first | decide | (intro z9; have := i_eq.mp z9; simp at this; omega) | assumption) ?_
  refine lv_topi (fun v8 ev8 => ?_)
  have f9 : v8.toInt = v6.toInt % 12 := by rw [ev8]; exact i_remc k_12 (by omega) (by decide)
  refine q_put (T := TX7) C S4 ga0 1 kF_X7_15 dX7_remember_23 rfl rfl (by decide) (by decide) rfl rfl rfl rfl rfl (vok_i rfl (by omega) (by omega)) (by decide +kernel) (fun H10 L10 S10 P10 => ?_)
  refine lv_aload_n hx hb dX7_remember_26 rfl (lv_at hl 0 rfl) ?_
  refine lv_bipush (v := 12) hx hb dX7_remember_27 (by decide) ?_
  refine lv_aload_n hx hb dX7_remember_29 rfl (lv_at hl 0 rfl) ?_
  refine q_gi (T := TX7) C S10.1 ga0 2 kF_X7_19 dX7_remember_30 rfl rfl (by decide) rfl (by decide) rfl ?_
  have r11 : 0 ≤ (fI D H10 7 a0 2).toInt ∧ (fI D H10 7 a0 2).toInt ≤ 12 := S10.1.rng ga0 rfl (by decide) rfl
  have s10 : (fI D H10 7 a0 2).toInt = (fI D s.heap 7 a0 2).toInt := by rw [Pt.o P10 (by decide) (by decide)]; exact s4
  refine lv_iconst (v := 1) hx hb dX7_remember_33 (by decide) ?_
  refine lv_iadd hx hb dX7_remember_34 ?_
  refine lv_topi (fun v12 ev12 => ?_)
  have f13 : v12.toInt = (fI D H10 7 a0 2).toInt + (1 : Int32).toInt := by rw [ev12]; exact i_add (by omega) (by omega)
  refine q_min C kN_X7_27 dX7_remember_35 hl.1 ⟨Nat.le_of_ble_eq_true rfl, Nat.le_of_ble_eq_true rfl, Nat.le_of_ble_eq_true rfl, Nat.le_of_ble_eq_true rfl⟩ (fun v14 fv14 => ?_)
  refine q_put (T := TX7) C S10 ga0 2 kF_X7_19 dX7_remember_38 rfl rfl (by decide) (by decide) rfl rfl rfl rfl rfl (vok_i rfl (by omega) (by omega)) (by decide +kernel) (fun H15 L15 S15 P15 => ?_)
  exact retE_v hQ C S15 hr dX7_remember_41 (⟨(bq.after SQ.1 (Or.inl gst) (Pt.keep ga0 rfl (by decide) P10)).after S10.1 (Or.inl gst) (Pt.keep ga0 rfl (by decide) P15), by rw [Pt.any P15 (by decide) (by decide) a0, Pt.i P10]; omega, by rw [Pt.i P15]; omega⟩)

set_option maxRecDepth 100000 in
set_option maxHeartbeats 4000000 in
theorem c_X7_recall (l : Launch) (D : DD) (G : Nat → Nat) (a0 : Nat) (a1 : Nat) (ga0 : G a0 = 16) (ga1 : G a1 = 4) : CE l D G yX7_recall cX7_recall 2 (some .boolean) 2 [.ref a0, .ref a1] (fun _ => True) [(7, 0), (7, 1), (7, 2), (7, 3), (7, 4), (8, 0), (8, 1), (8, 2), (8, 3), (8, 4), (8, 5), (11, 0), (9, 1), (9, 2), (4, 3), (4, 4), (4, 5), (4, 6), (4, 7), (4, 8), (4, 9), (4, 10), (4, 11), (4, 12), (4, 13), (16, 1), (16, 2)] (xI (fun H r H1 => (r.toInt = 0 ∧ (fI D H 7 a0 2).toInt = 0 ∧ H1 = H) ∨ (r.toInt = 1 ∧ 1 ≤ (fI D H 7 a0 2).toInt ∧ BC D G H H1 a1 (eR H (fR D H 7 a0 0) (((fI D H 7 a0 1).toInt.toNat + 11) % 12)) ∧ (fI D H1 7 a0 1).toInt = ((fI D H 7 a0 1).toInt + 11) % 12 ∧ (fI D H1 7 a0 2).toInt = (fI D H 7 a0 2).toInt - 1))) := by
  refine enter (by decide) (Nat.le_of_ble_eq_true rfl) ?_
  intro p e s m args below meth c ls Q hA hQ C hr hO hpre hl
  have hx := C.1
  have hb := C.2.1
  have S : Sd D G [(7, 0), (7, 1), (7, 2), (7, 3), (7, 4), (8, 0), (8, 1), (8, 2), (8, 3), (8, 4), (8, 5), (11, 0), (9, 1), (9, 2), (4, 3), (4, 4), (4, 5), (4, 6), (4, 7), (4, 8), (4, 9), (4, 10), (4, 11), (4, 12), (4, 13), (16, 1), (16, 2)] s.heap s.heap [] := Sd.start hO
  have hl : lv_has ls 2 [(0, .ref a0), (1, .ref a1)] := hl
  refine lv_aload_n hx hb dX7_recall_0 rfl (lv_at hl 0 rfl) ?_
  refine q_gi (T := TX7) C S.1 ga0 2 kF_X7_19 dX7_recall_1 rfl rfl (by decide) rfl (by decide) rfl ?_
  have r1 : 0 ≤ (fI D s.heap 7 a0 2).toInt ∧ (fI D s.heap 7 a0 2).toInt ≤ 12 := S.1.rng ga0 rfl (by decide) rfl
  have k_0 : (0 : Int32).toInt = 0 := by decide
  refine lv_if_ne (tgt := 9) hx hb dX7_recall_4 (by decide) (fun c2 => ?_) (fun c2 => ?_)
  · have b2 : ¬ (fI D s.heap 7 a0 2).toInt = (0 : Int32).toInt := fun z9 => c2 (i_eq.mpr z9)
    refine lv_aload_n hx hb dX7_recall_9 rfl (lv_at hl 0 rfl) ?_
    refine lv_aload_n hx hb dX7_recall_10 rfl (lv_at hl 0 rfl) ?_
    refine q_gi (T := TX7) C S.1 ga0 1 kF_X7_15 dX7_recall_11 rfl rfl (by decide) rfl (by decide) rfl ?_
    have r3 : 0 ≤ (fI D s.heap 7 a0 1).toInt ∧ (fI D s.heap 7 a0 1).toInt ≤ 11 := S.1.rng ga0 rfl (by decide) rfl
    refine lv_bipush (v := 12) hx hb dX7_recall_14 (by decide) ?_
    have k_12 : (12 : Int32).toInt = 12 := by decide
    refine lv_iadd hx hb dX7_recall_16 ?_
    refine lv_topi (fun v4 ev4 => ?_)
    have f5 : v4.toInt = (fI D s.heap 7 a0 1).toInt + (12 : Int32).toInt := by rw [ev4]; exact i_add (by omega) (by omega)
    refine lv_iconst (v := 1) hx hb dX7_recall_17 (by decide) ?_
    have k_1 : (1 : Int32).toInt = 1 := by decide
    refine lv_isub hx hb dX7_recall_18 ?_
    refine lv_topi (fun v6 ev6 => ?_)
    have f7 : v6.toInt = v4.toInt - (1 : Int32).toInt := by rw [ev6]; exact i_sub (by omega) (by omega)
    refine lv_bipush (v := 12) hx hb dX7_recall_19 (by decide) ?_
    refine lv_irem hx hb dX7_recall_21 (by first | decide | (intro z9; have := i_eq.mp z9; simp at this; omega) | assumption) ?_
    refine lv_topi (fun v8 ev8 => ?_)
    have f9 : v8.toInt = v6.toInt % 12 := by rw [ev8]; exact i_remc k_12 (by omega) (by decide)
    refine q_put (T := TX7) C S ga0 1 kF_X7_15 dX7_recall_22 rfl rfl (by decide) (by decide) rfl rfl rfl rfl rfl (vok_i rfl (by omega) (by omega)) (by decide +kernel) (fun H10 L10 S10 P10 => ?_)
    refine lv_aload_n hx hb dX7_recall_25 rfl (lv_at hl 0 rfl) ?_
    have cc1 : (fI D H10 7 a0 2).toInt = (fI D s.heap 7 a0 2).toInt := by rw [Pt.o P10 (by decide) (by decide)]
    refine lv_dup hx hb dX7_recall_26 rfl ?_
    refine q_gi (T := TX7) C S10.1 ga0 2 kF_X7_19 dX7_recall_27 rfl rfl (by decide) rfl (by decide) rfl ?_
    have r11 : 0 ≤ (fI D H10 7 a0 2).toInt ∧ (fI D H10 7 a0 2).toInt ≤ 12 := S10.1.rng ga0 rfl (by decide) rfl
    refine lv_iconst (v := 1) hx hb dX7_recall_30 (by decide) ?_
    refine lv_isub hx hb dX7_recall_31 ?_
    refine lv_topi (fun v12 ev12 => ?_)
    have f13 : v12.toInt = (fI D H10 7 a0 2).toInt - (1 : Int32).toInt := by rw [ev12]; exact i_sub (by omega) (by omega)
    refine q_put (T := TX7) C S10 ga0 2 kF_X7_19 dX7_recall_32 rfl rfl (by decide) (by decide) rfl rfl rfl rfl rfl (vok_i rfl (by omega) (by omega)) (by decide +kernel) (fun H14 L14 S14 P14 => ?_)
    refine lv_aload_n hx hb dX7_recall_35 rfl (lv_at hl 1 rfl) ?_
    refine lv_aload_n hx hb dX7_recall_36 rfl (lv_at hl 0 rfl) ?_
    refine q_gr (T := TX7) C S14.1 ga0 0 kF_X7_11 dX7_recall_37 rfl rfl (by decide) rfl (by decide) rfl (fun g15 => ?_)
    refine lv_aload_n hx hb dX7_recall_40 rfl (lv_at hl 0 rfl) ?_
    refine q_gi (T := TX7) C S14.1 ga0 1 kF_X7_15 dX7_recall_41 rfl rfl (by decide) rfl (by decide) rfl ?_
    have r16 : 0 ≤ (fI D H14 7 a0 1).toInt ∧ (fI D H14 7 a0 1).toInt ≤ 11 := S14.1.rng ga0 rfl (by decide) rfl
    refine q_aald C S14.1 g15 (by omega) (by omega) dX7_recall_44 rfl (by decide) rfl rfl (fun g17 => ?_)
    have gst := g17
    have SQ := S14
    have nv : (fI D H14 7 a0 1).toInt = ((fI D s.heap 7 a0 1).toInt + 11) % 12 := by rw [Pt.any P14 (by decide) (by decide) a0, Pt.i P10]; omega
    have sv : (fI D H14 7 a0 2).toInt = (fI D s.heap 7 a0 2).toInt - 1 := by rw [Pt.i P14]; omega
    have eo : eR H14 (fR D H14 7 a0 0) (fI D H14 7 a0 1).toInt.toNat = eR s.heap (fR D s.heap 7 a0 0) (((fI D s.heap 7 a0 1).toInt.toNat + 11) % 12) := by rw [S14.2.1.fR ga0 rfl (by decide) (by decide +kernel)]; exact (congrArg vR (eV_of (S14.2.1.c (hO.rol (k := 0) ga0 rfl (by decide) rfl) rfl (by decide +kernel)) _)).trans (congrArg (eR s.heap _) (by omega))
    refine callV_Ev C S14 (c_X5_become l D G a1 (eR H14 (fR D H14 7 a0 0) (fI D H14 7 a0 1).toInt.toNat) ga1 g17) kV_X7_23 ga1 (trivial) (by decide +kernel) dX7_recall_45 hl.1 rfl rfl (by decide) cd_X5_become ⟨Nat.le_of_ble_eq_true rfl, Nat.le_of_ble_eq_true rfl, Nat.le_of_ble_eq_true rfl, Nat.le_of_ble_eq_true rfl, Nat.le_of_ble_eq_true rfl⟩ (fun H18 L18 S18 K18 q18 => ?_)
    have bq := q18
    have KQ := K18
    refine lv_iconst (v := 1) hx hb dX7_recall_48 (by decide) ?_
    exact retE_z hQ C S18 hr dX7_recall_49 (z01 (by omega) (by omega)) (Or.inr ⟨by decide, by omega, by rw [← eo]; exact (bq.ahead S10.1 (Or.inl ga1) (Or.inl gst) (Pt.keep ga0 rfl (by decide) P14)).ahead hO (Or.inl ga1) (Or.inl gst) (Pt.keep ga0 rfl (by decide) P10), by rw [KQ.fI ga0 rfl (by decide) (by decide +kernel)]; exact nv, by rw [KQ.fI ga0 rfl (by decide) (by decide +kernel)]; exact sv⟩)
  · have b2 : (fI D s.heap 7 a0 2).toInt = (0 : Int32).toInt := i_eq.mp c2
    refine lv_iconst (v := 0) hx hb dX7_recall_7 (by decide) ?_
    exact retE_z hQ C S hr dX7_recall_8 (z01 (by omega) (by omega)) (Or.inl ⟨by decide, by omega, rfl⟩)

set_option maxRecDepth 100000 in
set_option maxHeartbeats 4000000 in
theorem c_X7_forget (l : Launch) (D : DD) (G : Nat → Nat) (a0 : Nat) (ga0 : G a0 = 16) : CE l D G yX7_forget cX7_forget 1 none 0 [.ref a0] (fun _ => True) [(16, 2)] (xV (fun H H1 => (fI D H1 7 a0 2).toInt = 0)) := by
  refine enter (by decide) (Nat.le_of_ble_eq_true rfl) ?_
  intro p e s m args below meth c ls Q hA hQ C hr hO hpre hl
  have hx := C.1
  have hb := C.2.1
  have S : Sd D G [(16, 2)] s.heap s.heap [] := Sd.start hO
  have hl : lv_has ls 1 [(0, .ref a0)] := hl
  refine lv_aload_n hx hb dX7_forget_0 rfl (lv_at hl 0 rfl) ?_
  refine lv_iconst (v := 0) hx hb dX7_forget_1 (by decide) ?_
  have k_0 : (0 : Int32).toInt = 0 := by decide
  refine q_put (T := TX7) C S ga0 2 kF_X7_19 dX7_forget_2 rfl rfl (by decide) (by decide) rfl rfl rfl rfl rfl (vok_i rfl (by omega) (by omega)) (by decide +kernel) (fun H1 L1 S1 P1 => ?_)
  exact retE_v hQ C S1 hr dX7_forget_5 (by rw [Pt.i P1]; decide)

set_option maxRecDepth 100000 in
set_option maxHeartbeats 4000000 in
theorem c_X8_learnCharges (l : Launch) (D : DD) (G : Nat → Nat) (a0 : Nat) (ga0 : G a0 = 18) : CE l D G yX8_learnCharges cX8_learnCharges 3 none 3 [.ref a0] (fun _ => True) [(14, 0), (15, 0), (19, 0)] (xV (fun H H1 => True)) := by
  refine enter (by decide) (Nat.le_of_ble_eq_true rfl) ?_
  intro p e s m args below meth c ls Q hA hQ C hr hO hpre hl
  have hx := C.1
  have hb := C.2.1
  have S : Sd D G [(14, 0), (15, 0), (19, 0)] s.heap s.heap [] := Sd.start hO
  have hl : lv_has ls 3 [(0, .ref a0)] := hl
  refine lv_iconst (v := 0) hx hb dX8_learnCharges_0 (by decide) ?_
  refine lv_istore_n (lv' := [(1, .int (0 : Int32)), (0, .ref a0)]) hx hb dX8_learnCharges_1 rfl hl (by decide) rfl (fun ls hl => ?_)
  have Lp2 : ∀ (n : Nat) (x1_2 : Int32) (H_2 : Heap) (L_2 : List Loc) (ls : Array Slot), (Sd D G [(14, 0), (15, 0), (19, 0)] s.heap H_2 L_2) → (0 ≤ x1_2.toInt ∧ x1_2.toInt ≤ 2147483647) → 2147483648 - x1_2.toInt ≤ (n : Int) → lv_has ls 3 [(1, .int x1_2), (0, .ref a0)] → W p l e (rmU 3 0 0) s m args below meth c H_2 L_2 0 0 Q (F0 m 2 ls []) := by
    intro n
    induction n with
    | zero =>
      intro x1_2 H_2 L_2 ls S_2 j2_0 hn hl
      exact absurd hn (by omega)
    | succ n ih2 =>
      intro x1_2 H_2 L_2 ls S_2 j2_0 hn hl
      refine lv_iload_n hx hb dX8_learnCharges_2 rfl (lv_at hl 0 rfl) ?_
      refine lv_aload_n hx hb dX8_learnCharges_3 rfl (lv_at hl 1 rfl) ?_
      refine q_gr (T := TX8) C S_2.1 ga0 0 kF_X8_25 dX8_learnCharges_4 rfl rfl (by decide) rfl (by decide) rfl (fun g1 => ?_)
      refine q_gi (T := TX5) C S_2.1 g1 4 kF_X8_29 dX8_learnCharges_7 rfl rfl (by decide) rfl (by decide) rfl ?_
      have r2 : 0 ≤ (fI D H_2 5 (fR D H_2 8 a0 0) 4).toInt ∧ (fI D H_2 5 (fR D H_2 8 a0 0) 4).toInt ≤ 12 := S_2.1.rng g1 rfl (by decide) rfl
      have r4 := i_rng x1_2
      refine lv_icmp_ge (tgt := 53) hx hb dX8_learnCharges_10 (by decide) (fun c3 => ?_) (fun c3 => ?_)
      · have b3 : (fI D H_2 5 (fR D H_2 8 a0 0) 4).toInt ≤ x1_2.toInt := i_le.mp c3
        exact retE_v hQ C S_2 hr dX8_learnCharges_53 (trivial)
      · have b3 : ¬ (fI D H_2 5 (fR D H_2 8 a0 0) 4).toInt ≤ x1_2.toInt := fun z9 => c3 (i_le.mpr z9)
        refine lv_iconst (v := 0) hx hb dX8_learnCharges_13 (by decide) ?_
        refine lv_istore_n (lv' := [(2, .int (0 : Int32)), (1, .int x1_2), (0, .ref a0)]) hx hb dX8_learnCharges_14 rfl hl (by decide) rfl (fun ls hl => ?_)
        have Lp15 : ∀ (n : Nat) (x2_15 : Int32) (H_15 : Heap) (L_15 : List Loc) (ls : Array Slot), (Sd D G [(14, 0), (15, 0), (19, 0)] s.heap H_15 L_15) → (0 ≤ x2_15.toInt ∧ x2_15.toInt ≤ 2147483647) → 2147483648 - x2_15.toInt ≤ (n : Int) → lv_has ls 3 [(2, .int x2_15), (1, .int x1_2), (0, .ref a0)] → W p l e (rmU 3 0 0) s m args below meth c H_15 L_15 0 0 Q (F0 m 15 ls []) := by
          intro n
          induction n with
          | zero =>
            intro x2_15 H_15 L_15 ls S_15 j15_0 hn hl
            exact absurd hn (by omega)
          | succ n ih15 =>
            intro x2_15 H_15 L_15 ls S_15 j15_0 hn hl
            refine lv_iload_n hx hb dX8_learnCharges_15 rfl (lv_at hl 0 rfl) ?_
            refine lv_bipush (v := 7) hx hb dX8_learnCharges_16 (by decide) ?_
            have k_7 : (7 : Int32).toInt = 7 := by decide
            refine lv_icmp_ge (tgt := 47) hx hb dX8_learnCharges_18 (by decide) (fun c5 => ?_) (fun c5 => ?_)
            · have b5 : (7 : Int32).toInt ≤ x2_15.toInt := i_le.mp c5
              obtain ⟨v6, ev6⟩ : ∃ y : Int32, y = x1_2 + (1) := ⟨_, rfl⟩
              have k_1 : (1 : Int32).toInt = 1 := by decide
              have f7 : v6.toInt = x1_2.toInt + (1) := by rw [ev6]; exact i_addc k_1 (by omega) (by omega)
              refine lv_iinc (v := v6) (lv' := [(1, .int v6), (2, .int x2_15), (0, .ref a0)]) hx hb dX8_learnCharges_47 hl (k := 1) rfl (by rw [ev6]; rfl) (by decide) rfl (fun ls hl => ?_)
              refine lv_goto (tgt := 2) hx hb dX8_learnCharges_50 (by decide) ?_
              exact ih2 v6 H_15 L_15 ls S_15 (by omega) (by omega) (lv_sub hl [0, 2] rfl)
            · have b5 : ¬ (7 : Int32).toInt ≤ x2_15.toInt := fun z9 => c5 (i_le.mpr z9)
              refine lv_aload_n hx hb dX8_learnCharges_21 rfl (lv_at hl 2 rfl) ?_
              refine q_gr (T := TX8) C S_15.1 ga0 1 kF_X8_11 dX8_learnCharges_22 rfl rfl (by decide) rfl (by decide) rfl (fun g8 => ?_)
              refine lv_iload_n hx hb dX8_learnCharges_25 rfl (lv_at hl 1 rfl) ?_
              refine lv_bipush (v := 7) hx hb dX8_learnCharges_26 (by decide) ?_
              refine lv_imul hx hb dX8_learnCharges_28 ?_
              refine lv_topi (fun v9 ev9 => ?_)
              have f10 : v9.toInt = x1_2.toInt * (7) := by rw [ev9]; exact i_mulc k_7 (by omega) (by omega)
              refine lv_iload_n hx hb dX8_learnCharges_29 rfl (lv_at hl 0 rfl) ?_
              refine lv_iadd hx hb dX8_learnCharges_30 ?_
              refine lv_topi (fun v11 ev11 => ?_)
              have f12 : v11.toInt = v9.toInt + x2_15.toInt := by rw [ev11]; exact i_add (by omega) (by omega)
              refine lv_aload_n hx hb dX8_learnCharges_31 rfl (lv_at hl 2 rfl) ?_
              refine q_gr (T := TX8) C S_15.1 ga0 0 kF_X8_25 dX8_learnCharges_32 rfl rfl (by decide) rfl (by decide) rfl (fun g13 => ?_)
              refine lv_iload_n hx hb dX8_learnCharges_35 rfl (lv_at hl 1 rfl) ?_
              refine lv_iload_n hx hb dX8_learnCharges_36 rfl (lv_at hl 0 rfl) ?_
              refine callV_Ei C S_15 (c_X5_charge l D G (fR D H_15 8 a0 0) x1_2 x2_15 g13 (by omega)) kV_X8_34 g13 (trivial) (by decide +kernel) dX8_learnCharges_37 hl.1 rfl rfl (by decide) cd_X5_charge ⟨Nat.le_of_ble_eq_true rfl, Nat.le_of_ble_eq_true rfl, Nat.le_of_ble_eq_true rfl, Nat.le_of_ble_eq_true rfl, Nat.le_of_ble_eq_true rfl⟩ (fun v14 H14 L14 S14 K14 q14 => ?_)
              have n15 : aN H14 (fR D H_15 8 a0 1) = 84 := len_19 S14.1 g8
              refine q_iast C S14 g8 (by omega) (by omega) dX8_learnCharges_40 rfl (by decide) (by decide +kernel) (fun _ _ h => ak_19 h) (fun H16 L16 S16 P16 => ?_)
              obtain ⟨v17, ev17⟩ : ∃ y : Int32, y = x2_15 + (1) := ⟨_, rfl⟩
              have k_1 : (1 : Int32).toInt = 1 := by decide
              have f18 : v17.toInt = x2_15.toInt + (1) := by rw [ev17]; exact i_addc k_1 (by omega) (by omega)
              refine lv_iinc (v := v17) (lv' := [(2, .int v17), (1, .int x1_2), (0, .ref a0)]) hx hb dX8_learnCharges_41 hl (k := 0) rfl (by rw [ev17]; rfl) (by decide) rfl (fun ls hl => ?_)
              refine lv_goto (tgt := 15) hx hb dX8_learnCharges_44 (by decide) ?_
              exact ih15 v17 H16 L16 ls S16 (by omega) (by omega) (lv_sub hl [0, 1, 2] rfl)
        have k_0 : (0 : Int32).toInt = 0 := by decide
        exact Lp15 2147483648 (0 : Int32) H_2 L_2 ls S_2 (by omega)  (by omega) (lv_sub hl [0, 1, 2] rfl)
  have k_0 : (0 : Int32).toInt = 0 := by decide
  exact Lp2 2147483648 (0 : Int32) s.heap [] ls S (by omega)  (by omega) (lv_sub hl [0, 1] rfl)

set_option maxRecDepth 100000 in
set_option maxHeartbeats 4000000 in
theorem c_X8_openOf (l : Launch) (D : DD) (G : Nat → Nat) (a0 : Nat) (x1 : Int32) (ga0 : G a0 = 18) : CP l D G yX8_openOf cX8_openOf 2 (some .int) 1 [.ref a0, .int x1] (fun _ => True) (pI (fun H r => True)) := by
  refine enter (by decide) (Nat.le_of_ble_eq_true rfl) ?_
  intro p e s m args below meth c ls Q hA hQ C hr hO hpre hl
  have hx := C.1
  have hb := C.2.1
  have hl : lv_has ls 2 [(0, .ref a0), (1, .int x1)] := hl
  refine lv_aload_n hx hb dX8_openOf_0 rfl (lv_at hl 0 rfl) ?_
  refine q_gr (T := TX8) C hO ga0 0 kF_X8_25 dX8_openOf_1 rfl rfl (by decide) rfl (by decide) rfl (fun g1 => ?_)
  refine lv_iload_n hx hb dX8_openOf_4 rfl (lv_at hl 1 rfl) ?_
  refine callV_Pi C hO (fun _ _ _ => rfl) (c_X5_bitsOf l D G (fR D s.heap 8 a0 0) x1 g1) kV_X8_87 g1 (trivial) dX8_openOf_5 hl.1 rfl rfl (by decide) cd_X5_bitsOf ⟨Nat.le_of_ble_eq_true rfl, Nat.le_of_ble_eq_true rfl, Nat.le_of_ble_eq_true rfl, Nat.le_of_ble_eq_true rfl, Nat.le_of_ble_eq_true rfl⟩ (fun v2 q2 => ?_)
  refine lv_aload_n hx hb dX8_openOf_8 rfl (lv_at hl 0 rfl) ?_
  refine q_gr (T := TX8) C hO ga0 0 kF_X8_25 dX8_openOf_9 rfl rfl (by decide) rfl (by decide) rfl (fun g3 => ?_)
  refine lv_iconst (v := 0) hx hb dX8_openOf_12 (by decide) ?_
  have k_0 : (0 : Int32).toInt = 0 := by decide
  refine callV_Pi C hO (fun _ _ _ => rfl) (c_X5_bitsIn l D G (fR D s.heap 8 a0 0) (0 : Int32) g3) kV_X8_90 g3 (trivial) dX8_openOf_13 hl.1 rfl rfl (by decide) cd_X5_bitsIn ⟨Nat.le_of_ble_eq_true rfl, Nat.le_of_ble_eq_true rfl, Nat.le_of_ble_eq_true rfl, Nat.le_of_ble_eq_true rfl, Nat.le_of_ble_eq_true rfl⟩ (fun v4 q4 => ?_)
  refine lv_iand hx hb dX8_openOf_16 ?_
  refine lv_topi (fun v5 ev5 => ?_)
  exact retP_i hQ C hr dX8_openOf_17 (trivial)

set_option maxRecDepth 100000 in
set_option maxHeartbeats 4000000 in
theorem c_X8_nextSet (l : Launch) (D : DD) (G : Nat → Nat) (x0 : Int32) (x1 : Int32) : CP l D G yX8_nextSet cX8_nextSet 2 (some .int) 0 [.int x0, .int x1] (fun _ => True) (pI (fun H r => True)) := by
  refine enter (by decide) (Nat.le_of_ble_eq_true rfl) ?_
  intro p e s m args below meth c ls Q hA hQ C hr hO hpre hl
  have hx := C.1
  have hb := C.2.1
  have hl : lv_has ls 2 [(0, .int x0), (1, .int x1)] := hl
  refine lv_iload_n hx hb dX8_nextSet_0 rfl (lv_at hl 0 rfl) ?_
  refine lv_iload_n hx hb dX8_nextSet_1 rfl (lv_at hl 1 rfl) ?_
  refine lv_isub hx hb dX8_nextSet_2 ?_
  refine lv_topi (fun v1 ev1 => ?_)
  refine lv_iload_n hx hb dX8_nextSet_3 rfl (lv_at hl 1 rfl) ?_
  refine lv_iand hx hb dX8_nextSet_4 ?_
  refine lv_topi (fun v2 ev2 => ?_)
  exact retP_i hQ C hr dX8_nextSet_5 (trivial)

set_option maxRecDepth 100000 in
set_option maxHeartbeats 4000000 in
theorem c_X8_paysWith (l : Launch) (D : DD) (G : Nat → Nat) (a0 : Nat) (x1 : Int32) (x2 : Int32) (x3 : Int32) (ga0 : G a0 = 18) : CP l D G yX8_paysWith cX8_paysWith 6 (some .int) 1 [.ref a0, .int x1, .int x2, .int x3] (fun _ => True) (pI (fun H r => True)) := by
  refine enter (by decide) (Nat.le_of_ble_eq_true rfl) ?_
  intro p e s m args below meth c ls Q hA hQ C hr hO hpre hl
  have hx := C.1
  have hb := C.2.1
  have hl : lv_has ls 6 [(0, .ref a0), (1, .int x1), (2, .int x2), (3, .int x3)] := hl
  refine lv_iconst (v := 0) hx hb dX8_paysWith_0 (by decide) ?_
  refine lv_istore (lv' := [(4, .int (0 : Int32)), (0, .ref a0), (1, .int x1), (2, .int x2), (3, .int x3)]) hx hb dX8_paysWith_1 hl (by decide) rfl (fun ls hl => ?_)
  refine lv_iconst (v := 0) hx hb dX8_paysWith_3 (by decide) ?_
  refine lv_istore (lv' := [(5, .int (0 : Int32)), (4, .int (0 : Int32)), (0, .ref a0), (1, .int x1), (2, .int x2), (3, .int x3)]) hx hb dX8_paysWith_4 hl (by decide) rfl (fun ls hl => ?_)
  have Lp6 : ∀ (n : Nat) (x5_6 : Int32) (x4_6 : Int32) (ls : Array Slot), (0 ≤ x5_6.toInt ∧ x5_6.toInt ≤ 2147483647) → 2147483648 - x5_6.toInt ≤ (n : Int) → lv_has ls 6 [(5, .int x5_6), (4, .int x4_6), (0, .ref a0), (1, .int x1), (2, .int x2), (3, .int x3)] → W p l e (rmU 1 0 0) s m args below meth c s.heap [] 0 0 Q (F0 m 6 ls []) := by
    intro n
    induction n with
    | zero =>
      intro x5_6 x4_6 ls j6_0 hn hl
      exact absurd hn (by omega)
    | succ n ih6 =>
      intro x5_6 x4_6 ls j6_0 hn hl
      refine lv_iload hx hb dX8_paysWith_6 (lv_at hl 0 rfl) ?_
      refine lv_aload_n hx hb dX8_paysWith_8 rfl (lv_at hl 2 rfl) ?_
      refine q_gr (T := TX8) C hO ga0 0 kF_X8_25 dX8_paysWith_9 rfl rfl (by decide) rfl (by decide) rfl (fun g1 => ?_)
      refine q_gi (T := TX5) C hO g1 4 kF_X8_29 dX8_paysWith_12 rfl rfl (by decide) rfl (by decide) rfl ?_
      have r2 : 0 ≤ (fI D s.heap 5 (fR D s.heap 8 a0 0) 4).toInt ∧ (fI D s.heap 5 (fR D s.heap 8 a0 0) 4).toInt ≤ 12 := hO.rng g1 rfl (by decide) rfl
      have r4 := i_rng x5_6
      refine lv_icmp_ge (tgt := 65) hx hb dX8_paysWith_15 (by decide) (fun c3 => ?_) (fun c3 => ?_)
      · have b3 : (fI D s.heap 5 (fR D s.heap 8 a0 0) 4).toInt ≤ x5_6.toInt := i_le.mp c3
        refine lv_iload hx hb dX8_paysWith_65 (lv_at hl 1 rfl) ?_
        exact retP_i hQ C hr dX8_paysWith_67 (trivial)
      · have b3 : ¬ (fI D s.heap 5 (fR D s.heap 8 a0 0) 4).toInt ≤ x5_6.toInt := fun z9 => c3 (i_le.mpr z9)
        refine lv_iload_n hx hb dX8_paysWith_18 rfl (lv_at hl 3 rfl) ?_
        refine lv_iload hx hb dX8_paysWith_19 (lv_at hl 0 rfl) ?_
        refine lv_ishr hx hb dX8_paysWith_21 ?_
        refine lv_topi (fun v5 ev5 => ?_)
        refine lv_iconst (v := 1) hx hb dX8_paysWith_22 (by decide) ?_
        have k_1 : (1 : Int32).toInt = 1 := by decide
        refine lv_iand hx hb dX8_paysWith_23 ?_
        have r6 := i_rng v5
        refine lv_topi (fun v7 ev7 => ?_)
        have f8 : 0 ≤ v7.toInt ∧ v7.toInt ≤ (1 : Int32).toInt := by rw [ev7]; exact i_and (by omega)
        refine lv_iconst (v := 1) hx hb dX8_paysWith_24 (by decide) ?_
        refine lv_icmp_ne (tgt := 59) hx hb dX8_paysWith_25 (by decide) (fun c9 => ?_) (fun c9 => ?_)
        · have b9 : ¬ v7.toInt = (1 : Int32).toInt := fun z9 => c9 (i_eq.mpr z9)
          obtain ⟨v10, ev10⟩ : ∃ y : Int32, y = x5_6 + (1) := ⟨_, rfl⟩
          have f11 : v10.toInt = x5_6.toInt + (1) := by rw [ev10]; exact i_addc k_1 (by omega) (by omega)
          refine lv_iinc (v := v10) (lv' := [(5, .int v10), (4, .int x4_6), (0, .ref a0), (1, .int x1), (2, .int x2), (3, .int x3)]) hx hb dX8_paysWith_59 hl (k := 0) rfl (by rw [ev10]; rfl) (by decide) rfl (fun ls hl => ?_)
          refine lv_goto (tgt := 6) hx hb dX8_paysWith_62 (by decide) ?_
          exact ih6 v10 x4_6 ls (by omega) (by omega) (lv_sub hl [0, 1, 2, 3, 4, 5] rfl)
        · have b9 : v7.toInt = (1 : Int32).toInt := i_eq.mp c9
          refine lv_iload_n hx hb dX8_paysWith_28 rfl (lv_at hl 4 rfl) ?_
          have k_0 : (0 : Int32).toInt = 0 := by decide
          refine lv_if_lt (tgt := 59) hx hb dX8_paysWith_29 (by decide) (fun c12 => ?_) (fun c12 => ?_)
          · have b12 : x2.toInt < (0 : Int32).toInt := i_lt.mp c12
            obtain ⟨v13, ev13⟩ : ∃ y : Int32, y = x5_6 + (1) := ⟨_, rfl⟩
            have f14 : v13.toInt = x5_6.toInt + (1) := by rw [ev13]; exact i_addc k_1 (by omega) (by omega)
            refine lv_iinc (v := v13) (lv' := [(5, .int v13), (4, .int x4_6), (0, .ref a0), (1, .int x1), (2, .int x2), (3, .int x3)]) hx hb dX8_paysWith_59 hl (k := 0) rfl (by rw [ev13]; rfl) (by decide) rfl (fun ls hl => ?_)
            refine lv_goto (tgt := 6) hx hb dX8_paysWith_62 (by decide) ?_
            exact ih6 v13 x4_6 ls (by omega) (by omega) (lv_sub hl [0, 1, 2, 3, 4, 5] rfl)
          · have b12 : ¬ x2.toInt < (0 : Int32).toInt := fun z9 => c12 (i_lt.mpr z9)
            refine lv_iload_n hx hb dX8_paysWith_32 rfl (lv_at hl 4 rfl) ?_
            refine lv_bipush (v := 7) hx hb dX8_paysWith_33 (by decide) ?_
            have k_7 : (7 : Int32).toInt = 7 := by decide
            refine lv_icmp_ge (tgt := 59) hx hb dX8_paysWith_35 (by decide) (fun c15 => ?_) (fun c15 => ?_)
            · have b15 : (7 : Int32).toInt ≤ x2.toInt := i_le.mp c15
              obtain ⟨v16, ev16⟩ : ∃ y : Int32, y = x5_6 + (1) := ⟨_, rfl⟩
              have f17 : v16.toInt = x5_6.toInt + (1) := by rw [ev16]; exact i_addc k_1 (by omega) (by omega)
              refine lv_iinc (v := v16) (lv' := [(5, .int v16), (4, .int x4_6), (0, .ref a0), (1, .int x1), (2, .int x2), (3, .int x3)]) hx hb dX8_paysWith_59 hl (k := 0) rfl (by rw [ev16]; rfl) (by decide) rfl (fun ls hl => ?_)
              refine lv_goto (tgt := 6) hx hb dX8_paysWith_62 (by decide) ?_
              exact ih6 v16 x4_6 ls (by omega) (by omega) (lv_sub hl [0, 1, 2, 3, 4, 5] rfl)
            · have b15 : ¬ (7 : Int32).toInt ≤ x2.toInt := fun z9 => c15 (i_le.mpr z9)
              refine lv_iload hx hb dX8_paysWith_38 (lv_at hl 1 rfl) ?_
              refine lv_iload_n hx hb dX8_paysWith_40 rfl (lv_at hl 5 rfl) ?_
              refine lv_aload_n hx hb dX8_paysWith_41 rfl (lv_at hl 2 rfl) ?_
              refine q_gr (T := TX8) C hO ga0 1 kF_X8_11 dX8_paysWith_42 rfl rfl (by decide) rfl (by decide) rfl (fun g18 => ?_)
              refine lv_iload hx hb dX8_paysWith_45 (lv_at hl 0 rfl) ?_
              refine lv_bipush (v := 7) hx hb dX8_paysWith_47 (by decide) ?_
              refine lv_imul hx hb dX8_paysWith_49 ?_
              refine lv_topi (fun v19 ev19 => ?_)
              have f20 : v19.toInt = x5_6.toInt * (7) := by rw [ev19]; exact i_mulc k_7 (by omega) (by omega)
              refine lv_iload_n hx hb dX8_paysWith_50 rfl (lv_at hl 4 rfl) ?_
              refine lv_iadd hx hb dX8_paysWith_51 ?_
              refine lv_topi (fun v21 ev21 => ?_)
              have f22 : v21.toInt = v19.toInt + x2.toInt := by rw [ev21]; exact i_add (by omega) (by omega)
              have n23 : aN s.heap (fR D s.heap 8 a0 1) = 84 := len_19 hO g18
              refine q_iald C hO g18 (by omega) (by omega) dX8_paysWith_52 rfl (by decide) ?_
              refine lv_topi (fun v24 ev24 => ?_)
              refine callS_Pi C hO (fun _ _ _ => rfl) (c_X5_taxBy l D G x3 v24) kS_X8_93 (trivial) dX8_paysWith_53 hl.1 cd_X5_taxBy ⟨Nat.le_of_ble_eq_true rfl, Nat.le_of_ble_eq_true rfl, Nat.le_of_ble_eq_true rfl, Nat.le_of_ble_eq_true rfl, Nat.le_of_ble_eq_true rfl⟩ (fun v25 q25 => ?_)
              refine lv_iadd hx hb dX8_paysWith_56 ?_
              refine lv_topi (fun v26 ev26 => ?_)
              refine lv_istore (lv' := [(4, .int v26), (5, .int x5_6), (0, .ref a0), (1, .int x1), (2, .int x2), (3, .int x3)]) hx hb dX8_paysWith_57 hl (by decide) rfl (fun ls hl => ?_)
              obtain ⟨v27, ev27⟩ : ∃ y : Int32, y = x5_6 + (1) := ⟨_, rfl⟩
              have f28 : v27.toInt = x5_6.toInt + (1) := by rw [ev27]; exact i_addc k_1 (by omega) (by omega)
              refine lv_iinc (v := v27) (lv' := [(5, .int v27), (4, .int v26), (0, .ref a0), (1, .int x1), (2, .int x2), (3, .int x3)]) hx hb dX8_paysWith_59 hl (k := 1) rfl (by rw [ev27]; rfl) (by decide) rfl (fun ls hl => ?_)
              refine lv_goto (tgt := 6) hx hb dX8_paysWith_62 (by decide) ?_
              exact ih6 v27 v26 ls (by omega) (by omega) (lv_sub hl [0, 1, 2, 3, 4, 5] rfl)
  have k_0 : (0 : Int32).toInt = 0 := by decide
  exact Lp6 2147483648 (0 : Int32) (0 : Int32) ls (by omega)  (by omega) (lv_sub hl [0, 1, 2, 3, 4, 5] rfl)

set_option maxRecDepth 100000 in
set_option maxHeartbeats 4000000 in
theorem c_X8_warmIn (l : Launch) (D : DD) (G : Nat → Nat) (a0 : Nat) (x1 : Int32) (ga0 : G a0 = 18) : CP l D G yX8_warmIn cX8_warmIn 4 (some .int) 0 [.ref a0, .int x1] (fun _ => True) (pI (fun H r => True)) := by
  refine enter (by decide) (Nat.le_of_ble_eq_true rfl) ?_
  intro p e s m args below meth c ls Q hA hQ C hr hO hpre hl
  have hx := C.1
  have hb := C.2.1
  have hl : lv_has ls 4 [(0, .ref a0), (1, .int x1)] := hl
  refine lv_iconst (v := 0) hx hb dX8_warmIn_0 (by decide) ?_
  refine lv_istore_n (lv' := [(2, .int (0 : Int32)), (0, .ref a0), (1, .int x1)]) hx hb dX8_warmIn_1 rfl hl (by decide) rfl (fun ls hl => ?_)
  refine lv_iconst (v := 0) hx hb dX8_warmIn_2 (by decide) ?_
  refine lv_istore_n (lv' := [(3, .int (0 : Int32)), (2, .int (0 : Int32)), (0, .ref a0), (1, .int x1)]) hx hb dX8_warmIn_3 rfl hl (by decide) rfl (fun ls hl => ?_)
  have Lp4 : ∀ (n : Nat) (x3_4 : Int32) (x2_4 : Int32) (ls : Array Slot), (0 ≤ x3_4.toInt ∧ x3_4.toInt ≤ 2147483647) → 2147483648 - x3_4.toInt ≤ (n : Int) → lv_has ls 4 [(3, .int x3_4), (2, .int x2_4), (0, .ref a0), (1, .int x1)] → W p l e (rmU 0 0 0) s m args below meth c s.heap [] 0 0 Q (F0 m 4 ls []) := by
    intro n
    induction n with
    | zero =>
      intro x3_4 x2_4 ls j4_0 hn hl
      exact absurd hn (by omega)
    | succ n ih4 =>
      intro x3_4 x2_4 ls j4_0 hn hl
      refine lv_iload_n hx hb dX8_warmIn_4 rfl (lv_at hl 0 rfl) ?_
      refine lv_aload_n hx hb dX8_warmIn_5 rfl (lv_at hl 2 rfl) ?_
      refine q_gr (T := TX8) C hO ga0 0 kF_X8_25 dX8_warmIn_6 rfl rfl (by decide) rfl (by decide) rfl (fun g1 => ?_)
      refine q_gi (T := TX5) C hO g1 4 kF_X8_29 dX8_warmIn_9 rfl rfl (by decide) rfl (by decide) rfl ?_
      have r2 : 0 ≤ (fI D s.heap 5 (fR D s.heap 8 a0 0) 4).toInt ∧ (fI D s.heap 5 (fR D s.heap 8 a0 0) 4).toInt ≤ 12 := hO.rng g1 rfl (by decide) rfl
      have r4 := i_rng x3_4
      refine lv_icmp_ge (tgt := 42) hx hb dX8_warmIn_12 (by decide) (fun c3 => ?_) (fun c3 => ?_)
      · have b3 : (fI D s.heap 5 (fR D s.heap 8 a0 0) 4).toInt ≤ x3_4.toInt := i_le.mp c3
        refine lv_iload_n hx hb dX8_warmIn_42 rfl (lv_at hl 1 rfl) ?_
        exact retP_i hQ C hr dX8_warmIn_43 (trivial)
      · have b3 : ¬ (fI D s.heap 5 (fR D s.heap 8 a0 0) 4).toInt ≤ x3_4.toInt := fun z9 => c3 (i_le.mpr z9)
        refine lv_iload_n hx hb dX8_warmIn_15 rfl (lv_at hl 1 rfl) ?_
        refine lv_iload_n hx hb dX8_warmIn_16 rfl (lv_at hl 3 rfl) ?_
        refine lv_iload_n hx hb dX8_warmIn_17 rfl (lv_at hl 0 rfl) ?_
        refine lv_ishr hx hb dX8_warmIn_18 ?_
        refine lv_topi (fun v5 ev5 => ?_)
        refine lv_iconst (v := 1) hx hb dX8_warmIn_19 (by decide) ?_
        have k_1 : (1 : Int32).toInt = 1 := by decide
        refine lv_iand hx hb dX8_warmIn_20 ?_
        have r6 := i_rng v5
        refine lv_topi (fun v7 ev7 => ?_)
        have f8 : 0 ≤ v7.toInt ∧ v7.toInt ≤ (1 : Int32).toInt := by rw [ev7]; exact i_and (by omega)
        refine lv_aload_n hx hb dX8_warmIn_21 rfl (lv_at hl 2 rfl) ?_
        refine q_gr (T := TX8) C hO ga0 0 kF_X8_25 dX8_warmIn_22 rfl rfl (by decide) rfl (by decide) rfl (fun g9 => ?_)
        refine q_gr (T := TX5) C hO g9 1 kF_X8_75 dX8_warmIn_25 rfl rfl (by decide) rfl (by decide) rfl (fun g10 => ?_)
        refine lv_iload_n hx hb dX8_warmIn_28 rfl (lv_at hl 0 rfl) ?_
        refine q_aald C hO g10 (by omega) (by omega) dX8_warmIn_29 rfl (by decide) rfl rfl (fun g11 => ?_)
        refine q_gi (T := TX1) C hO g11 3 kF_X8_84 dX8_warmIn_30 rfl rfl (by decide) rfl (by decide) rfl ?_
        refine lv_imul hx hb dX8_warmIn_33 ?_
        refine lv_topi (fun v12 ev12 => ?_)
        refine lv_iadd hx hb dX8_warmIn_34 ?_
        refine lv_topi (fun v13 ev13 => ?_)
        refine lv_istore_n (lv' := [(2, .int v13), (3, .int x3_4), (0, .ref a0), (1, .int x1)]) hx hb dX8_warmIn_35 rfl hl (by decide) rfl (fun ls hl => ?_)
        obtain ⟨v14, ev14⟩ : ∃ y : Int32, y = x3_4 + (1) := ⟨_, rfl⟩
        have f15 : v14.toInt = x3_4.toInt + (1) := by rw [ev14]; exact i_addc k_1 (by omega) (by omega)
        refine lv_iinc (v := v14) (lv' := [(3, .int v14), (2, .int v13), (0, .ref a0), (1, .int x1)]) hx hb dX8_warmIn_36 hl (k := 1) rfl (by rw [ev14]; rfl) (by decide) rfl (fun ls hl => ?_)
        refine lv_goto (tgt := 4) hx hb dX8_warmIn_39 (by decide) ?_
        exact ih4 v14 v13 ls (by omega) (by omega) (lv_sub hl [0, 1, 2, 3] rfl)
  have k_0 : (0 : Int32).toInt = 0 := by decide
  exact Lp4 2147483648 (0 : Int32) (0 : Int32) ls (by omega)  (by omega) (lv_sub hl [0, 1, 2, 3] rfl)

set_option maxRecDepth 100000 in
set_option maxHeartbeats 4000000 in
theorem c_X8_wallsIn (l : Launch) (D : DD) (G : Nat → Nat) (a0 : Nat) (x1 : Int32) (ga0 : G a0 = 18) : CP l D G yX8_wallsIn cX8_wallsIn 4 (some .int) 0 [.ref a0, .int x1] (fun _ => True) (pI (fun H r => True)) := by
  refine enter (by decide) (Nat.le_of_ble_eq_true rfl) ?_
  intro p e s m args below meth c ls Q hA hQ C hr hO hpre hl
  have hx := C.1
  have hb := C.2.1
  have hl : lv_has ls 4 [(0, .ref a0), (1, .int x1)] := hl
  refine lv_iconst (v := 0) hx hb dX8_wallsIn_0 (by decide) ?_
  refine lv_istore_n (lv' := [(2, .int (0 : Int32)), (0, .ref a0), (1, .int x1)]) hx hb dX8_wallsIn_1 rfl hl (by decide) rfl (fun ls hl => ?_)
  refine lv_iconst (v := 0) hx hb dX8_wallsIn_2 (by decide) ?_
  refine lv_istore_n (lv' := [(3, .int (0 : Int32)), (2, .int (0 : Int32)), (0, .ref a0), (1, .int x1)]) hx hb dX8_wallsIn_3 rfl hl (by decide) rfl (fun ls hl => ?_)
  have Lp4 : ∀ (n : Nat) (x3_4 : Int32) (x2_4 : Int32) (ls : Array Slot), (0 ≤ x3_4.toInt ∧ x3_4.toInt ≤ 2147483647) → 2147483648 - x3_4.toInt ≤ (n : Int) → lv_has ls 4 [(3, .int x3_4), (2, .int x2_4), (0, .ref a0), (1, .int x1)] → W p l e (rmU 0 0 0) s m args below meth c s.heap [] 0 0 Q (F0 m 4 ls []) := by
    intro n
    induction n with
    | zero =>
      intro x3_4 x2_4 ls j4_0 hn hl
      exact absurd hn (by omega)
    | succ n ih4 =>
      intro x3_4 x2_4 ls j4_0 hn hl
      refine lv_iload_n hx hb dX8_wallsIn_4 rfl (lv_at hl 0 rfl) ?_
      refine lv_aload_n hx hb dX8_wallsIn_5 rfl (lv_at hl 2 rfl) ?_
      refine q_gr (T := TX8) C hO ga0 0 kF_X8_25 dX8_wallsIn_6 rfl rfl (by decide) rfl (by decide) rfl (fun g1 => ?_)
      refine q_gi (T := TX5) C hO g1 4 kF_X8_29 dX8_wallsIn_9 rfl rfl (by decide) rfl (by decide) rfl ?_
      have r2 : 0 ≤ (fI D s.heap 5 (fR D s.heap 8 a0 0) 4).toInt ∧ (fI D s.heap 5 (fR D s.heap 8 a0 0) 4).toInt ≤ 12 := hO.rng g1 rfl (by decide) rfl
      have r4 := i_rng x3_4
      refine lv_icmp_ge (tgt := 42) hx hb dX8_wallsIn_12 (by decide) (fun c3 => ?_) (fun c3 => ?_)
      · have b3 : (fI D s.heap 5 (fR D s.heap 8 a0 0) 4).toInt ≤ x3_4.toInt := i_le.mp c3
        refine lv_iload_n hx hb dX8_wallsIn_42 rfl (lv_at hl 1 rfl) ?_
        exact retP_i hQ C hr dX8_wallsIn_43 (trivial)
      · have b3 : ¬ (fI D s.heap 5 (fR D s.heap 8 a0 0) 4).toInt ≤ x3_4.toInt := fun z9 => c3 (i_le.mpr z9)
        refine lv_iload_n hx hb dX8_wallsIn_15 rfl (lv_at hl 1 rfl) ?_
        refine lv_iload_n hx hb dX8_wallsIn_16 rfl (lv_at hl 3 rfl) ?_
        refine lv_iload_n hx hb dX8_wallsIn_17 rfl (lv_at hl 0 rfl) ?_
        refine lv_ishr hx hb dX8_wallsIn_18 ?_
        refine lv_topi (fun v5 ev5 => ?_)
        refine lv_iconst (v := 1) hx hb dX8_wallsIn_19 (by decide) ?_
        have k_1 : (1 : Int32).toInt = 1 := by decide
        refine lv_iand hx hb dX8_wallsIn_20 ?_
        have r6 := i_rng v5
        refine lv_topi (fun v7 ev7 => ?_)
        have f8 : 0 ≤ v7.toInt ∧ v7.toInt ≤ (1 : Int32).toInt := by rw [ev7]; exact i_and (by omega)
        refine lv_aload_n hx hb dX8_wallsIn_21 rfl (lv_at hl 2 rfl) ?_
        refine q_gr (T := TX8) C hO ga0 0 kF_X8_25 dX8_wallsIn_22 rfl rfl (by decide) rfl (by decide) rfl (fun g9 => ?_)
        refine q_gr (T := TX5) C hO g9 1 kF_X8_75 dX8_wallsIn_25 rfl rfl (by decide) rfl (by decide) rfl (fun g10 => ?_)
        refine lv_iload_n hx hb dX8_wallsIn_28 rfl (lv_at hl 0 rfl) ?_
        refine q_aald C hO g10 (by omega) (by omega) dX8_wallsIn_29 rfl (by decide) rfl rfl (fun g11 => ?_)
        refine q_gi (T := TX1) C hO g11 4 kF_X8_96 dX8_wallsIn_30 rfl rfl (by decide) rfl (by decide) rfl ?_
        refine lv_imul hx hb dX8_wallsIn_33 ?_
        refine lv_topi (fun v12 ev12 => ?_)
        refine lv_iadd hx hb dX8_wallsIn_34 ?_
        refine lv_topi (fun v13 ev13 => ?_)
        refine lv_istore_n (lv' := [(2, .int v13), (3, .int x3_4), (0, .ref a0), (1, .int x1)]) hx hb dX8_wallsIn_35 rfl hl (by decide) rfl (fun ls hl => ?_)
        obtain ⟨v14, ev14⟩ : ∃ y : Int32, y = x3_4 + (1) := ⟨_, rfl⟩
        have f15 : v14.toInt = x3_4.toInt + (1) := by rw [ev14]; exact i_addc k_1 (by omega) (by omega)
        refine lv_iinc (v := v14) (lv' := [(3, .int v14), (2, .int v13), (0, .ref a0), (1, .int x1)]) hx hb dX8_wallsIn_36 hl (k := 1) rfl (by rw [ev14]; rfl) (by decide) rfl (fun ls hl => ?_)
        refine lv_goto (tgt := 4) hx hb dX8_wallsIn_39 (by decide) ?_
        exact ih4 v14 v13 ls (by omega) (by omega) (lv_sub hl [0, 1, 2, 3] rfl)
  have k_0 : (0 : Int32).toInt = 0 := by decide
  exact Lp4 2147483648 (0 : Int32) (0 : Int32) ls (by omega)  (by omega) (lv_sub hl [0, 1, 2, 3] rfl)

set_option maxRecDepth 100000 in
set_option maxHeartbeats 4000000 in
theorem c_X8_fits (l : Launch) (D : DD) (G : Nat → Nat) (a0 : Nat) (x1 : Int32) (ga0 : G a0 = 18) : CP l D G yX8_fits cX8_fits 4 (some .boolean) 0 [.ref a0, .int x1] (fun _ => True) (pI (fun H r => 0 ≤ r.toInt ∧ r.toInt ≤ 1)) := by
  refine enter (by decide) (Nat.le_of_ble_eq_true rfl) ?_
  intro p e s m args below meth c ls Q hA hQ C hr hO hpre hl
  have hx := C.1
  have hb := C.2.1
  have hl : lv_has ls 4 [(0, .ref a0), (1, .int x1)] := hl
  refine lv_iconst (v := 0) hx hb dX8_fits_0 (by decide) ?_
  refine lv_istore_n (lv' := [(2, .int (0 : Int32)), (0, .ref a0), (1, .int x1)]) hx hb dX8_fits_1 rfl hl (by decide) rfl (fun ls hl => ?_)
  refine lv_iconst (v := 0) hx hb dX8_fits_2 (by decide) ?_
  refine lv_istore_n (lv' := [(3, .int (0 : Int32)), (2, .int (0 : Int32)), (0, .ref a0), (1, .int x1)]) hx hb dX8_fits_3 rfl hl (by decide) rfl (fun ls hl => ?_)
  have Lp4 : ∀ (n : Nat) (x3_4 : Int32) (x2_4 : Int32) (ls : Array Slot), (0 ≤ x3_4.toInt ∧ x3_4.toInt ≤ 2147483647) → 2147483648 - x3_4.toInt ≤ (n : Int) → lv_has ls 4 [(3, .int x3_4), (2, .int x2_4), (0, .ref a0), (1, .int x1)] → W p l e (rmU 0 0 0) s m args below meth c s.heap [] 0 0 Q (F0 m 4 ls []) := by
    intro n
    induction n with
    | zero =>
      intro x3_4 x2_4 ls j4_0 hn hl
      exact absurd hn (by omega)
    | succ n ih4 =>
      intro x3_4 x2_4 ls j4_0 hn hl
      refine lv_iload_n hx hb dX8_fits_4 rfl (lv_at hl 0 rfl) ?_
      refine lv_aload_n hx hb dX8_fits_5 rfl (lv_at hl 2 rfl) ?_
      refine q_gr (T := TX8) C hO ga0 0 kF_X8_25 dX8_fits_6 rfl rfl (by decide) rfl (by decide) rfl (fun g1 => ?_)
      refine q_gi (T := TX5) C hO g1 4 kF_X8_29 dX8_fits_9 rfl rfl (by decide) rfl (by decide) rfl ?_
      have r2 : 0 ≤ (fI D s.heap 5 (fR D s.heap 8 a0 0) 4).toInt ∧ (fI D s.heap 5 (fR D s.heap 8 a0 0) 4).toInt ≤ 12 := hO.rng g1 rfl (by decide) rfl
      have r4 := i_rng x3_4
      refine lv_icmp_ge (tgt := 47) hx hb dX8_fits_12 (by decide) (fun c3 => ?_) (fun c3 => ?_)
      · have b3 : (fI D s.heap 5 (fR D s.heap 8 a0 0) 4).toInt ≤ x3_4.toInt := i_le.mp c3
        refine lv_iload_n hx hb dX8_fits_47 rfl (lv_at hl 1 rfl) ?_
        refine lv_aload_n hx hb dX8_fits_48 rfl (lv_at hl 2 rfl) ?_
        refine q_gi (T := TX8) C hO ga0 3 kF_X8_19 dX8_fits_49 rfl rfl (by decide) rfl (by decide) rfl ?_
        refine lv_iand hx hb dX8_fits_52 ?_
        refine lv_topi (fun v5 ev5 => ?_)
        refine lv_aload_n hx hb dX8_fits_53 rfl (lv_at hl 2 rfl) ?_
        refine q_gi (T := TX8) C hO ga0 3 kF_X8_19 dX8_fits_54 rfl rfl (by decide) rfl (by decide) rfl ?_
        refine lv_icmp_ne (tgt := 73) hx hb dX8_fits_57 (by decide) (fun c6 => ?_) (fun c6 => ?_)
        · have b6 : ¬ v5.toInt = (fI D s.heap 8 a0 3).toInt := fun z9 => c6 (i_eq.mpr z9)
          refine lv_iconst (v := 0) hx hb dX8_fits_73 (by decide) ?_
          have k_0 : (0 : Int32).toInt = 0 := by decide
          exact retP_z hQ C hr dX8_fits_74 (z01 (by omega) (by omega)) (by omega)
        · have b6 : v5.toInt = (fI D s.heap 8 a0 3).toInt := i_eq.mp c6
          refine lv_iload_n hx hb dX8_fits_60 rfl (lv_at hl 1 rfl) ?_
          refine lv_aload_n hx hb dX8_fits_61 rfl (lv_at hl 2 rfl) ?_
          refine q_gi (T := TX8) C hO ga0 4 kF_X8_22 dX8_fits_62 rfl rfl (by decide) rfl (by decide) rfl ?_
          refine lv_iand hx hb dX8_fits_65 ?_
          refine lv_topi (fun v7 ev7 => ?_)
          have k_0 : (0 : Int32).toInt = 0 := by decide
          refine lv_if_ne (tgt := 73) hx hb dX8_fits_66 (by decide) (fun c8 => ?_) (fun c8 => ?_)
          · have b8 : ¬ v7.toInt = (0 : Int32).toInt := fun z9 => c8 (i_eq.mpr z9)
            refine lv_iconst (v := 0) hx hb dX8_fits_73 (by decide) ?_
            exact retP_z hQ C hr dX8_fits_74 (z01 (by omega) (by omega)) (by omega)
          · have b8 : v7.toInt = (0 : Int32).toInt := i_eq.mp c8
            refine lv_iconst (v := 1) hx hb dX8_fits_69 (by decide) ?_
            refine lv_goto (tgt := 74) hx hb dX8_fits_70 (by decide) ?_
            have k_1 : (1 : Int32).toInt = 1 := by decide
            exact retP_z hQ C hr dX8_fits_74 (z01 (by omega) (by omega)) (by omega)
      · have b3 : ¬ (fI D s.heap 5 (fR D s.heap 8 a0 0) 4).toInt ≤ x3_4.toInt := fun z9 => c3 (i_le.mpr z9)
        refine lv_iload_n hx hb dX8_fits_15 rfl (lv_at hl 3 rfl) ?_
        refine lv_iload_n hx hb dX8_fits_16 rfl (lv_at hl 0 rfl) ?_
        refine lv_ishr hx hb dX8_fits_17 ?_
        refine lv_topi (fun v9 ev9 => ?_)
        refine lv_iconst (v := 1) hx hb dX8_fits_18 (by decide) ?_
        have k_1 : (1 : Int32).toInt = 1 := by decide
        refine lv_iand hx hb dX8_fits_19 ?_
        have r10 := i_rng v9
        refine lv_topi (fun v11 ev11 => ?_)
        have f12 : 0 ≤ v11.toInt ∧ v11.toInt ≤ (1 : Int32).toInt := by rw [ev11]; exact i_and (by omega)
        refine lv_iconst (v := 1) hx hb dX8_fits_20 (by decide) ?_
        refine lv_icmp_ne (tgt := 41) hx hb dX8_fits_21 (by decide) (fun c13 => ?_) (fun c13 => ?_)
        · have b13 : ¬ v11.toInt = (1 : Int32).toInt := fun z9 => c13 (i_eq.mpr z9)
          obtain ⟨v14, ev14⟩ : ∃ y : Int32, y = x3_4 + (1) := ⟨_, rfl⟩
          have f15 : v14.toInt = x3_4.toInt + (1) := by rw [ev14]; exact i_addc k_1 (by omega) (by omega)
          refine lv_iinc (v := v14) (lv' := [(3, .int v14), (2, .int x2_4), (0, .ref a0), (1, .int x1)]) hx hb dX8_fits_41 hl (k := 0) rfl (by rw [ev14]; rfl) (by decide) rfl (fun ls hl => ?_)
          refine lv_goto (tgt := 4) hx hb dX8_fits_44 (by decide) ?_
          exact ih4 v14 x2_4 ls (by omega) (by omega) (lv_sub hl [0, 1, 2, 3] rfl)
        · have b13 : v11.toInt = (1 : Int32).toInt := i_eq.mp c13
          refine lv_iload_n hx hb dX8_fits_24 rfl (lv_at hl 1 rfl) ?_
          refine lv_iconst (v := 1) hx hb dX8_fits_25 (by decide) ?_
          refine lv_aload_n hx hb dX8_fits_26 rfl (lv_at hl 2 rfl) ?_
          refine q_gr (T := TX8) C hO ga0 0 kF_X8_25 dX8_fits_27 rfl rfl (by decide) rfl (by decide) rfl (fun g16 => ?_)
          refine q_gr (T := TX5) C hO g16 1 kF_X8_75 dX8_fits_30 rfl rfl (by decide) rfl (by decide) rfl (fun g17 => ?_)
          refine lv_iload_n hx hb dX8_fits_33 rfl (lv_at hl 0 rfl) ?_
          refine q_aald C hO g17 (by omega) (by omega) dX8_fits_34 rfl (by decide) rfl rfl (fun g18 => ?_)
          refine q_gi (T := TX1) C hO g18 2 kF_X8_111 dX8_fits_35 rfl rfl (by decide) rfl (by decide) rfl ?_
          refine lv_ishl hx hb dX8_fits_38 ?_
          refine lv_topi (fun v19 ev19 => ?_)
          refine lv_ior hx hb dX8_fits_39 ?_
          refine lv_topi (fun v20 ev20 => ?_)
          refine lv_istore_n (lv' := [(2, .int v20), (3, .int x3_4), (0, .ref a0), (1, .int x1)]) hx hb dX8_fits_40 rfl hl (by decide) rfl (fun ls hl => ?_)
          obtain ⟨v21, ev21⟩ : ∃ y : Int32, y = x3_4 + (1) := ⟨_, rfl⟩
          have f22 : v21.toInt = x3_4.toInt + (1) := by rw [ev21]; exact i_addc k_1 (by omega) (by omega)
          refine lv_iinc (v := v21) (lv' := [(3, .int v21), (2, .int v20), (0, .ref a0), (1, .int x1)]) hx hb dX8_fits_41 hl (k := 1) rfl (by rw [ev21]; rfl) (by decide) rfl (fun ls hl => ?_)
          refine lv_goto (tgt := 4) hx hb dX8_fits_44 (by decide) ?_
          exact ih4 v21 v20 ls (by omega) (by omega) (lv_sub hl [0, 1, 2, 3] rfl)
  have k_0 : (0 : Int32).toInt = 0 := by decide
  exact Lp4 2147483648 (0 : Int32) (0 : Int32) ls (by omega)  (by omega) (lv_sub hl [0, 1, 2, 3] rfl)

set_option maxRecDepth 100000 in
set_option maxHeartbeats 4000000 in
theorem c_X8_bestWalls (l : Launch) (D : DD) (G : Nat → Nat) (a0 : Nat) (x1 : Int32) (x2 : Int32) (ga0 : G a0 = 18) : CE l D G yX8_bestWalls cX8_bestWalls 12 (some .int) 2 [.ref a0, .int x1, .int x2] (fun _ => True) [(18, 2)] (xI (fun H r H1 => True)) := by
  refine enter (by decide) (Nat.le_of_ble_eq_true rfl) ?_
  intro p e s m args below meth c ls Q hA hQ C hr hO hpre hl
  have hx := C.1
  have hb := C.2.1
  have S : Sd D G [(18, 2)] s.heap s.heap [] := Sd.start hO
  have hl : lv_has ls 12 [(0, .ref a0), (1, .int x1), (2, .int x2)] := hl
  refine lv_aload_n hx hb dX8_bestWalls_0 rfl (lv_at hl 0 rfl) ?_
  refine lv_iload_n hx hb dX8_bestWalls_1 rfl (lv_at hl 1 rfl) ?_
  refine callV_Pi C S.1 S.2.1.2.1 (c_X8_openOf l D G a0 x1 ga0) kV_X8_38 ga0 (trivial) dX8_bestWalls_2 hl.1 rfl rfl (by decide) cd_X8_openOf ⟨Nat.le_of_ble_eq_true rfl, Nat.le_of_ble_eq_true rfl, Nat.le_of_ble_eq_true rfl, Nat.le_of_ble_eq_true rfl, Nat.le_of_ble_eq_true rfl⟩ (fun v1 q1 => ?_)
  refine lv_istore_n (lv' := [(3, .int v1), (0, .ref a0), (1, .int x1), (2, .int x2)]) hx hb dX8_bestWalls_5 rfl hl (by decide) rfl (fun ls hl => ?_)
  refine lv_aload_n hx hb dX8_bestWalls_6 rfl (lv_at hl 1 rfl) ?_
  refine q_gr (T := TX8) C S.1 ga0 0 kF_X8_25 dX8_bestWalls_7 rfl rfl (by decide) rfl (by decide) rfl (fun g2 => ?_)
  refine lv_iload_n hx hb dX8_bestWalls_10 rfl (lv_at hl 2 rfl) ?_
  refine callV_Pi C S.1 S.2.1.2.1 (c_X5_standing l D G (fR D s.heap 8 a0 0) x1 g2) kV_X8_42 g2 (trivial) dX8_bestWalls_11 hl.1 rfl rfl (by decide) cd_X5_standing ⟨Nat.le_of_ble_eq_true rfl, Nat.le_of_ble_eq_true rfl, Nat.le_of_ble_eq_true rfl, Nat.le_of_ble_eq_true rfl, Nat.le_of_ble_eq_true rfl⟩ (fun v3 q3 => ?_)
  refine lv_istore (lv' := [(4, .int v3), (3, .int v1), (0, .ref a0), (1, .int x1), (2, .int x2)]) hx hb dX8_bestWalls_14 hl (by decide) rfl (fun ls hl => ?_)
  refine lv_aload_n hx hb dX8_bestWalls_16 rfl (lv_at hl 2 rfl) ?_
  refine q_gr (T := TX8) C S.1 ga0 0 kF_X8_25 dX8_bestWalls_17 rfl rfl (by decide) rfl (by decide) rfl (fun g4 => ?_)
  refine lv_iload_n hx hb dX8_bestWalls_20 rfl (lv_at hl 3 rfl) ?_
  refine callV_Pi C S.1 S.2.1.2.1 (c_X5_warmthOf l D G (fR D s.heap 8 a0 0) x1 g4) kV_X8_45 g4 (trivial) dX8_bestWalls_21 hl.1 rfl rfl (by decide) cd_X5_warmthOf ⟨Nat.le_of_ble_eq_true rfl, Nat.le_of_ble_eq_true rfl, Nat.le_of_ble_eq_true rfl, Nat.le_of_ble_eq_true rfl, Nat.le_of_ble_eq_true rfl⟩ (fun v5 q5 => ?_)
  refine lv_istore (lv' := [(5, .int v5), (4, .int v3), (3, .int v1), (0, .ref a0), (1, .int x1), (2, .int x2)]) hx hb dX8_bestWalls_24 hl (by decide) rfl (fun ls hl => ?_)
  refine lv_iconst (v := 1) hx hb dX8_bestWalls_26 (by decide) ?_
  refine lv_iload_n hx hb dX8_bestWalls_27 rfl (lv_at hl 2 rfl) ?_
  refine callS_Pi C S.1 S.2.1.2.1 (c_J6_bitCount_0f7a4 l D G v1) kS_X8_48 (trivial) dX8_bestWalls_28 hl.1 cd_J6_bitCount_0f7a4 ⟨Nat.le_of_ble_eq_true rfl, Nat.le_of_ble_eq_true rfl, Nat.le_of_ble_eq_true rfl, Nat.le_of_ble_eq_true rfl, Nat.le_of_ble_eq_true rfl⟩ (fun v6 q6 => ?_)
  have k_1 : (1 : Int32).toInt = 1 := by decide
  refine lv_ishl hx hb dX8_bestWalls_31 ?_
  refine lv_topi (fun v7 ev7 => ?_)
  refine lv_istore (lv' := [(6, .int v7), (5, .int v5), (4, .int v3), (3, .int v1), (0, .ref a0), (1, .int x1), (2, .int x2)]) hx hb dX8_bestWalls_32 hl (by decide) rfl (fun ls hl => ?_)
  refine lv_iconst (v := 0) hx hb dX8_bestWalls_34 (by decide) ?_
  refine lv_istore (lv' := [(7, .int (0 : Int32)), (6, .int v7), (5, .int v5), (4, .int v3), (3, .int v1), (0, .ref a0), (1, .int x1), (2, .int x2)]) hx hb dX8_bestWalls_35 hl (by decide) rfl (fun ls hl => ?_)
  refine lv_iconst (v := 0) hx hb dX8_bestWalls_37 (by decide) ?_
  refine lv_istore (lv' := [(8, .int (0 : Int32)), (7, .int (0 : Int32)), (6, .int v7), (5, .int v5), (4, .int v3), (3, .int v1), (0, .ref a0), (1, .int x1), (2, .int x2)]) hx hb dX8_bestWalls_38 hl (by decide) rfl (fun ls hl => ?_)
  refine lv_iconst (v := 0) hx hb dX8_bestWalls_40 (by decide) ?_
  refine lv_istore (lv' := [(9, .int (0 : Int32)), (8, .int (0 : Int32)), (7, .int (0 : Int32)), (6, .int v7), (5, .int v5), (4, .int v3), (3, .int v1), (0, .ref a0), (1, .int x1), (2, .int x2)]) hx hb dX8_bestWalls_41 hl (by decide) rfl (fun ls hl => ?_)
  have Lp43 : ∀ (n : Nat) (x9_43 : Int32) (x8_43 : Int32) (x7_43 : Int32) (H_43 : Heap) (L_43 : List Loc) (ls : Array Slot), (Sd D G [(18, 2)] s.heap H_43 L_43) → (0 ≤ x9_43.toInt ∧ x9_43.toInt ≤ 2147483647) → 2147483648 - x9_43.toInt ≤ (n : Int) → lv_has ls 12 [(9, .int x9_43), (8, .int x8_43), (7, .int x7_43), (6, .int v7), (5, .int v5), (4, .int v3), (3, .int v1), (0, .ref a0), (2, .int x2)] → W p l e (rmU 2 0 0) s m args below meth c H_43 L_43 0 0 Q (F0 m 43 ls []) := by
    intro n
    induction n with
    | zero =>
      intro x9_43 x8_43 x7_43 H_43 L_43 ls S_43 j43_0 hn hl
      exact absurd hn (by omega)
    | succ n ih43 =>
      intro x9_43 x8_43 x7_43 H_43 L_43 ls S_43 j43_0 hn hl
      refine lv_iload hx hb dX8_bestWalls_43 (lv_at hl 0 rfl) ?_
      refine lv_iload hx hb dX8_bestWalls_45 (lv_at hl 3 rfl) ?_
      have r9 := i_rng v7
      refine lv_icmp_ge (tgt := 132) hx hb dX8_bestWalls_47 (by decide) (fun c8 => ?_) (fun c8 => ?_)
      · have b8 : v7.toInt ≤ x9_43.toInt := i_le.mp c8
        refine lv_iload hx hb dX8_bestWalls_132 (lv_at hl 2 rfl) ?_
        exact retE_i hQ C S_43 hr dX8_bestWalls_134 (trivial)
      · have b8 : ¬ v7.toInt ≤ x9_43.toInt := fun z9 => c8 (i_le.mpr z9)
        refine lv_iload hx hb dX8_bestWalls_50 (lv_at hl 5 rfl) ?_
        refine lv_iload hx hb dX8_bestWalls_52 (lv_at hl 1 rfl) ?_
        refine callS_Pi C S_43.1 S_43.2.1.2.1 (c_J6_bitCount_0f7a4 l D G x8_43) kS_X8_48 (trivial) dX8_bestWalls_54 hl.1 cd_J6_bitCount_0f7a4 ⟨Nat.le_of_ble_eq_true rfl, Nat.le_of_ble_eq_true rfl, Nat.le_of_ble_eq_true rfl, Nat.le_of_ble_eq_true rfl, Nat.le_of_ble_eq_true rfl⟩ (fun v10 q10 => ?_)
        refine lv_isub hx hb dX8_bestWalls_57 ?_
        refine lv_topi (fun v11 ev11 => ?_)
        refine lv_istore (lv' := [(10, .int v11), (9, .int x9_43), (8, .int x8_43), (7, .int x7_43), (6, .int v7), (5, .int v5), (4, .int v3), (3, .int v1), (0, .ref a0), (2, .int x2)]) hx hb dX8_bestWalls_58 hl (by decide) rfl (fun ls hl => ?_)
        refine lv_iconst (v := 2) hx hb dX8_bestWalls_60 (by decide) ?_
        refine lv_iload hx hb dX8_bestWalls_61 (lv_at hl 5 rfl) ?_
        refine lv_aload_n hx hb dX8_bestWalls_63 rfl (lv_at hl 8 rfl) ?_
        refine lv_iload hx hb dX8_bestWalls_64 (lv_at hl 2 rfl) ?_
        refine callV_Pi C S_43.1 S_43.2.1.2.1 (c_X8_warmIn l D G a0 x8_43 ga0) kV_X8_53 ga0 (trivial) dX8_bestWalls_66 hl.1 rfl rfl (by decide) cd_X8_warmIn ⟨Nat.le_of_ble_eq_true rfl, Nat.le_of_ble_eq_true rfl, Nat.le_of_ble_eq_true rfl, Nat.le_of_ble_eq_true rfl, Nat.le_of_ble_eq_true rfl⟩ (fun v12 q12 => ?_)
        refine lv_isub hx hb dX8_bestWalls_69 ?_
        refine lv_topi (fun v13 ev13 => ?_)
        have k_2 : (2 : Int32).toInt = 2 := by decide
        refine lv_imul hx hb dX8_bestWalls_70 ?_
        refine lv_topi (fun v14 ev14 => ?_)
        refine lv_aload_n hx hb dX8_bestWalls_71 rfl (lv_at hl 8 rfl) ?_
        refine lv_iload_n hx hb dX8_bestWalls_72 rfl (lv_at hl 7 rfl) ?_
        refine lv_iload hx hb dX8_bestWalls_73 (lv_at hl 2 rfl) ?_
        refine lv_iconst (v := -1) hx hb dX8_bestWalls_75 (by decide) ?_
        have k_m1 : (-1 : Int32).toInt = -1 := by decide
        refine lv_ixor hx hb dX8_bestWalls_76 ?_
        refine lv_topi (fun v15 ev15 => ?_)
        refine lv_iand hx hb dX8_bestWalls_77 ?_
        refine lv_topi (fun v16 ev16 => ?_)
        refine lv_iload hx hb dX8_bestWalls_78 (lv_at hl 0 rfl) ?_
        refine lv_iload_n hx hb dX8_bestWalls_80 rfl (lv_at hl 9 rfl) ?_
        refine callV_Pi C S_43.1 S_43.2.1.2.1 (c_X8_paysWith l D G a0 v16 v11 x2 ga0) kV_X8_56 ga0 (trivial) dX8_bestWalls_81 hl.1 rfl rfl (by decide) cd_X8_paysWith ⟨Nat.le_of_ble_eq_true rfl, Nat.le_of_ble_eq_true rfl, Nat.le_of_ble_eq_true rfl, Nat.le_of_ble_eq_true rfl, Nat.le_of_ble_eq_true rfl⟩ (fun v17 q17 => ?_)
        refine lv_isub hx hb dX8_bestWalls_84 ?_
        refine lv_topi (fun v18 ev18 => ?_)
        refine lv_aload_n hx hb dX8_bestWalls_85 rfl (lv_at hl 8 rfl) ?_
        refine lv_iload hx hb dX8_bestWalls_86 (lv_at hl 2 rfl) ?_
        refine callV_Pi C S_43.1 S_43.2.1.2.1 (c_X8_wallsIn l D G a0 x8_43 ga0) kV_X8_60 ga0 (trivial) dX8_bestWalls_88 hl.1 rfl rfl (by decide) cd_X8_wallsIn ⟨Nat.le_of_ble_eq_true rfl, Nat.le_of_ble_eq_true rfl, Nat.le_of_ble_eq_true rfl, Nat.le_of_ble_eq_true rfl, Nat.le_of_ble_eq_true rfl⟩ (fun v19 q19 => ?_)
        refine lv_isub hx hb dX8_bestWalls_91 ?_
        refine lv_topi (fun v20 ev20 => ?_)
        refine lv_istore (lv' := [(11, .int v20), (10, .int v11), (9, .int x9_43), (8, .int x8_43), (7, .int x7_43), (6, .int v7), (5, .int v5), (4, .int v3), (3, .int v1), (0, .ref a0), (2, .int x2)]) hx hb dX8_bestWalls_92 hl (by decide) rfl (fun ls hl => ?_)
        refine lv_iload hx hb dX8_bestWalls_94 (lv_at hl 2 rfl) ?_
        have k_0 : (0 : Int32).toInt = 0 := by decide
        refine lv_if_eq (tgt := 108) hx hb dX8_bestWalls_96 (by decide) (fun c21 => ?_) (fun c21 => ?_)
        · have b21 : x9_43.toInt = (0 : Int32).toInt := i_eq.mp c21
          refine lv_aload_n hx hb dX8_bestWalls_108 rfl (lv_at hl 9 rfl) ?_
          refine lv_iload hx hb dX8_bestWalls_109 (lv_at hl 0 rfl) ?_
          refine q_put (T := TX8) C S_43 ga0 2 kF_X8_15 dX8_bestWalls_111 rfl rfl (by decide) (by decide) rfl rfl rfl rfl rfl (vok_a rfl) (by decide +kernel) (fun H22 L22 S22 P22 => ?_)
          refine lv_iload hx hb dX8_bestWalls_114 (lv_at hl 3 rfl) ?_
          refine lv_istore (lv' := [(7, .int x8_43), (11, .int v20), (10, .int v11), (9, .int x9_43), (8, .int x8_43), (6, .int v7), (5, .int v5), (4, .int v3), (3, .int v1), (0, .ref a0), (2, .int x2)]) hx hb dX8_bestWalls_116 hl (by decide) rfl (fun ls hl => ?_)
          refine lv_iload hx hb dX8_bestWalls_118 (lv_at hl 4 rfl) ?_
          refine lv_iload_n hx hb dX8_bestWalls_120 rfl (lv_at hl 8 rfl) ?_
          refine callS_Pi C S22.1 S22.2.1.2.1 (c_X8_nextSet l D G x8_43 v1) kS_X8_63 (trivial) dX8_bestWalls_121 hl.1 cd_X8_nextSet ⟨Nat.le_of_ble_eq_true rfl, Nat.le_of_ble_eq_true rfl, Nat.le_of_ble_eq_true rfl, Nat.le_of_ble_eq_true rfl, Nat.le_of_ble_eq_true rfl⟩ (fun v23 q23 => ?_)
          refine lv_istore (lv' := [(8, .int v23), (7, .int x8_43), (11, .int v20), (10, .int v11), (9, .int x9_43), (6, .int v7), (5, .int v5), (4, .int v3), (3, .int v1), (0, .ref a0), (2, .int x2)]) hx hb dX8_bestWalls_124 hl (by decide) rfl (fun ls hl => ?_)
          obtain ⟨v24, ev24⟩ : ∃ y : Int32, y = x9_43 + (1) := ⟨_, rfl⟩
          have f25 : v24.toInt = x9_43.toInt + (1) := by rw [ev24]; exact i_addc k_1 (by omega) (by omega)
          refine lv_iinc (v := v24) (lv' := [(9, .int v24), (8, .int v23), (7, .int x8_43), (11, .int v20), (10, .int v11), (6, .int v7), (5, .int v5), (4, .int v3), (3, .int v1), (0, .ref a0), (2, .int x2)]) hx hb dX8_bestWalls_126 hl (k := 4) rfl (by rw [ev24]; rfl) (by decide) rfl (fun ls hl => ?_)
          refine lv_goto (tgt := 43) hx hb dX8_bestWalls_129 (by decide) ?_
          exact ih43 v24 v23 x8_43 H22 L22 ls S22 (by omega) (by omega) (lv_sub hl [0, 1, 2, 5, 6, 7, 8, 9, 10] rfl)
        · have b21 : ¬ x9_43.toInt = (0 : Int32).toInt := fun z9 => c21 (i_eq.mpr z9)
          refine lv_iload hx hb dX8_bestWalls_99 (lv_at hl 0 rfl) ?_
          refine lv_aload_n hx hb dX8_bestWalls_101 rfl (lv_at hl 9 rfl) ?_
          refine q_gi (T := TX8) C S_43.1 ga0 2 kF_X8_15 dX8_bestWalls_102 rfl rfl (by decide) rfl (by decide) rfl ?_
          refine lv_icmp_le (tgt := 118) hx hb dX8_bestWalls_105 (by decide) (fun c26 => ?_) (fun c26 => ?_)
          · have b26 : v20.toInt ≤ (fI D H_43 8 a0 2).toInt := i_le.mp c26
            refine lv_iload hx hb dX8_bestWalls_118 (lv_at hl 3 rfl) ?_
            refine lv_iload_n hx hb dX8_bestWalls_120 rfl (lv_at hl 8 rfl) ?_
            refine callS_Pi C S_43.1 S_43.2.1.2.1 (c_X8_nextSet l D G x8_43 v1) kS_X8_63 (trivial) dX8_bestWalls_121 hl.1 cd_X8_nextSet ⟨Nat.le_of_ble_eq_true rfl, Nat.le_of_ble_eq_true rfl, Nat.le_of_ble_eq_true rfl, Nat.le_of_ble_eq_true rfl, Nat.le_of_ble_eq_true rfl⟩ (fun v27 q27 => ?_)
            refine lv_istore (lv' := [(8, .int v27), (11, .int v20), (10, .int v11), (9, .int x9_43), (7, .int x7_43), (6, .int v7), (5, .int v5), (4, .int v3), (3, .int v1), (0, .ref a0), (2, .int x2)]) hx hb dX8_bestWalls_124 hl (by decide) rfl (fun ls hl => ?_)
            obtain ⟨v28, ev28⟩ : ∃ y : Int32, y = x9_43 + (1) := ⟨_, rfl⟩
            have f29 : v28.toInt = x9_43.toInt + (1) := by rw [ev28]; exact i_addc k_1 (by omega) (by omega)
            refine lv_iinc (v := v28) (lv' := [(9, .int v28), (8, .int v27), (11, .int v20), (10, .int v11), (7, .int x7_43), (6, .int v7), (5, .int v5), (4, .int v3), (3, .int v1), (0, .ref a0), (2, .int x2)]) hx hb dX8_bestWalls_126 hl (k := 3) rfl (by rw [ev28]; rfl) (by decide) rfl (fun ls hl => ?_)
            refine lv_goto (tgt := 43) hx hb dX8_bestWalls_129 (by decide) ?_
            exact ih43 v28 v27 x7_43 H_43 L_43 ls S_43 (by omega) (by omega) (lv_sub hl [0, 1, 4, 5, 6, 7, 8, 9, 10] rfl)
          · have b26 : ¬ v20.toInt ≤ (fI D H_43 8 a0 2).toInt := fun z9 => c26 (i_le.mpr z9)
            refine lv_aload_n hx hb dX8_bestWalls_108 rfl (lv_at hl 9 rfl) ?_
            refine lv_iload hx hb dX8_bestWalls_109 (lv_at hl 0 rfl) ?_
            refine q_put (T := TX8) C S_43 ga0 2 kF_X8_15 dX8_bestWalls_111 rfl rfl (by decide) (by decide) rfl rfl rfl rfl rfl (vok_a rfl) (by decide +kernel) (fun H30 L30 S30 P30 => ?_)
            refine lv_iload hx hb dX8_bestWalls_114 (lv_at hl 3 rfl) ?_
            refine lv_istore (lv' := [(7, .int x8_43), (11, .int v20), (10, .int v11), (9, .int x9_43), (8, .int x8_43), (6, .int v7), (5, .int v5), (4, .int v3), (3, .int v1), (0, .ref a0), (2, .int x2)]) hx hb dX8_bestWalls_116 hl (by decide) rfl (fun ls hl => ?_)
            refine lv_iload hx hb dX8_bestWalls_118 (lv_at hl 4 rfl) ?_
            refine lv_iload_n hx hb dX8_bestWalls_120 rfl (lv_at hl 8 rfl) ?_
            refine callS_Pi C S30.1 S30.2.1.2.1 (c_X8_nextSet l D G x8_43 v1) kS_X8_63 (trivial) dX8_bestWalls_121 hl.1 cd_X8_nextSet ⟨Nat.le_of_ble_eq_true rfl, Nat.le_of_ble_eq_true rfl, Nat.le_of_ble_eq_true rfl, Nat.le_of_ble_eq_true rfl, Nat.le_of_ble_eq_true rfl⟩ (fun v31 q31 => ?_)
            refine lv_istore (lv' := [(8, .int v31), (7, .int x8_43), (11, .int v20), (10, .int v11), (9, .int x9_43), (6, .int v7), (5, .int v5), (4, .int v3), (3, .int v1), (0, .ref a0), (2, .int x2)]) hx hb dX8_bestWalls_124 hl (by decide) rfl (fun ls hl => ?_)
            obtain ⟨v32, ev32⟩ : ∃ y : Int32, y = x9_43 + (1) := ⟨_, rfl⟩
            have f33 : v32.toInt = x9_43.toInt + (1) := by rw [ev32]; exact i_addc k_1 (by omega) (by omega)
            refine lv_iinc (v := v32) (lv' := [(9, .int v32), (8, .int v31), (7, .int x8_43), (11, .int v20), (10, .int v11), (6, .int v7), (5, .int v5), (4, .int v3), (3, .int v1), (0, .ref a0), (2, .int x2)]) hx hb dX8_bestWalls_126 hl (k := 4) rfl (by rw [ev32]; rfl) (by decide) rfl (fun ls hl => ?_)
            refine lv_goto (tgt := 43) hx hb dX8_bestWalls_129 (by decide) ?_
            exact ih43 v32 v31 x8_43 H30 L30 ls S30 (by omega) (by omega) (lv_sub hl [0, 1, 2, 5, 6, 7, 8, 9, 10] rfl)
  have k_0 : (0 : Int32).toInt = 0 := by decide
  exact Lp43 2147483648 (0 : Int32) (0 : Int32) (0 : Int32) s.heap [] ls S (by omega)  (by omega) (lv_sub hl [0, 1, 2, 3, 4, 5, 6, 7, 9] rfl)

set_option maxRecDepth 100000 in
set_option maxHeartbeats 4000000 in
theorem c_X8_yieldBy (l : Launch) (D : DD) (G : Nat → Nat) (a0 : Nat) (x1 : Int32) (ga0 : G a0 = 18) : CE l D G yX8_yieldBy cX8_yieldBy 6 (some .int) 3 [.ref a0, .int x1] (fun _ => True) [(18, 2)] (xI (fun H r H1 => True)) := by
  refine enter (by decide) (Nat.le_of_ble_eq_true rfl) ?_
  intro p e s m args below meth c ls Q hA hQ C hr hO hpre hl
  have hx := C.1
  have hb := C.2.1
  have S : Sd D G [(18, 2)] s.heap s.heap [] := Sd.start hO
  have hl : lv_has ls 6 [(0, .ref a0), (1, .int x1)] := hl
  refine lv_iconst (v := 0) hx hb dX8_yieldBy_0 (by decide) ?_
  refine lv_istore_n (lv' := [(2, .int (0 : Int32)), (0, .ref a0), (1, .int x1)]) hx hb dX8_yieldBy_1 rfl hl (by decide) rfl (fun ls hl => ?_)
  refine lv_iconst (v := 0) hx hb dX8_yieldBy_2 (by decide) ?_
  refine lv_istore_n (lv' := [(3, .int (0 : Int32)), (2, .int (0 : Int32)), (0, .ref a0), (1, .int x1)]) hx hb dX8_yieldBy_3 rfl hl (by decide) rfl (fun ls hl => ?_)
  have Lp4 : ∀ (n : Nat) (x3_4 : Int32) (x2_4 : Int32) (H_4 : Heap) (L_4 : List Loc) (ls : Array Slot), (Sd D G [(18, 2)] s.heap H_4 L_4) → (0 ≤ x3_4.toInt ∧ x3_4.toInt ≤ 2147483647) → 2147483648 - x3_4.toInt ≤ (n : Int) → lv_has ls 6 [(3, .int x3_4), (2, .int x2_4), (0, .ref a0), (1, .int x1)] → W p l e (rmU 3 0 0) s m args below meth c H_4 L_4 0 0 Q (F0 m 4 ls []) := by
    intro n
    induction n with
    | zero =>
      intro x3_4 x2_4 H_4 L_4 ls S_4 j4_0 hn hl
      exact absurd hn (by omega)
    | succ n ih4 =>
      intro x3_4 x2_4 H_4 L_4 ls S_4 j4_0 hn hl
      refine lv_iload_n hx hb dX8_yieldBy_4 rfl (lv_at hl 0 rfl) ?_
      refine lv_aload_n hx hb dX8_yieldBy_5 rfl (lv_at hl 2 rfl) ?_
      refine q_gr (T := TX8) C S_4.1 ga0 0 kF_X8_25 dX8_yieldBy_6 rfl rfl (by decide) rfl (by decide) rfl (fun g1 => ?_)
      refine q_gi (T := TX5) C S_4.1 g1 3 kF_X8_66 dX8_yieldBy_9 rfl rfl (by decide) rfl (by decide) rfl ?_
      have r2 : 0 ≤ (fI D H_4 5 (fR D H_4 8 a0 0) 3).toInt ∧ (fI D H_4 5 (fR D H_4 8 a0 0) 3).toInt ≤ 6 := S_4.1.rng g1 rfl (by decide) rfl
      have r4 := i_rng x3_4
      refine lv_icmp_ge (tgt := 65) hx hb dX8_yieldBy_12 (by decide) (fun c3 => ?_) (fun c3 => ?_)
      · have b3 : (fI D H_4 5 (fR D H_4 8 a0 0) 3).toInt ≤ x3_4.toInt := i_le.mp c3
        refine lv_iload_n hx hb dX8_yieldBy_65 rfl (lv_at hl 1 rfl) ?_
        exact retE_i hQ C S_4 hr dX8_yieldBy_66 (trivial)
      · have b3 : ¬ (fI D H_4 5 (fR D H_4 8 a0 0) 3).toInt ≤ x3_4.toInt := fun z9 => c3 (i_le.mpr z9)
        refine lv_aload_n hx hb dX8_yieldBy_15 rfl (lv_at hl 2 rfl) ?_
        refine lv_iload_n hx hb dX8_yieldBy_16 rfl (lv_at hl 0 rfl) ?_
        refine lv_iload_n hx hb dX8_yieldBy_17 rfl (lv_at hl 3 rfl) ?_
        refine callV_Ei C S_4 (c_X8_bestWalls l D G a0 x3_4 x1 ga0) kV_X8_69 ga0 (trivial) (by decide +kernel) dX8_yieldBy_18 hl.1 rfl rfl (by decide) cd_X8_bestWalls ⟨Nat.le_of_ble_eq_true rfl, Nat.le_of_ble_eq_true rfl, Nat.le_of_ble_eq_true rfl, Nat.le_of_ble_eq_true rfl, Nat.le_of_ble_eq_true rfl⟩ (fun v5 H5 L5 S5 K5 q5 => ?_)
        refine lv_istore (lv' := [(4, .int v5), (3, .int x3_4), (2, .int x2_4), (0, .ref a0), (1, .int x1)]) hx hb dX8_yieldBy_21 hl (by decide) rfl (fun ls hl => ?_)
        refine lv_aload_n hx hb dX8_yieldBy_23 rfl (lv_at hl 3 rfl) ?_
        refine q_gr (T := TX8) C S5.1 ga0 0 kF_X8_25 dX8_yieldBy_24 rfl rfl (by decide) rfl (by decide) rfl (fun g6 => ?_)
        refine lv_iload_n hx hb dX8_yieldBy_27 rfl (lv_at hl 1 rfl) ?_
        refine callV_Pi C S5.1 S5.2.1.2.1 (c_X5_standing l D G (fR D H5 8 a0 0) x3_4 g6) kV_X8_42 g6 (trivial) dX8_yieldBy_28 hl.1 rfl rfl (by decide) cd_X5_standing ⟨Nat.le_of_ble_eq_true rfl, Nat.le_of_ble_eq_true rfl, Nat.le_of_ble_eq_true rfl, Nat.le_of_ble_eq_true rfl, Nat.le_of_ble_eq_true rfl⟩ (fun v7 q7 => ?_)
        refine lv_iload hx hb dX8_yieldBy_31 (lv_at hl 0 rfl) ?_
        refine callS_Pi C S5.1 S5.2.1.2.1 (c_J6_bitCount_0f7a4 l D G v5) kS_X8_48 (trivial) dX8_yieldBy_33 hl.1 cd_J6_bitCount_0f7a4 ⟨Nat.le_of_ble_eq_true rfl, Nat.le_of_ble_eq_true rfl, Nat.le_of_ble_eq_true rfl, Nat.le_of_ble_eq_true rfl, Nat.le_of_ble_eq_true rfl⟩ (fun v8 q8 => ?_)
        refine lv_isub hx hb dX8_yieldBy_36 ?_
        refine lv_topi (fun v9 ev9 => ?_)
        refine lv_istore (lv' := [(5, .int v9), (4, .int v5), (3, .int x3_4), (2, .int x2_4), (0, .ref a0), (1, .int x1)]) hx hb dX8_yieldBy_37 hl (by decide) rfl (fun ls hl => ?_)
        refine lv_iload_n hx hb dX8_yieldBy_39 rfl (lv_at hl 3 rfl) ?_
        refine lv_aload_n hx hb dX8_yieldBy_40 rfl (lv_at hl 4 rfl) ?_
        refine lv_aload_n hx hb dX8_yieldBy_41 rfl (lv_at hl 4 rfl) ?_
        refine lv_iload_n hx hb dX8_yieldBy_42 rfl (lv_at hl 2 rfl) ?_
        refine callV_Pi C S5.1 S5.2.1.2.1 (c_X8_openOf l D G a0 x3_4 ga0) kV_X8_38 ga0 (trivial) dX8_yieldBy_43 hl.1 rfl rfl (by decide) cd_X8_openOf ⟨Nat.le_of_ble_eq_true rfl, Nat.le_of_ble_eq_true rfl, Nat.le_of_ble_eq_true rfl, Nat.le_of_ble_eq_true rfl, Nat.le_of_ble_eq_true rfl⟩ (fun v10 q10 => ?_)
        refine lv_iload hx hb dX8_yieldBy_46 (lv_at hl 1 rfl) ?_
        refine lv_iconst (v := -1) hx hb dX8_yieldBy_48 (by decide) ?_
        have k_m1 : (-1 : Int32).toInt = -1 := by decide
        refine lv_ixor hx hb dX8_yieldBy_49 ?_
        refine lv_topi (fun v11 ev11 => ?_)
        refine lv_iand hx hb dX8_yieldBy_50 ?_
        refine lv_topi (fun v12 ev12 => ?_)
        refine lv_iload hx hb dX8_yieldBy_51 (lv_at hl 0 rfl) ?_
        refine lv_iload_n hx hb dX8_yieldBy_53 rfl (lv_at hl 5 rfl) ?_
        refine callV_Pi C S5.1 S5.2.1.2.1 (c_X8_paysWith l D G a0 v12 v9 x1 ga0) kV_X8_56 ga0 (trivial) dX8_yieldBy_54 hl.1 rfl rfl (by decide) cd_X8_paysWith ⟨Nat.le_of_ble_eq_true rfl, Nat.le_of_ble_eq_true rfl, Nat.le_of_ble_eq_true rfl, Nat.le_of_ble_eq_true rfl, Nat.le_of_ble_eq_true rfl⟩ (fun v13 q13 => ?_)
        refine lv_iadd hx hb dX8_yieldBy_57 ?_
        refine lv_topi (fun v14 ev14 => ?_)
        refine lv_istore_n (lv' := [(2, .int v14), (5, .int v9), (4, .int v5), (3, .int x3_4), (0, .ref a0), (1, .int x1)]) hx hb dX8_yieldBy_58 rfl hl (by decide) rfl (fun ls hl => ?_)
        obtain ⟨v15, ev15⟩ : ∃ y : Int32, y = x3_4 + (1) := ⟨_, rfl⟩
        have k_1 : (1 : Int32).toInt = 1 := by decide
        have f16 : v15.toInt = x3_4.toInt + (1) := by rw [ev15]; exact i_addc k_1 (by omega) (by omega)
        refine lv_iinc (v := v15) (lv' := [(3, .int v15), (2, .int v14), (5, .int v9), (4, .int v5), (0, .ref a0), (1, .int x1)]) hx hb dX8_yieldBy_59 hl (k := 3) rfl (by rw [ev15]; rfl) (by decide) rfl (fun ls hl => ?_)
        refine lv_goto (tgt := 4) hx hb dX8_yieldBy_62 (by decide) ?_
        exact ih4 v15 v14 H5 L5 ls S5 (by omega) (by omega) (lv_sub hl [0, 1, 4, 5] rfl)
  have k_0 : (0 : Int32).toInt = 0 := by decide
  exact Lp4 2147483648 (0 : Int32) (0 : Int32) s.heap [] ls S (by omega)  (by omega) (lv_sub hl [0, 1, 2, 3] rfl)

set_option maxRecDepth 100000 in
set_option maxHeartbeats 4000000 in
theorem c_X8_fewestWalls (l : Launch) (D : DD) (G : Nat → Nat) (a0 : Nat) (x1 : Int32) (x2 : Int32) (ga0 : G a0 = 18) : CP l D G yX8_fewestWalls cX8_fewestWalls 10 (some .int) 2 [.ref a0, .int x1, .int x2] (fun _ => True) (pI (fun H r => True)) := by
  refine enter (by decide) (Nat.le_of_ble_eq_true rfl) ?_
  intro p e s m args below meth c ls Q hA hQ C hr hO hpre hl
  have hx := C.1
  have hb := C.2.1
  have hl : lv_has ls 10 [(0, .ref a0), (1, .int x1), (2, .int x2)] := hl
  refine lv_aload_n hx hb dX8_fewestWalls_0 rfl (lv_at hl 0 rfl) ?_
  refine lv_iload_n hx hb dX8_fewestWalls_1 rfl (lv_at hl 1 rfl) ?_
  refine callV_Pi C hO (fun _ _ _ => rfl) (c_X8_openOf l D G a0 x1 ga0) kV_X8_38 ga0 (trivial) dX8_fewestWalls_2 hl.1 rfl rfl (by decide) cd_X8_openOf ⟨Nat.le_of_ble_eq_true rfl, Nat.le_of_ble_eq_true rfl, Nat.le_of_ble_eq_true rfl, Nat.le_of_ble_eq_true rfl, Nat.le_of_ble_eq_true rfl⟩ (fun v1 q1 => ?_)
  refine lv_istore_n (lv' := [(3, .int v1), (0, .ref a0), (1, .int x1), (2, .int x2)]) hx hb dX8_fewestWalls_5 rfl hl (by decide) rfl (fun ls hl => ?_)
  refine lv_aload_n hx hb dX8_fewestWalls_6 rfl (lv_at hl 1 rfl) ?_
  refine q_gr (T := TX8) C hO ga0 0 kF_X8_25 dX8_fewestWalls_7 rfl rfl (by decide) rfl (by decide) rfl (fun g2 => ?_)
  refine lv_iload_n hx hb dX8_fewestWalls_10 rfl (lv_at hl 2 rfl) ?_
  refine callV_Pi C hO (fun _ _ _ => rfl) (c_X5_standing l D G (fR D s.heap 8 a0 0) x1 g2) kV_X8_42 g2 (trivial) dX8_fewestWalls_11 hl.1 rfl rfl (by decide) cd_X5_standing ⟨Nat.le_of_ble_eq_true rfl, Nat.le_of_ble_eq_true rfl, Nat.le_of_ble_eq_true rfl, Nat.le_of_ble_eq_true rfl, Nat.le_of_ble_eq_true rfl⟩ (fun v3 q3 => ?_)
  refine lv_istore (lv' := [(4, .int v3), (3, .int v1), (0, .ref a0), (1, .int x1), (2, .int x2)]) hx hb dX8_fewestWalls_14 hl (by decide) rfl (fun ls hl => ?_)
  refine lv_iconst (v := 1) hx hb dX8_fewestWalls_16 (by decide) ?_
  refine lv_iload_n hx hb dX8_fewestWalls_17 rfl (lv_at hl 1 rfl) ?_
  refine callS_Pi C hO (fun _ _ _ => rfl) (c_J6_bitCount_0f7a4 l D G v1) kS_X8_48 (trivial) dX8_fewestWalls_18 hl.1 cd_J6_bitCount_0f7a4 ⟨Nat.le_of_ble_eq_true rfl, Nat.le_of_ble_eq_true rfl, Nat.le_of_ble_eq_true rfl, Nat.le_of_ble_eq_true rfl, Nat.le_of_ble_eq_true rfl⟩ (fun v4 q4 => ?_)
  have k_1 : (1 : Int32).toInt = 1 := by decide
  refine lv_ishl hx hb dX8_fewestWalls_21 ?_
  refine lv_topi (fun v5 ev5 => ?_)
  refine lv_istore (lv' := [(5, .int v5), (4, .int v3), (3, .int v1), (0, .ref a0), (1, .int x1), (2, .int x2)]) hx hb dX8_fewestWalls_22 hl (by decide) rfl (fun ls hl => ?_)
  refine lv_iload_n hx hb dX8_fewestWalls_24 rfl (lv_at hl 2 rfl) ?_
  refine lv_istore (lv' := [(6, .int v1), (5, .int v5), (4, .int v3), (3, .int v1), (0, .ref a0), (1, .int x1), (2, .int x2)]) hx hb dX8_fewestWalls_25 hl (by decide) rfl (fun ls hl => ?_)
  refine lv_iconst (v := 0) hx hb dX8_fewestWalls_27 (by decide) ?_
  refine lv_istore (lv' := [(7, .int (0 : Int32)), (6, .int v1), (5, .int v5), (4, .int v3), (3, .int v1), (0, .ref a0), (1, .int x1), (2, .int x2)]) hx hb dX8_fewestWalls_28 hl (by decide) rfl (fun ls hl => ?_)
  refine lv_iconst (v := 0) hx hb dX8_fewestWalls_30 (by decide) ?_
  refine lv_istore (lv' := [(8, .int (0 : Int32)), (7, .int (0 : Int32)), (6, .int v1), (5, .int v5), (4, .int v3), (3, .int v1), (0, .ref a0), (1, .int x1), (2, .int x2)]) hx hb dX8_fewestWalls_31 hl (by decide) rfl (fun ls hl => ?_)
  have Lp33 : ∀ (n : Nat) (x8_33 : Int32) (x7_33 : Int32) (x6_33 : Int32) (ls : Array Slot), (0 ≤ x8_33.toInt ∧ x8_33.toInt ≤ 2147483647) → 2147483648 - x8_33.toInt ≤ (n : Int) → lv_has ls 10 [(8, .int x8_33), (7, .int x7_33), (6, .int x6_33), (5, .int v5), (4, .int v3), (3, .int v1), (0, .ref a0), (2, .int x2)] → W p l e (rmU 2 0 0) s m args below meth c s.heap [] 0 0 Q (F0 m 33 ls []) := by
    intro n
    induction n with
    | zero =>
      intro x8_33 x7_33 x6_33 ls j33_0 hn hl
      exact absurd hn (by omega)
    | succ n ih33 =>
      intro x8_33 x7_33 x6_33 ls j33_0 hn hl
      refine lv_iload hx hb dX8_fewestWalls_33 (lv_at hl 0 rfl) ?_
      refine lv_iload hx hb dX8_fewestWalls_35 (lv_at hl 3 rfl) ?_
      have r7 := i_rng v5
      refine lv_icmp_ge (tgt := 101) hx hb dX8_fewestWalls_37 (by decide) (fun c6 => ?_) (fun c6 => ?_)
      · have b6 : v5.toInt ≤ x8_33.toInt := i_le.mp c6
        refine lv_iload hx hb dX8_fewestWalls_101 (lv_at hl 2 rfl) ?_
        exact retP_i hQ C hr dX8_fewestWalls_103 (trivial)
      · have b6 : ¬ v5.toInt ≤ x8_33.toInt := fun z9 => c6 (i_le.mpr z9)
        refine lv_iload hx hb dX8_fewestWalls_40 (lv_at hl 1 rfl) ?_
        refine callS_Pi C hO (fun _ _ _ => rfl) (c_J6_bitCount_0f7a4 l D G x7_33) kS_X8_48 (trivial) dX8_fewestWalls_42 hl.1 cd_J6_bitCount_0f7a4 ⟨Nat.le_of_ble_eq_true rfl, Nat.le_of_ble_eq_true rfl, Nat.le_of_ble_eq_true rfl, Nat.le_of_ble_eq_true rfl, Nat.le_of_ble_eq_true rfl⟩ (fun v8 q8 => ?_)
        refine lv_istore (lv' := [(9, .int v8), (8, .int x8_33), (7, .int x7_33), (6, .int x6_33), (5, .int v5), (4, .int v3), (3, .int v1), (0, .ref a0), (2, .int x2)]) hx hb dX8_fewestWalls_45 hl (by decide) rfl (fun ls hl => ?_)
        refine lv_iload hx hb dX8_fewestWalls_47 (lv_at hl 0 rfl) ?_
        refine lv_iload hx hb dX8_fewestWalls_49 (lv_at hl 3 rfl) ?_
        refine callS_Pi C hO (fun _ _ _ => rfl) (c_J6_bitCount_0f7a4 l D G x6_33) kS_X8_48 (trivial) dX8_fewestWalls_51 hl.1 cd_J6_bitCount_0f7a4 ⟨Nat.le_of_ble_eq_true rfl, Nat.le_of_ble_eq_true rfl, Nat.le_of_ble_eq_true rfl, Nat.le_of_ble_eq_true rfl, Nat.le_of_ble_eq_true rfl⟩ (fun v9 q9 => ?_)
        refine lv_icmp_ge (tgt := 87) hx hb dX8_fewestWalls_54 (by decide) (fun c10 => ?_) (fun c10 => ?_)
        · have b10 : v9.toInt ≤ v8.toInt := i_le.mp c10
          refine lv_iload hx hb dX8_fewestWalls_87 (lv_at hl 2 rfl) ?_
          refine lv_iload_n hx hb dX8_fewestWalls_89 rfl (lv_at hl 6 rfl) ?_
          refine callS_Pi C hO (fun _ _ _ => rfl) (c_X8_nextSet l D G x7_33 v1) kS_X8_63 (trivial) dX8_fewestWalls_90 hl.1 cd_X8_nextSet ⟨Nat.le_of_ble_eq_true rfl, Nat.le_of_ble_eq_true rfl, Nat.le_of_ble_eq_true rfl, Nat.le_of_ble_eq_true rfl, Nat.le_of_ble_eq_true rfl⟩ (fun v11 q11 => ?_)
          refine lv_istore (lv' := [(7, .int v11), (9, .int v8), (8, .int x8_33), (6, .int x6_33), (5, .int v5), (4, .int v3), (3, .int v1), (0, .ref a0), (2, .int x2)]) hx hb dX8_fewestWalls_93 hl (by decide) rfl (fun ls hl => ?_)
          obtain ⟨v12, ev12⟩ : ∃ y : Int32, y = x8_33 + (1) := ⟨_, rfl⟩
          have f13 : v12.toInt = x8_33.toInt + (1) := by rw [ev12]; exact i_addc k_1 (by omega) (by omega)
          refine lv_iinc (v := v12) (lv' := [(8, .int v12), (7, .int v11), (9, .int v8), (6, .int x6_33), (5, .int v5), (4, .int v3), (3, .int v1), (0, .ref a0), (2, .int x2)]) hx hb dX8_fewestWalls_95 hl (k := 2) rfl (by rw [ev12]; rfl) (by decide) rfl (fun ls hl => ?_)
          refine lv_goto (tgt := 33) hx hb dX8_fewestWalls_98 (by decide) ?_
          exact ih33 v12 v11 x6_33 ls (by omega) (by omega) (lv_sub hl [0, 1, 3, 4, 5, 6, 7, 8] rfl)
        · have b10 : ¬ v9.toInt ≤ v8.toInt := fun z9 => c10 (i_le.mpr z9)
          refine lv_aload_n hx hb dX8_fewestWalls_57 rfl (lv_at hl 7 rfl) ?_
          refine lv_iload_n hx hb dX8_fewestWalls_58 rfl (lv_at hl 6 rfl) ?_
          refine lv_iload hx hb dX8_fewestWalls_59 (lv_at hl 2 rfl) ?_
          refine lv_iconst (v := -1) hx hb dX8_fewestWalls_61 (by decide) ?_
          have k_m1 : (-1 : Int32).toInt = -1 := by decide
          refine lv_ixor hx hb dX8_fewestWalls_62 ?_
          refine lv_topi (fun v14 ev14 => ?_)
          refine lv_iand hx hb dX8_fewestWalls_63 ?_
          refine lv_topi (fun v15 ev15 => ?_)
          refine lv_iload hx hb dX8_fewestWalls_64 (lv_at hl 5 rfl) ?_
          refine lv_iload hx hb dX8_fewestWalls_66 (lv_at hl 0 rfl) ?_
          refine lv_isub hx hb dX8_fewestWalls_68 ?_
          refine lv_topi (fun v16 ev16 => ?_)
          refine lv_aload_n hx hb dX8_fewestWalls_69 rfl (lv_at hl 7 rfl) ?_
          refine q_gr (T := TX8) C hO ga0 0 kF_X8_25 dX8_fewestWalls_70 rfl rfl (by decide) rfl (by decide) rfl (fun g17 => ?_)
          refine q_gi (T := TX5) C hO g17 6 kF_X8_72 dX8_fewestWalls_73 rfl rfl (by decide) rfl (by decide) rfl ?_
          refine callV_Pi C hO (fun _ _ _ => rfl) (c_X8_paysWith l D G a0 v15 v16 (fI D s.heap 5 (fR D s.heap 8 a0 0) 6) ga0) kV_X8_56 ga0 (trivial) dX8_fewestWalls_76 hl.1 rfl rfl (by decide) cd_X8_paysWith ⟨Nat.le_of_ble_eq_true rfl, Nat.le_of_ble_eq_true rfl, Nat.le_of_ble_eq_true rfl, Nat.le_of_ble_eq_true rfl, Nat.le_of_ble_eq_true rfl⟩ (fun v18 q18 => ?_)
          refine lv_iload_n hx hb dX8_fewestWalls_79 rfl (lv_at hl 8 rfl) ?_
          refine lv_icmp_gt (tgt := 87) hx hb dX8_fewestWalls_80 (by decide) (fun c19 => ?_) (fun c19 => ?_)
          · have b19 : x2.toInt < v18.toInt := i_lt.mp c19
            refine lv_iload hx hb dX8_fewestWalls_87 (lv_at hl 2 rfl) ?_
            refine lv_iload_n hx hb dX8_fewestWalls_89 rfl (lv_at hl 6 rfl) ?_
            refine callS_Pi C hO (fun _ _ _ => rfl) (c_X8_nextSet l D G x7_33 v1) kS_X8_63 (trivial) dX8_fewestWalls_90 hl.1 cd_X8_nextSet ⟨Nat.le_of_ble_eq_true rfl, Nat.le_of_ble_eq_true rfl, Nat.le_of_ble_eq_true rfl, Nat.le_of_ble_eq_true rfl, Nat.le_of_ble_eq_true rfl⟩ (fun v20 q20 => ?_)
            refine lv_istore (lv' := [(7, .int v20), (9, .int v8), (8, .int x8_33), (6, .int x6_33), (5, .int v5), (4, .int v3), (3, .int v1), (0, .ref a0), (2, .int x2)]) hx hb dX8_fewestWalls_93 hl (by decide) rfl (fun ls hl => ?_)
            obtain ⟨v21, ev21⟩ : ∃ y : Int32, y = x8_33 + (1) := ⟨_, rfl⟩
            have f22 : v21.toInt = x8_33.toInt + (1) := by rw [ev21]; exact i_addc k_1 (by omega) (by omega)
            refine lv_iinc (v := v21) (lv' := [(8, .int v21), (7, .int v20), (9, .int v8), (6, .int x6_33), (5, .int v5), (4, .int v3), (3, .int v1), (0, .ref a0), (2, .int x2)]) hx hb dX8_fewestWalls_95 hl (k := 2) rfl (by rw [ev21]; rfl) (by decide) rfl (fun ls hl => ?_)
            refine lv_goto (tgt := 33) hx hb dX8_fewestWalls_98 (by decide) ?_
            exact ih33 v21 v20 x6_33 ls (by omega) (by omega) (lv_sub hl [0, 1, 3, 4, 5, 6, 7, 8] rfl)
          · have b19 : ¬ x2.toInt < v18.toInt := fun z9 => c19 (i_lt.mpr z9)
            refine lv_iload hx hb dX8_fewestWalls_83 (lv_at hl 2 rfl) ?_
            refine lv_istore (lv' := [(6, .int x7_33), (9, .int v8), (8, .int x8_33), (7, .int x7_33), (5, .int v5), (4, .int v3), (3, .int v1), (0, .ref a0), (2, .int x2)]) hx hb dX8_fewestWalls_85 hl (by decide) rfl (fun ls hl => ?_)
            refine lv_iload hx hb dX8_fewestWalls_87 (lv_at hl 3 rfl) ?_
            refine lv_iload_n hx hb dX8_fewestWalls_89 rfl (lv_at hl 6 rfl) ?_
            refine callS_Pi C hO (fun _ _ _ => rfl) (c_X8_nextSet l D G x7_33 v1) kS_X8_63 (trivial) dX8_fewestWalls_90 hl.1 cd_X8_nextSet ⟨Nat.le_of_ble_eq_true rfl, Nat.le_of_ble_eq_true rfl, Nat.le_of_ble_eq_true rfl, Nat.le_of_ble_eq_true rfl, Nat.le_of_ble_eq_true rfl⟩ (fun v23 q23 => ?_)
            refine lv_istore (lv' := [(7, .int v23), (6, .int x7_33), (9, .int v8), (8, .int x8_33), (5, .int v5), (4, .int v3), (3, .int v1), (0, .ref a0), (2, .int x2)]) hx hb dX8_fewestWalls_93 hl (by decide) rfl (fun ls hl => ?_)
            obtain ⟨v24, ev24⟩ : ∃ y : Int32, y = x8_33 + (1) := ⟨_, rfl⟩
            have f25 : v24.toInt = x8_33.toInt + (1) := by rw [ev24]; exact i_addc k_1 (by omega) (by omega)
            refine lv_iinc (v := v24) (lv' := [(8, .int v24), (7, .int v23), (6, .int x7_33), (9, .int v8), (5, .int v5), (4, .int v3), (3, .int v1), (0, .ref a0), (2, .int x2)]) hx hb dX8_fewestWalls_95 hl (k := 3) rfl (by rw [ev24]; rfl) (by decide) rfl (fun ls hl => ?_)
            refine lv_goto (tgt := 33) hx hb dX8_fewestWalls_98 (by decide) ?_
            exact ih33 v24 v23 x7_33 ls (by omega) (by omega) (lv_sub hl [0, 1, 2, 4, 5, 6, 7, 8] rfl)
  have k_0 : (0 : Int32).toInt = 0 := by decide
  exact Lp33 2147483648 (0 : Int32) (0 : Int32) v1 ls (by omega)  (by omega) (lv_sub hl [0, 1, 2, 3, 4, 5, 6, 8] rfl)

set_option maxRecDepth 100000 in
set_option maxHeartbeats 4000000 in
theorem c_X8_growthBy (l : Launch) (D : DD) (G : Nat → Nat) (a0 : Nat) (x1 : Int32) (ga0 : G a0 = 18) (ix1 : 0 ≤ x1.toInt ∧ x1.toInt ≤ 11) : CP l D G yX8_growthBy cX8_growthBy 7 (some .int) 2 [.ref a0, .int x1] (fun _ => True) (pI (fun H r => True)) := by
  refine enter (by decide) (Nat.le_of_ble_eq_true rfl) ?_
  intro p e s m args below meth c ls Q hA hQ C hr hO hpre hl
  have hx := C.1
  have hb := C.2.1
  have hl : lv_has ls 7 [(0, .ref a0), (1, .int x1)] := hl
  refine lv_aload_n hx hb dX8_growthBy_0 rfl (lv_at hl 0 rfl) ?_
  refine q_gr (T := TX8) C hO ga0 0 kF_X8_25 dX8_growthBy_1 rfl rfl (by decide) rfl (by decide) rfl (fun g1 => ?_)
  refine q_gr (T := TX5) C hO g1 1 kF_X8_75 dX8_growthBy_4 rfl rfl (by decide) rfl (by decide) rfl (fun g2 => ?_)
  refine lv_iload_n hx hb dX8_growthBy_7 rfl (lv_at hl 1 rfl) ?_
  refine q_aald C hO g2 (by omega) (by omega) dX8_growthBy_8 rfl (by decide) rfl rfl (fun g3 => ?_)
  refine lv_astore_n (lv' := [(2, .ref (eR s.heap (fR D s.heap 5 (fR D s.heap 8 a0 0) 1) x1.toInt.toNat)), (0, .ref a0), (1, .int x1)]) hx hb dX8_growthBy_9 rfl hl (by decide) rfl (fun ls hl => ?_)
  refine lv_aload_n hx hb dX8_growthBy_10 rfl (lv_at hl 1 rfl) ?_
  refine lv_aload_n hx hb dX8_growthBy_11 rfl (lv_at hl 0 rfl) ?_
  refine q_gi (T := TX1) C hO g3 0 kF_X8_79 dX8_growthBy_12 rfl rfl (by decide) rfl (by decide) rfl ?_
  have r4 : 0 ≤ (fI D s.heap 1 (eR s.heap (fR D s.heap 5 (fR D s.heap 8 a0 0) 1) x1.toInt.toNat) 0).toInt ∧ (fI D s.heap 1 (eR s.heap (fR D s.heap 5 (fR D s.heap 8 a0 0) 1) x1.toInt.toNat) 0).toInt ≤ 5 := hO.rng g3 rfl (by decide) rfl
  refine callV_Pi C hO (fun _ _ _ => rfl) (c_X8_openOf l D G a0 (fI D s.heap 1 (eR s.heap (fR D s.heap 5 (fR D s.heap 8 a0 0) 1) x1.toInt.toNat) 0) ga0) kV_X8_38 ga0 (trivial) dX8_growthBy_15 hl.1 rfl rfl (by decide) cd_X8_openOf ⟨Nat.le_of_ble_eq_true rfl, Nat.le_of_ble_eq_true rfl, Nat.le_of_ble_eq_true rfl, Nat.le_of_ble_eq_true rfl, Nat.le_of_ble_eq_true rfl⟩ (fun v5 q5 => ?_)
  refine lv_istore_n (lv' := [(3, .int v5), (2, .ref (eR s.heap (fR D s.heap 5 (fR D s.heap 8 a0 0) 1) x1.toInt.toNat)), (0, .ref a0), (1, .int x1)]) hx hb dX8_growthBy_18 rfl hl (by decide) rfl (fun ls hl => ?_)
  refine lv_aload_n hx hb dX8_growthBy_19 rfl (lv_at hl 2 rfl) ?_
  refine q_gr (T := TX8) C hO ga0 0 kF_X8_25 dX8_growthBy_20 rfl rfl (by decide) rfl (by decide) rfl (fun g6 => ?_)
  refine lv_aload_n hx hb dX8_growthBy_23 rfl (lv_at hl 1 rfl) ?_
  refine q_gi (T := TX1) C hO g3 0 kF_X8_79 dX8_growthBy_24 rfl rfl (by decide) rfl (by decide) rfl ?_
  refine callV_Pi C hO (fun _ _ _ => rfl) (c_X5_standing l D G (fR D s.heap 8 a0 0) (fI D s.heap 1 (eR s.heap (fR D s.heap 5 (fR D s.heap 8 a0 0) 1) x1.toInt.toNat) 0) g6) kV_X8_42 g6 (trivial) dX8_growthBy_27 hl.1 rfl rfl (by decide) cd_X5_standing ⟨Nat.le_of_ble_eq_true rfl, Nat.le_of_ble_eq_true rfl, Nat.le_of_ble_eq_true rfl, Nat.le_of_ble_eq_true rfl, Nat.le_of_ble_eq_true rfl⟩ (fun v7 q7 => ?_)
  refine lv_istore (lv' := [(4, .int v7), (3, .int v5), (2, .ref (eR s.heap (fR D s.heap 5 (fR D s.heap 8 a0 0) 1) x1.toInt.toNat)), (0, .ref a0), (1, .int x1)]) hx hb dX8_growthBy_30 hl (by decide) rfl (fun ls hl => ?_)
  refine lv_aload_n hx hb dX8_growthBy_32 rfl (lv_at hl 3 rfl) ?_
  refine lv_iload_n hx hb dX8_growthBy_33 rfl (lv_at hl 1 rfl) ?_
  refine lv_iload hx hb dX8_growthBy_34 (lv_at hl 0 rfl) ?_
  refine lv_aload_n hx hb dX8_growthBy_36 rfl (lv_at hl 3 rfl) ?_
  refine q_gr (T := TX8) C hO ga0 0 kF_X8_25 dX8_growthBy_37 rfl rfl (by decide) rfl (by decide) rfl (fun g8 => ?_)
  refine q_gi (T := TX5) C hO g8 6 kF_X8_72 dX8_growthBy_40 rfl rfl (by decide) rfl (by decide) rfl ?_
  refine callV_Pi C hO (fun _ _ _ => rfl) (c_X8_paysWith l D G a0 v5 v7 (fI D s.heap 5 (fR D s.heap 8 a0 0) 6) ga0) kV_X8_56 ga0 (trivial) dX8_growthBy_43 hl.1 rfl rfl (by decide) cd_X8_paysWith ⟨Nat.le_of_ble_eq_true rfl, Nat.le_of_ble_eq_true rfl, Nat.le_of_ble_eq_true rfl, Nat.le_of_ble_eq_true rfl, Nat.le_of_ble_eq_true rfl⟩ (fun v9 q9 => ?_)
  refine lv_istore (lv' := [(5, .int v9), (4, .int v7), (3, .int v5), (2, .ref (eR s.heap (fR D s.heap 5 (fR D s.heap 8 a0 0) 1) x1.toInt.toNat)), (0, .ref a0), (1, .int x1)]) hx hb dX8_growthBy_46 hl (by decide) rfl (fun ls hl => ?_)
  refine lv_aload_n hx hb dX8_growthBy_48 rfl (lv_at hl 4 rfl) ?_
  refine lv_iload_n hx hb dX8_growthBy_49 rfl (lv_at hl 2 rfl) ?_
  refine lv_iconst (v := 1) hx hb dX8_growthBy_50 (by decide) ?_
  refine lv_iload_n hx hb dX8_growthBy_51 rfl (lv_at hl 5 rfl) ?_
  have k_1 : (1 : Int32).toInt = 1 := by decide
  refine lv_ishl hx hb dX8_growthBy_52 ?_
  refine lv_topi (fun v10 ev10 => ?_)
  have f11 : 1 ≤ v10.toInt ∧ v10.toInt ≤ 2048 := by rw [ev10]; exact i_shl1 11 (by omega) (by omega) (by decide)
  refine lv_ior hx hb dX8_growthBy_53 ?_
  refine lv_topi (fun v12 ev12 => ?_)
  refine lv_iload hx hb dX8_growthBy_54 (lv_at hl 1 rfl) ?_
  refine lv_iconst (v := 1) hx hb dX8_growthBy_56 (by decide) ?_
  refine lv_iadd hx hb dX8_growthBy_57 ?_
  refine lv_topi (fun v13 ev13 => ?_)
  refine lv_aload_n hx hb dX8_growthBy_58 rfl (lv_at hl 4 rfl) ?_
  refine q_gr (T := TX8) C hO ga0 0 kF_X8_25 dX8_growthBy_59 rfl rfl (by decide) rfl (by decide) rfl (fun g14 => ?_)
  refine q_gi (T := TX5) C hO g14 6 kF_X8_72 dX8_growthBy_62 rfl rfl (by decide) rfl (by decide) rfl ?_
  refine callV_Pi C hO (fun _ _ _ => rfl) (c_X8_paysWith l D G a0 v12 v13 (fI D s.heap 5 (fR D s.heap 8 a0 0) 6) ga0) kV_X8_56 ga0 (trivial) dX8_growthBy_65 hl.1 rfl rfl (by decide) cd_X8_paysWith ⟨Nat.le_of_ble_eq_true rfl, Nat.le_of_ble_eq_true rfl, Nat.le_of_ble_eq_true rfl, Nat.le_of_ble_eq_true rfl, Nat.le_of_ble_eq_true rfl⟩ (fun v15 q15 => ?_)
  refine lv_istore (lv' := [(6, .int v15), (5, .int v9), (4, .int v7), (3, .int v5), (2, .ref (eR s.heap (fR D s.heap 5 (fR D s.heap 8 a0 0) 1) x1.toInt.toNat)), (0, .ref a0), (1, .int x1)]) hx hb dX8_growthBy_68 hl (by decide) rfl (fun ls hl => ?_)
  refine lv_iconst (v := 2) hx hb dX8_growthBy_70 (by decide) ?_
  refine lv_aload_n hx hb dX8_growthBy_71 rfl (lv_at hl 4 rfl) ?_
  refine q_gi (T := TX1) C hO g3 3 kF_X8_84 dX8_growthBy_72 rfl rfl (by decide) rfl (by decide) rfl ?_
  have k_2 : (2 : Int32).toInt = 2 := by decide
  refine lv_imul hx hb dX8_growthBy_75 ?_
  refine lv_topi (fun v16 ev16 => ?_)
  refine lv_iload hx hb dX8_growthBy_76 (lv_at hl 0 rfl) ?_
  refine lv_iload hx hb dX8_growthBy_78 (lv_at hl 1 rfl) ?_
  refine lv_isub hx hb dX8_growthBy_80 ?_
  refine lv_topi (fun v17 ev17 => ?_)
  refine lv_isub hx hb dX8_growthBy_81 ?_
  refine lv_topi (fun v18 ev18 => ?_)
  exact retP_i hQ C hr dX8_growthBy_82 (trivial)

set_option maxRecDepth 100000 in
set_option maxHeartbeats 4000000 in
theorem c_X8_readSmoke (l : Launch) (D : DD) (G : Nat → Nat) (a0 : Nat) (a1 : Nat) (ga0 : G a0 = 18) (ga1 : G a1 = 2) : CE l D G yX8_readSmoke cX8_readSmoke 5 (some .boolean) 0 [.ref a0, .ref a1] (fun _ => True) [(18, 3), (18, 4)] (xI (fun H r H1 => 0 ≤ r.toInt ∧ r.toInt ≤ 1)) := by
  refine enter (by decide) (Nat.le_of_ble_eq_true rfl) ?_
  intro p e s m args below meth c ls Q hA hQ C hr hO hpre hl
  have hx := C.1
  have hb := C.2.1
  have S : Sd D G [(18, 3), (18, 4)] s.heap s.heap [] := Sd.start hO
  have hl : lv_has ls 5 [(0, .ref a0), (1, .ref a1)] := hl
  refine lv_aload_n hx hb dX8_readSmoke_0 rfl (lv_at hl 0 rfl) ?_
  refine lv_iconst (v := 0) hx hb dX8_readSmoke_1 (by decide) ?_
  have k_0 : (0 : Int32).toInt = 0 := by decide
  refine q_put (T := TX8) C S ga0 3 kF_X8_19 dX8_readSmoke_2 rfl rfl (by decide) (by decide) rfl rfl rfl rfl rfl (vok_a rfl) (by decide +kernel) (fun H1 L1 S1 P1 => ?_)
  refine lv_aload_n hx hb dX8_readSmoke_5 rfl (lv_at hl 0 rfl) ?_
  refine lv_iconst (v := 0) hx hb dX8_readSmoke_6 (by decide) ?_
  refine q_put (T := TX8) C S1 ga0 4 kF_X8_22 dX8_readSmoke_7 rfl rfl (by decide) (by decide) rfl rfl rfl rfl rfl (vok_a rfl) (by decide +kernel) (fun H2 L2 S2 P2 => ?_)
  refine lv_aload_n hx hb dX8_readSmoke_10 rfl (lv_at hl 1 rfl) ?_
  refine q_gi (T := TX9) C S2.1 ga1 1 kF_X8_99 dX8_readSmoke_11 rfl rfl (by decide) rfl (by decide) rfl ?_
  have r3 : 0 ≤ (fI D H2 9 a1 1).toInt ∧ (fI D H2 9 a1 1).toInt ≤ 400 := S2.1.rng ga1 rfl (by decide) rfl
  refine lv_bipush (v := 40) hx hb dX8_readSmoke_14 (by decide) ?_
  have k_40 : (40 : Int32).toInt = 40 := by decide
  refine lv_icmp_gt (tgt := 28) hx hb dX8_readSmoke_16 (by decide) (fun c4 => ?_) (fun c4 => ?_)
  · have b4 : (40 : Int32).toInt < (fI D H2 9 a1 1).toInt := i_lt.mp c4
    refine lv_iconst (v := 0) hx hb dX8_readSmoke_28 (by decide) ?_
    exact retE_z hQ C S2 hr dX8_readSmoke_29 (z01 (by omega) (by omega)) (by omega)
  · have b4 : ¬ (40 : Int32).toInt < (fI D H2 9 a1 1).toInt := fun z9 => c4 (i_lt.mpr z9)
    refine lv_aload_n hx hb dX8_readSmoke_19 rfl (lv_at hl 1 rfl) ?_
    refine q_gi (T := TX9) C S2.1 ga1 1 kF_X8_99 dX8_readSmoke_20 rfl rfl (by decide) rfl (by decide) rfl ?_
    refine lv_iconst (v := 2) hx hb dX8_readSmoke_23 (by decide) ?_
    have k_2 : (2 : Int32).toInt = 2 := by decide
    refine lv_irem hx hb dX8_readSmoke_24 (by first | decide | (intro z9; have := i_eq.mp z9; simp at this; omega) | assumption) ?_
    refine lv_topi (fun v5 ev5 => ?_)
    have f6 : v5.toInt = (fI D H2 9 a1 1).toInt % 2 := by rw [ev5]; exact i_remc k_2 (by omega) (by decide)
    refine lv_if_eq (tgt := 30) hx hb dX8_readSmoke_25 (by decide) (fun c7 => ?_) (fun c7 => ?_)
    · have b7 : v5.toInt = (0 : Int32).toInt := i_eq.mp c7
      refine lv_iconst (v := 0) hx hb dX8_readSmoke_30 (by decide) ?_
      refine lv_istore_n (lv' := [(2, .int (0 : Int32)), (0, .ref a0), (1, .ref a1)]) hx hb dX8_readSmoke_31 rfl hl (by decide) rfl (fun ls hl => ?_)
      have Lp32 : ∀ (n : Nat) (x2_32 : Int32) (H_32 : Heap) (L_32 : List Loc) (ls : Array Slot), (Sd D G [(18, 3), (18, 4)] s.heap H_32 L_32) → (0 ≤ x2_32.toInt ∧ x2_32.toInt ≤ 400) → 401 - x2_32.toInt ≤ (n : Int) → lv_has ls 5 [(2, .int x2_32), (0, .ref a0), (1, .ref a1)] → W p l e (rmU 0 0 0) s m args below meth c H_32 L_32 0 0 Q (F0 m 32 ls []) := by
        intro n
        induction n with
        | zero =>
          intro x2_32 H_32 L_32 ls S_32 j32_0 hn hl
          exact absurd hn (by omega)
        | succ n ih32 =>
          intro x2_32 H_32 L_32 ls S_32 j32_0 hn hl
          refine lv_iload_n hx hb dX8_readSmoke_32 rfl (lv_at hl 0 rfl) ?_
          refine lv_iconst (v := 1) hx hb dX8_readSmoke_33 (by decide) ?_
          have k_1 : (1 : Int32).toInt = 1 := by decide
          refine lv_iadd hx hb dX8_readSmoke_34 ?_
          refine lv_topi (fun v8 ev8 => ?_)
          have f9 : v8.toInt = x2_32.toInt + (1 : Int32).toInt := by rw [ev8]; exact i_add (by omega) (by omega)
          refine lv_aload_n hx hb dX8_readSmoke_35 rfl (lv_at hl 2 rfl) ?_
          refine q_gi (T := TX9) C S_32.1 ga1 1 kF_X8_99 dX8_readSmoke_36 rfl rfl (by decide) rfl (by decide) rfl ?_
          have r10 : 0 ≤ (fI D H_32 9 a1 1).toInt ∧ (fI D H_32 9 a1 1).toInt ≤ 400 := S_32.1.rng ga1 rfl (by decide) rfl
          refine lv_icmp_ge (tgt := 112) hx hb dX8_readSmoke_39 (by decide) (fun c11 => ?_) (fun c11 => ?_)
          · have b11 : (fI D H_32 9 a1 1).toInt ≤ v8.toInt := i_le.mp c11
            refine lv_iconst (v := 1) hx hb dX8_readSmoke_112 (by decide) ?_
            exact retE_z hQ C S_32 hr dX8_readSmoke_113 (z01 (by omega) (by omega)) (by omega)
          · have b11 : ¬ (fI D H_32 9 a1 1).toInt ≤ v8.toInt := fun z9 => c11 (i_le.mpr z9)
            refine lv_aload_n hx hb dX8_readSmoke_42 rfl (lv_at hl 2 rfl) ?_
            refine q_gr (T := TX9) C S_32.1 ga1 0 kF_X8_104 dX8_readSmoke_43 rfl rfl (by decide) rfl (by decide) rfl (fun g12 => ?_)
            refine lv_iload_n hx hb dX8_readSmoke_46 rfl (lv_at hl 0 rfl) ?_
            have n13 : aN H_32 (fR D H_32 9 a1 0) = 400 := len_3 S_32.1 g12
            refine q_iald C S_32.1 g12 (by omega) (by omega) dX8_readSmoke_47 rfl (by decide) ?_
            refine lv_topi (fun v14 ev14 => ?_)
            refine lv_istore_n (lv' := [(3, .int v14), (2, .int x2_32), (0, .ref a0), (1, .ref a1)]) hx hb dX8_readSmoke_48 rfl hl (by decide) rfl (fun ls hl => ?_)
            refine lv_aload_n hx hb dX8_readSmoke_49 rfl (lv_at hl 3 rfl) ?_
            refine q_gr (T := TX9) C S_32.1 ga1 0 kF_X8_104 dX8_readSmoke_50 rfl rfl (by decide) rfl (by decide) rfl (fun g15 => ?_)
            refine lv_iload_n hx hb dX8_readSmoke_53 rfl (lv_at hl 1 rfl) ?_
            refine lv_iconst (v := 1) hx hb dX8_readSmoke_54 (by decide) ?_
            refine lv_iadd hx hb dX8_readSmoke_55 ?_
            refine lv_topi (fun v16 ev16 => ?_)
            have f17 : v16.toInt = x2_32.toInt + (1 : Int32).toInt := by rw [ev16]; exact i_add (by omega) (by omega)
            refine q_iald C S_32.1 g15 (by omega) (by omega) dX8_readSmoke_56 rfl (by decide) ?_
            refine lv_topi (fun v18 ev18 => ?_)
            refine lv_istore (lv' := [(4, .int v18), (3, .int v14), (2, .int x2_32), (0, .ref a0), (1, .ref a1)]) hx hb dX8_readSmoke_57 hl (by decide) rfl (fun ls hl => ?_)
            refine lv_iload_n hx hb dX8_readSmoke_59 rfl (lv_at hl 1 rfl) ?_
            refine lv_bipush (v := 10) hx hb dX8_readSmoke_60 (by decide) ?_
            have k_10 : (10 : Int32).toInt = 10 := by decide
            refine lv_icmp_ge (tgt := 71) hx hb dX8_readSmoke_62 (by decide) (fun c19 => ?_) (fun c19 => ?_)
            · have b19 : (10 : Int32).toInt ≤ v14.toInt := i_le.mp c19
              refine lv_iconst (v := 0) hx hb dX8_readSmoke_71 (by decide) ?_
              exact retE_z hQ C S_32 hr dX8_readSmoke_72 (z01 (by omega) (by omega)) (by omega)
            · have b19 : ¬ (10 : Int32).toInt ≤ v14.toInt := fun z9 => c19 (i_le.mpr z9)
              refine lv_iload hx hb dX8_readSmoke_65 (lv_at hl 0 rfl) ?_
              refine lv_iconst (v := 1) hx hb dX8_readSmoke_67 (by decide) ?_
              refine lv_icmp_le (tgt := 73) hx hb dX8_readSmoke_68 (by decide) (fun c20 => ?_) (fun c20 => ?_)
              · have b20 : v18.toInt ≤ (1 : Int32).toInt := i_le.mp c20
                refine lv_iload hx hb dX8_readSmoke_73 (lv_at hl 0 rfl) ?_
                refine lv_iconst (v := 1) hx hb dX8_readSmoke_75 (by decide) ?_
                refine lv_icmp_ne (tgt := 94) hx hb dX8_readSmoke_76 (by decide) (fun c21 => ?_) (fun c21 => ?_)
                · have b21 : ¬ v18.toInt = (1 : Int32).toInt := fun z9 => c21 (i_eq.mpr z9)
                  refine lv_aload_n hx hb dX8_readSmoke_94 rfl (lv_at hl 3 rfl) ?_
                  refine lv_dup hx hb dX8_readSmoke_95 rfl ?_
                  refine q_gi (T := TX8) C S_32.1 ga0 4 kF_X8_22 dX8_readSmoke_96 rfl rfl (by decide) rfl (by decide) rfl ?_
                  refine lv_iconst (v := 1) hx hb dX8_readSmoke_99 (by decide) ?_
                  refine lv_iload_n hx hb dX8_readSmoke_100 rfl (lv_at hl 1 rfl) ?_
                  refine lv_ishl hx hb dX8_readSmoke_101 ?_
                  refine lv_topi (fun v22 ev22 => ?_)
                  refine lv_ior hx hb dX8_readSmoke_102 ?_
                  refine lv_topi (fun v23 ev23 => ?_)
                  refine q_put (T := TX8) C S_32 ga0 4 kF_X8_22 dX8_readSmoke_103 rfl rfl (by decide) (by decide) rfl rfl rfl rfl rfl (vok_a rfl) (by decide +kernel) (fun H24 L24 S24 P24 => ?_)
                  obtain ⟨v25, ev25⟩ : ∃ y : Int32, y = x2_32 + (2) := ⟨_, rfl⟩
                  have f26 : v25.toInt = x2_32.toInt + (2) := by rw [ev25]; exact i_addc k_2 (by omega) (by omega)
                  refine lv_iinc (v := v25) (lv' := [(2, .int v25), (4, .int v18), (3, .int v14), (0, .ref a0), (1, .ref a1)]) hx hb dX8_readSmoke_106 hl (k := 2) rfl (by rw [ev25]; rfl) (by decide) rfl (fun ls hl => ?_)
                  refine lv_goto (tgt := 32) hx hb dX8_readSmoke_109 (by decide) ?_
                  exact ih32 v25 H24 L24 ls S24 (by omega) (by omega) (lv_sub hl [0, 3, 4] rfl)
                · have b21 : v18.toInt = (1 : Int32).toInt := i_eq.mp c21
                  refine lv_aload_n hx hb dX8_readSmoke_79 rfl (lv_at hl 3 rfl) ?_
                  refine lv_dup hx hb dX8_readSmoke_80 rfl ?_
                  refine q_gi (T := TX8) C S_32.1 ga0 3 kF_X8_19 dX8_readSmoke_81 rfl rfl (by decide) rfl (by decide) rfl ?_
                  refine lv_iconst (v := 1) hx hb dX8_readSmoke_84 (by decide) ?_
                  refine lv_iload_n hx hb dX8_readSmoke_85 rfl (lv_at hl 1 rfl) ?_
                  refine lv_ishl hx hb dX8_readSmoke_86 ?_
                  refine lv_topi (fun v27 ev27 => ?_)
                  refine lv_ior hx hb dX8_readSmoke_87 ?_
                  refine lv_topi (fun v28 ev28 => ?_)
                  refine q_put (T := TX8) C S_32 ga0 3 kF_X8_19 dX8_readSmoke_88 rfl rfl (by decide) (by decide) rfl rfl rfl rfl rfl (vok_a rfl) (by decide +kernel) (fun H29 L29 S29 P29 => ?_)
                  refine lv_goto (tgt := 106) hx hb dX8_readSmoke_91 (by decide) ?_
                  obtain ⟨v30, ev30⟩ : ∃ y : Int32, y = x2_32 + (2) := ⟨_, rfl⟩
                  have f31 : v30.toInt = x2_32.toInt + (2) := by rw [ev30]; exact i_addc k_2 (by omega) (by omega)
                  refine lv_iinc (v := v30) (lv' := [(2, .int v30), (4, .int v18), (3, .int v14), (0, .ref a0), (1, .ref a1)]) hx hb dX8_readSmoke_106 hl (k := 2) rfl (by rw [ev30]; rfl) (by decide) rfl (fun ls hl => ?_)
                  refine lv_goto (tgt := 32) hx hb dX8_readSmoke_109 (by decide) ?_
                  exact ih32 v30 H29 L29 ls S29 (by omega) (by omega) (lv_sub hl [0, 3, 4] rfl)
              · have b20 : ¬ v18.toInt ≤ (1 : Int32).toInt := fun z9 => c20 (i_le.mpr z9)
                refine lv_iconst (v := 0) hx hb dX8_readSmoke_71 (by decide) ?_
                exact retE_z hQ C S_32 hr dX8_readSmoke_72 (z01 (by omega) (by omega)) (by omega)
      exact Lp32 401 (0 : Int32) H2 L2 ls S2 (by omega)  (by omega) (lv_sub hl [0, 1, 2] rfl)
    · have b7 : ¬ v5.toInt = (0 : Int32).toInt := fun z9 => c7 (i_eq.mpr z9)
      refine lv_iconst (v := 0) hx hb dX8_readSmoke_28 (by decide) ?_
      exact retE_z hQ C S2 hr dX8_readSmoke_29 (z01 (by omega) (by omega)) (by omega)

set_option maxRecDepth 100000 in
set_option maxHeartbeats 4000000 in
theorem c_X8_fittingWith (l : Launch) (D : DD) (G : Nat → Nat) (a0 : Nat) (x1 : Int32) (x2 : Int32) (ga0 : G a0 = 18) : CP l D G yX8_fittingWith cX8_fittingWith 8 (some .int) 1 [.ref a0, .int x1, .int x2] (fun _ => True) (pI (fun H r => True)) := by
  refine enter (by decide) (Nat.le_of_ble_eq_true rfl) ?_
  intro p e s m args below meth c ls Q hA hQ C hr hO hpre hl
  have hx := C.1
  have hb := C.2.1
  have hl : lv_has ls 8 [(0, .ref a0), (1, .int x1), (2, .int x2)] := hl
  refine lv_aload_n hx hb dX8_fittingWith_0 rfl (lv_at hl 0 rfl) ?_
  refine q_gr (T := TX8) C hO ga0 0 kF_X8_25 dX8_fittingWith_1 rfl rfl (by decide) rfl (by decide) rfl (fun g1 => ?_)
  refine lv_iload_n hx hb dX8_fittingWith_4 rfl (lv_at hl 1 rfl) ?_
  refine callV_Pi C hO (fun _ _ _ => rfl) (c_X5_bitsOf l D G (fR D s.heap 8 a0 0) x1 g1) kV_X8_87 g1 (trivial) dX8_fittingWith_5 hl.1 rfl rfl (by decide) cd_X5_bitsOf ⟨Nat.le_of_ble_eq_true rfl, Nat.le_of_ble_eq_true rfl, Nat.le_of_ble_eq_true rfl, Nat.le_of_ble_eq_true rfl, Nat.le_of_ble_eq_true rfl⟩ (fun v2 q2 => ?_)
  refine lv_istore_n (lv' := [(3, .int v2), (0, .ref a0), (1, .int x1), (2, .int x2)]) hx hb dX8_fittingWith_8 rfl hl (by decide) rfl (fun ls hl => ?_)
  refine lv_iconst (v := 1) hx hb dX8_fittingWith_9 (by decide) ?_
  refine lv_iload_n hx hb dX8_fittingWith_10 rfl (lv_at hl 0 rfl) ?_
  refine callS_Pi C hO (fun _ _ _ => rfl) (c_J6_bitCount_0f7a4 l D G v2) kS_X8_48 (trivial) dX8_fittingWith_11 hl.1 cd_J6_bitCount_0f7a4 ⟨Nat.le_of_ble_eq_true rfl, Nat.le_of_ble_eq_true rfl, Nat.le_of_ble_eq_true rfl, Nat.le_of_ble_eq_true rfl, Nat.le_of_ble_eq_true rfl⟩ (fun v3 q3 => ?_)
  have k_1 : (1 : Int32).toInt = 1 := by decide
  refine lv_ishl hx hb dX8_fittingWith_14 ?_
  refine lv_topi (fun v4 ev4 => ?_)
  refine lv_istore (lv' := [(4, .int v4), (3, .int v2), (0, .ref a0), (1, .int x1), (2, .int x2)]) hx hb dX8_fittingWith_15 hl (by decide) rfl (fun ls hl => ?_)
  refine lv_iconst (v := 0) hx hb dX8_fittingWith_17 (by decide) ?_
  refine lv_istore (lv' := [(5, .int (0 : Int32)), (4, .int v4), (3, .int v2), (0, .ref a0), (1, .int x1), (2, .int x2)]) hx hb dX8_fittingWith_18 hl (by decide) rfl (fun ls hl => ?_)
  refine lv_iconst (v := 0) hx hb dX8_fittingWith_20 (by decide) ?_
  refine lv_istore (lv' := [(6, .int (0 : Int32)), (5, .int (0 : Int32)), (4, .int v4), (3, .int v2), (0, .ref a0), (1, .int x1), (2, .int x2)]) hx hb dX8_fittingWith_21 hl (by decide) rfl (fun ls hl => ?_)
  refine lv_iconst (v := 0) hx hb dX8_fittingWith_23 (by decide) ?_
  refine lv_istore (lv' := [(7, .int (0 : Int32)), (6, .int (0 : Int32)), (5, .int (0 : Int32)), (4, .int v4), (3, .int v2), (0, .ref a0), (1, .int x1), (2, .int x2)]) hx hb dX8_fittingWith_24 hl (by decide) rfl (fun ls hl => ?_)
  have Lp26 : ∀ (n : Nat) (x7_26 : Int32) (x6_26 : Int32) (x5_26 : Int32) (ls : Array Slot), (0 ≤ x7_26.toInt ∧ x7_26.toInt ≤ 2147483647) → 2147483648 - x7_26.toInt ≤ (n : Int) → lv_has ls 8 [(7, .int x7_26), (6, .int x6_26), (5, .int x5_26), (4, .int v4), (3, .int v2), (0, .ref a0), (2, .int x2)] → W p l e (rmU 1 0 0) s m args below meth c s.heap [] 0 0 Q (F0 m 26 ls []) := by
    intro n
    induction n with
    | zero =>
      intro x7_26 x6_26 x5_26 ls j26_0 hn hl
      exact absurd hn (by omega)
    | succ n ih26 =>
      intro x7_26 x6_26 x5_26 ls j26_0 hn hl
      refine lv_iload hx hb dX8_fittingWith_26 (lv_at hl 0 rfl) ?_
      refine lv_iload hx hb dX8_fittingWith_28 (lv_at hl 3 rfl) ?_
      have r6 := i_rng v4
      refine lv_icmp_ge (tgt := 67) hx hb dX8_fittingWith_30 (by decide) (fun c5 => ?_) (fun c5 => ?_)
      · have b5 : v4.toInt ≤ x7_26.toInt := i_le.mp c5
        refine lv_iload hx hb dX8_fittingWith_67 (lv_at hl 2 rfl) ?_
        exact retP_i hQ C hr dX8_fittingWith_69 (trivial)
      · have b5 : ¬ v4.toInt ≤ x7_26.toInt := fun z9 => c5 (i_le.mpr z9)
        refine lv_iload hx hb dX8_fittingWith_33 (lv_at hl 1 rfl) ?_
        refine lv_iload_n hx hb dX8_fittingWith_35 rfl (lv_at hl 6 rfl) ?_
        refine lv_iand hx hb dX8_fittingWith_36 ?_
        refine lv_topi (fun v7 ev7 => ?_)
        refine lv_iload_n hx hb dX8_fittingWith_37 rfl (lv_at hl 6 rfl) ?_
        refine lv_icmp_ne (tgt := 53) hx hb dX8_fittingWith_38 (by decide) (fun c8 => ?_) (fun c8 => ?_)
        · have b8 : ¬ v7.toInt = x2.toInt := fun z9 => c8 (i_eq.mpr z9)
          refine lv_iload hx hb dX8_fittingWith_53 (lv_at hl 1 rfl) ?_
          refine lv_iload_n hx hb dX8_fittingWith_55 rfl (lv_at hl 4 rfl) ?_
          refine callS_Pi C hO (fun _ _ _ => rfl) (c_X8_nextSet l D G x6_26 v2) kS_X8_63 (trivial) dX8_fittingWith_56 hl.1 cd_X8_nextSet ⟨Nat.le_of_ble_eq_true rfl, Nat.le_of_ble_eq_true rfl, Nat.le_of_ble_eq_true rfl, Nat.le_of_ble_eq_true rfl, Nat.le_of_ble_eq_true rfl⟩ (fun v9 q9 => ?_)
          refine lv_istore (lv' := [(6, .int v9), (7, .int x7_26), (5, .int x5_26), (4, .int v4), (3, .int v2), (0, .ref a0), (2, .int x2)]) hx hb dX8_fittingWith_59 hl (by decide) rfl (fun ls hl => ?_)
          obtain ⟨v10, ev10⟩ : ∃ y : Int32, y = x7_26 + (1) := ⟨_, rfl⟩
          have f11 : v10.toInt = x7_26.toInt + (1) := by rw [ev10]; exact i_addc k_1 (by omega) (by omega)
          refine lv_iinc (v := v10) (lv' := [(7, .int v10), (6, .int v9), (5, .int x5_26), (4, .int v4), (3, .int v2), (0, .ref a0), (2, .int x2)]) hx hb dX8_fittingWith_61 hl (k := 1) rfl (by rw [ev10]; rfl) (by decide) rfl (fun ls hl => ?_)
          refine lv_goto (tgt := 26) hx hb dX8_fittingWith_64 (by decide) ?_
          exact ih26 v10 v9 x5_26 ls (by omega) (by omega) (lv_sub hl [0, 1, 2, 3, 4, 5, 6] rfl)
        · have b8 : v7.toInt = x2.toInt := i_eq.mp c8
          refine lv_aload_n hx hb dX8_fittingWith_41 rfl (lv_at hl 5 rfl) ?_
          refine lv_iload hx hb dX8_fittingWith_42 (lv_at hl 1 rfl) ?_
          refine callV_Pi C hO (fun _ _ _ => rfl) (c_X8_fits l D G a0 x6_26 ga0) kV_X8_107 ga0 (trivial) dX8_fittingWith_44 hl.1 rfl rfl (by decide) cd_X8_fits ⟨Nat.le_of_ble_eq_true rfl, Nat.le_of_ble_eq_true rfl, Nat.le_of_ble_eq_true rfl, Nat.le_of_ble_eq_true rfl, Nat.le_of_ble_eq_true rfl⟩ (fun v12 q12 => ?_)
          have k_0 : (0 : Int32).toInt = 0 := by decide
          refine lv_if_eq (tgt := 53) hx hb dX8_fittingWith_47 (by decide) (fun c13 => ?_) (fun c13 => ?_)
          · have b13 : v12.toInt = (0 : Int32).toInt := i_eq.mp c13
            refine lv_iload hx hb dX8_fittingWith_53 (lv_at hl 1 rfl) ?_
            refine lv_iload_n hx hb dX8_fittingWith_55 rfl (lv_at hl 4 rfl) ?_
            refine callS_Pi C hO (fun _ _ _ => rfl) (c_X8_nextSet l D G x6_26 v2) kS_X8_63 (trivial) dX8_fittingWith_56 hl.1 cd_X8_nextSet ⟨Nat.le_of_ble_eq_true rfl, Nat.le_of_ble_eq_true rfl, Nat.le_of_ble_eq_true rfl, Nat.le_of_ble_eq_true rfl, Nat.le_of_ble_eq_true rfl⟩ (fun v14 q14 => ?_)
            refine lv_istore (lv' := [(6, .int v14), (7, .int x7_26), (5, .int x5_26), (4, .int v4), (3, .int v2), (0, .ref a0), (2, .int x2)]) hx hb dX8_fittingWith_59 hl (by decide) rfl (fun ls hl => ?_)
            obtain ⟨v15, ev15⟩ : ∃ y : Int32, y = x7_26 + (1) := ⟨_, rfl⟩
            have f16 : v15.toInt = x7_26.toInt + (1) := by rw [ev15]; exact i_addc k_1 (by omega) (by omega)
            refine lv_iinc (v := v15) (lv' := [(7, .int v15), (6, .int v14), (5, .int x5_26), (4, .int v4), (3, .int v2), (0, .ref a0), (2, .int x2)]) hx hb dX8_fittingWith_61 hl (k := 1) rfl (by rw [ev15]; rfl) (by decide) rfl (fun ls hl => ?_)
            refine lv_goto (tgt := 26) hx hb dX8_fittingWith_64 (by decide) ?_
            exact ih26 v15 v14 x5_26 ls (by omega) (by omega) (lv_sub hl [0, 1, 2, 3, 4, 5, 6] rfl)
          · have b13 : ¬ v12.toInt = (0 : Int32).toInt := fun z9 => c13 (i_eq.mpr z9)
            obtain ⟨v17, ev17⟩ : ∃ y : Int32, y = x5_26 + (1) := ⟨_, rfl⟩
            have r18 := i_rng x5_26
            refine lv_iinc (v := v17) (lv' := [(5, .int v17), (7, .int x7_26), (6, .int x6_26), (4, .int v4), (3, .int v2), (0, .ref a0), (2, .int x2)]) hx hb dX8_fittingWith_50 hl (k := 2) rfl (by rw [ev17]; rfl) (by decide) rfl (fun ls hl => ?_)
            refine lv_iload hx hb dX8_fittingWith_53 (lv_at hl 2 rfl) ?_
            refine lv_iload_n hx hb dX8_fittingWith_55 rfl (lv_at hl 4 rfl) ?_
            refine callS_Pi C hO (fun _ _ _ => rfl) (c_X8_nextSet l D G x6_26 v2) kS_X8_63 (trivial) dX8_fittingWith_56 hl.1 cd_X8_nextSet ⟨Nat.le_of_ble_eq_true rfl, Nat.le_of_ble_eq_true rfl, Nat.le_of_ble_eq_true rfl, Nat.le_of_ble_eq_true rfl, Nat.le_of_ble_eq_true rfl⟩ (fun v19 q19 => ?_)
            refine lv_istore (lv' := [(6, .int v19), (5, .int v17), (7, .int x7_26), (4, .int v4), (3, .int v2), (0, .ref a0), (2, .int x2)]) hx hb dX8_fittingWith_59 hl (by decide) rfl (fun ls hl => ?_)
            obtain ⟨v20, ev20⟩ : ∃ y : Int32, y = x7_26 + (1) := ⟨_, rfl⟩
            have f21 : v20.toInt = x7_26.toInt + (1) := by rw [ev20]; exact i_addc k_1 (by omega) (by omega)
            refine lv_iinc (v := v20) (lv' := [(7, .int v20), (6, .int v19), (5, .int v17), (4, .int v4), (3, .int v2), (0, .ref a0), (2, .int x2)]) hx hb dX8_fittingWith_61 hl (k := 2) rfl (by rw [ev20]; rfl) (by decide) rfl (fun ls hl => ?_)
            refine lv_goto (tgt := 26) hx hb dX8_fittingWith_64 (by decide) ?_
            exact ih26 v20 v19 v17 ls (by omega) (by omega) (lv_sub hl [0, 1, 2, 3, 4, 5, 6] rfl)
  have k_0 : (0 : Int32).toInt = 0 := by decide
  exact Lp26 2147483648 (0 : Int32) (0 : Int32) (0 : Int32) ls (by omega)  (by omega) (lv_sub hl [0, 1, 2, 3, 4, 5, 7] rfl)

set_option maxRecDepth 100000 in
set_option maxHeartbeats 4000000 in
theorem c_X8_fewestBurnt (l : Launch) (D : DD) (G : Nat → Nat) (a0 : Nat) (x1 : Int32) (ga0 : G a0 = 18) : CP l D G yX8_fewestBurnt cX8_fewestBurnt 8 (some .int) 1 [.ref a0, .int x1] (fun _ => True) (pI (fun H r => True)) := by
  refine enter (by decide) (Nat.le_of_ble_eq_true rfl) ?_
  intro p e s m args below meth c ls Q hA hQ C hr hO hpre hl
  have hx := C.1
  have hb := C.2.1
  have hl : lv_has ls 8 [(0, .ref a0), (1, .int x1)] := hl
  refine lv_aload_n hx hb dX8_fewestBurnt_0 rfl (lv_at hl 0 rfl) ?_
  refine q_gr (T := TX8) C hO ga0 0 kF_X8_25 dX8_fewestBurnt_1 rfl rfl (by decide) rfl (by decide) rfl (fun g1 => ?_)
  refine lv_iload_n hx hb dX8_fewestBurnt_4 rfl (lv_at hl 1 rfl) ?_
  refine callV_Pi C hO (fun _ _ _ => rfl) (c_X5_bitsOf l D G (fR D s.heap 8 a0 0) x1 g1) kV_X8_87 g1 (trivial) dX8_fewestBurnt_5 hl.1 rfl rfl (by decide) cd_X5_bitsOf ⟨Nat.le_of_ble_eq_true rfl, Nat.le_of_ble_eq_true rfl, Nat.le_of_ble_eq_true rfl, Nat.le_of_ble_eq_true rfl, Nat.le_of_ble_eq_true rfl⟩ (fun v2 q2 => ?_)
  refine lv_istore_n (lv' := [(2, .int v2), (0, .ref a0), (1, .int x1)]) hx hb dX8_fewestBurnt_8 rfl hl (by decide) rfl (fun ls hl => ?_)
  refine lv_iconst (v := 1) hx hb dX8_fewestBurnt_9 (by decide) ?_
  refine lv_iload_n hx hb dX8_fewestBurnt_10 rfl (lv_at hl 0 rfl) ?_
  refine callS_Pi C hO (fun _ _ _ => rfl) (c_J6_bitCount_0f7a4 l D G v2) kS_X8_48 (trivial) dX8_fewestBurnt_11 hl.1 cd_J6_bitCount_0f7a4 ⟨Nat.le_of_ble_eq_true rfl, Nat.le_of_ble_eq_true rfl, Nat.le_of_ble_eq_true rfl, Nat.le_of_ble_eq_true rfl, Nat.le_of_ble_eq_true rfl⟩ (fun v3 q3 => ?_)
  have k_1 : (1 : Int32).toInt = 1 := by decide
  refine lv_ishl hx hb dX8_fewestBurnt_14 ?_
  refine lv_topi (fun v4 ev4 => ?_)
  refine lv_istore_n (lv' := [(3, .int v4), (2, .int v2), (0, .ref a0), (1, .int x1)]) hx hb dX8_fewestBurnt_15 rfl hl (by decide) rfl (fun ls hl => ?_)
  refine lv_iconst (v := -1) hx hb dX8_fewestBurnt_16 (by decide) ?_
  refine lv_istore (lv' := [(4, .int (-1 : Int32)), (3, .int v4), (2, .int v2), (0, .ref a0), (1, .int x1)]) hx hb dX8_fewestBurnt_17 hl (by decide) rfl (fun ls hl => ?_)
  refine lv_iconst (v := 0) hx hb dX8_fewestBurnt_19 (by decide) ?_
  refine lv_istore (lv' := [(5, .int (0 : Int32)), (4, .int (-1 : Int32)), (3, .int v4), (2, .int v2), (0, .ref a0), (1, .int x1)]) hx hb dX8_fewestBurnt_20 hl (by decide) rfl (fun ls hl => ?_)
  refine lv_iconst (v := 0) hx hb dX8_fewestBurnt_22 (by decide) ?_
  refine lv_istore (lv' := [(6, .int (0 : Int32)), (5, .int (0 : Int32)), (4, .int (-1 : Int32)), (3, .int v4), (2, .int v2), (0, .ref a0), (1, .int x1)]) hx hb dX8_fewestBurnt_23 hl (by decide) rfl (fun ls hl => ?_)
  have Lp25 : ∀ (n : Nat) (x6_25 : Int32) (x5_25 : Int32) (x4_25 : Int32) (ls : Array Slot), (0 ≤ x6_25.toInt ∧ x6_25.toInt ≤ 2147483647) → 2147483648 - x6_25.toInt ≤ (n : Int) → lv_has ls 8 [(6, .int x6_25), (5, .int x5_25), (4, .int x4_25), (3, .int v4), (2, .int v2), (0, .ref a0)] → W p l e (rmU 1 0 0) s m args below meth c s.heap [] 0 0 Q (F0 m 25 ls []) := by
    intro n
    induction n with
    | zero =>
      intro x6_25 x5_25 x4_25 ls j25_0 hn hl
      exact absurd hn (by omega)
    | succ n ih25 =>
      intro x6_25 x5_25 x4_25 ls j25_0 hn hl
      refine lv_iload hx hb dX8_fewestBurnt_25 (lv_at hl 0 rfl) ?_
      refine lv_iload_n hx hb dX8_fewestBurnt_27 rfl (lv_at hl 3 rfl) ?_
      have r6 := i_rng v4
      refine lv_icmp_ge (tgt := 78) hx hb dX8_fewestBurnt_28 (by decide) (fun c5 => ?_) (fun c5 => ?_)
      · have b5 : v4.toInt ≤ x6_25.toInt := i_le.mp c5
        refine lv_iload hx hb dX8_fewestBurnt_78 (lv_at hl 2 rfl) ?_
        exact retP_i hQ C hr dX8_fewestBurnt_80 (trivial)
      · have b5 : ¬ v4.toInt ≤ x6_25.toInt := fun z9 => c5 (i_le.mpr z9)
        refine lv_iload hx hb dX8_fewestBurnt_31 (lv_at hl 1 rfl) ?_
        refine callS_Pi C hO (fun _ _ _ => rfl) (c_J6_bitCount_0f7a4 l D G x5_25) kS_X8_48 (trivial) dX8_fewestBurnt_33 hl.1 cd_J6_bitCount_0f7a4 ⟨Nat.le_of_ble_eq_true rfl, Nat.le_of_ble_eq_true rfl, Nat.le_of_ble_eq_true rfl, Nat.le_of_ble_eq_true rfl, Nat.le_of_ble_eq_true rfl⟩ (fun v7 q7 => ?_)
        refine lv_istore (lv' := [(7, .int v7), (6, .int x6_25), (5, .int x5_25), (4, .int x4_25), (3, .int v4), (2, .int v2), (0, .ref a0)]) hx hb dX8_fewestBurnt_36 hl (by decide) rfl (fun ls hl => ?_)
        refine lv_iload hx hb dX8_fewestBurnt_38 (lv_at hl 3 rfl) ?_
        refine lv_iconst (v := -1) hx hb dX8_fewestBurnt_40 (by decide) ?_
        have k_m1 : (-1 : Int32).toInt = -1 := by decide
        refine lv_icmp_eq (tgt := 51) hx hb dX8_fewestBurnt_41 (by decide) (fun c8 => ?_) (fun c8 => ?_)
        · have b8 : x4_25.toInt = (-1 : Int32).toInt := i_eq.mp c8
          refine lv_aload_n hx hb dX8_fewestBurnt_51 rfl (lv_at hl 6 rfl) ?_
          refine lv_iload hx hb dX8_fewestBurnt_52 (lv_at hl 2 rfl) ?_
          refine callV_Pi C hO (fun _ _ _ => rfl) (c_X8_fits l D G a0 x5_25 ga0) kV_X8_107 ga0 (trivial) dX8_fewestBurnt_54 hl.1 rfl rfl (by decide) cd_X8_fits ⟨Nat.le_of_ble_eq_true rfl, Nat.le_of_ble_eq_true rfl, Nat.le_of_ble_eq_true rfl, Nat.le_of_ble_eq_true rfl, Nat.le_of_ble_eq_true rfl⟩ (fun v9 q9 => ?_)
          have k_0 : (0 : Int32).toInt = 0 := by decide
          refine lv_if_eq (tgt := 64) hx hb dX8_fewestBurnt_57 (by decide) (fun c10 => ?_) (fun c10 => ?_)
          · have b10 : v9.toInt = (0 : Int32).toInt := i_eq.mp c10
            refine lv_iload hx hb dX8_fewestBurnt_64 (lv_at hl 2 rfl) ?_
            refine lv_iload_n hx hb dX8_fewestBurnt_66 rfl (lv_at hl 5 rfl) ?_
            refine callS_Pi C hO (fun _ _ _ => rfl) (c_X8_nextSet l D G x5_25 v2) kS_X8_63 (trivial) dX8_fewestBurnt_67 hl.1 cd_X8_nextSet ⟨Nat.le_of_ble_eq_true rfl, Nat.le_of_ble_eq_true rfl, Nat.le_of_ble_eq_true rfl, Nat.le_of_ble_eq_true rfl, Nat.le_of_ble_eq_true rfl⟩ (fun v11 q11 => ?_)
            refine lv_istore (lv' := [(5, .int v11), (7, .int v7), (6, .int x6_25), (4, .int x4_25), (3, .int v4), (2, .int v2), (0, .ref a0)]) hx hb dX8_fewestBurnt_70 hl (by decide) rfl (fun ls hl => ?_)
            obtain ⟨v12, ev12⟩ : ∃ y : Int32, y = x6_25 + (1) := ⟨_, rfl⟩
            have f13 : v12.toInt = x6_25.toInt + (1) := by rw [ev12]; exact i_addc k_1 (by omega) (by omega)
            refine lv_iinc (v := v12) (lv' := [(6, .int v12), (5, .int v11), (7, .int v7), (4, .int x4_25), (3, .int v4), (2, .int v2), (0, .ref a0)]) hx hb dX8_fewestBurnt_72 hl (k := 2) rfl (by rw [ev12]; rfl) (by decide) rfl (fun ls hl => ?_)
            refine lv_goto (tgt := 25) hx hb dX8_fewestBurnt_75 (by decide) ?_
            exact ih25 v12 v11 x4_25 ls (by omega) (by omega) (lv_sub hl [0, 1, 3, 4, 5, 6] rfl)
          · have b10 : ¬ v9.toInt = (0 : Int32).toInt := fun z9 => c10 (i_eq.mpr z9)
            refine lv_iload hx hb dX8_fewestBurnt_60 (lv_at hl 0 rfl) ?_
            refine lv_istore (lv' := [(4, .int v7), (7, .int v7), (6, .int x6_25), (5, .int x5_25), (3, .int v4), (2, .int v2), (0, .ref a0)]) hx hb dX8_fewestBurnt_62 hl (by decide) rfl (fun ls hl => ?_)
            refine lv_iload hx hb dX8_fewestBurnt_64 (lv_at hl 3 rfl) ?_
            refine lv_iload_n hx hb dX8_fewestBurnt_66 rfl (lv_at hl 5 rfl) ?_
            refine callS_Pi C hO (fun _ _ _ => rfl) (c_X8_nextSet l D G x5_25 v2) kS_X8_63 (trivial) dX8_fewestBurnt_67 hl.1 cd_X8_nextSet ⟨Nat.le_of_ble_eq_true rfl, Nat.le_of_ble_eq_true rfl, Nat.le_of_ble_eq_true rfl, Nat.le_of_ble_eq_true rfl, Nat.le_of_ble_eq_true rfl⟩ (fun v14 q14 => ?_)
            refine lv_istore (lv' := [(5, .int v14), (4, .int v7), (7, .int v7), (6, .int x6_25), (3, .int v4), (2, .int v2), (0, .ref a0)]) hx hb dX8_fewestBurnt_70 hl (by decide) rfl (fun ls hl => ?_)
            obtain ⟨v15, ev15⟩ : ∃ y : Int32, y = x6_25 + (1) := ⟨_, rfl⟩
            have f16 : v15.toInt = x6_25.toInt + (1) := by rw [ev15]; exact i_addc k_1 (by omega) (by omega)
            refine lv_iinc (v := v15) (lv' := [(6, .int v15), (5, .int v14), (4, .int v7), (7, .int v7), (3, .int v4), (2, .int v2), (0, .ref a0)]) hx hb dX8_fewestBurnt_72 hl (k := 3) rfl (by rw [ev15]; rfl) (by decide) rfl (fun ls hl => ?_)
            refine lv_goto (tgt := 25) hx hb dX8_fewestBurnt_75 (by decide) ?_
            exact ih25 v15 v14 v7 ls (by omega) (by omega) (lv_sub hl [0, 1, 2, 4, 5, 6] rfl)
        · have b8 : ¬ x4_25.toInt = (-1 : Int32).toInt := fun z9 => c8 (i_eq.mpr z9)
          refine lv_iload hx hb dX8_fewestBurnt_44 (lv_at hl 0 rfl) ?_
          refine lv_iload hx hb dX8_fewestBurnt_46 (lv_at hl 3 rfl) ?_
          refine lv_icmp_ge (tgt := 64) hx hb dX8_fewestBurnt_48 (by decide) (fun c17 => ?_) (fun c17 => ?_)
          · have b17 : x4_25.toInt ≤ v7.toInt := i_le.mp c17
            refine lv_iload hx hb dX8_fewestBurnt_64 (lv_at hl 2 rfl) ?_
            refine lv_iload_n hx hb dX8_fewestBurnt_66 rfl (lv_at hl 5 rfl) ?_
            refine callS_Pi C hO (fun _ _ _ => rfl) (c_X8_nextSet l D G x5_25 v2) kS_X8_63 (trivial) dX8_fewestBurnt_67 hl.1 cd_X8_nextSet ⟨Nat.le_of_ble_eq_true rfl, Nat.le_of_ble_eq_true rfl, Nat.le_of_ble_eq_true rfl, Nat.le_of_ble_eq_true rfl, Nat.le_of_ble_eq_true rfl⟩ (fun v18 q18 => ?_)
            refine lv_istore (lv' := [(5, .int v18), (7, .int v7), (6, .int x6_25), (4, .int x4_25), (3, .int v4), (2, .int v2), (0, .ref a0)]) hx hb dX8_fewestBurnt_70 hl (by decide) rfl (fun ls hl => ?_)
            obtain ⟨v19, ev19⟩ : ∃ y : Int32, y = x6_25 + (1) := ⟨_, rfl⟩
            have f20 : v19.toInt = x6_25.toInt + (1) := by rw [ev19]; exact i_addc k_1 (by omega) (by omega)
            refine lv_iinc (v := v19) (lv' := [(6, .int v19), (5, .int v18), (7, .int v7), (4, .int x4_25), (3, .int v4), (2, .int v2), (0, .ref a0)]) hx hb dX8_fewestBurnt_72 hl (k := 2) rfl (by rw [ev19]; rfl) (by decide) rfl (fun ls hl => ?_)
            refine lv_goto (tgt := 25) hx hb dX8_fewestBurnt_75 (by decide) ?_
            exact ih25 v19 v18 x4_25 ls (by omega) (by omega) (lv_sub hl [0, 1, 3, 4, 5, 6] rfl)
          · have b17 : ¬ x4_25.toInt ≤ v7.toInt := fun z9 => c17 (i_le.mpr z9)
            refine lv_aload_n hx hb dX8_fewestBurnt_51 rfl (lv_at hl 6 rfl) ?_
            refine lv_iload hx hb dX8_fewestBurnt_52 (lv_at hl 2 rfl) ?_
            refine callV_Pi C hO (fun _ _ _ => rfl) (c_X8_fits l D G a0 x5_25 ga0) kV_X8_107 ga0 (trivial) dX8_fewestBurnt_54 hl.1 rfl rfl (by decide) cd_X8_fits ⟨Nat.le_of_ble_eq_true rfl, Nat.le_of_ble_eq_true rfl, Nat.le_of_ble_eq_true rfl, Nat.le_of_ble_eq_true rfl, Nat.le_of_ble_eq_true rfl⟩ (fun v21 q21 => ?_)
            have k_0 : (0 : Int32).toInt = 0 := by decide
            refine lv_if_eq (tgt := 64) hx hb dX8_fewestBurnt_57 (by decide) (fun c22 => ?_) (fun c22 => ?_)
            · have b22 : v21.toInt = (0 : Int32).toInt := i_eq.mp c22
              refine lv_iload hx hb dX8_fewestBurnt_64 (lv_at hl 2 rfl) ?_
              refine lv_iload_n hx hb dX8_fewestBurnt_66 rfl (lv_at hl 5 rfl) ?_
              refine callS_Pi C hO (fun _ _ _ => rfl) (c_X8_nextSet l D G x5_25 v2) kS_X8_63 (trivial) dX8_fewestBurnt_67 hl.1 cd_X8_nextSet ⟨Nat.le_of_ble_eq_true rfl, Nat.le_of_ble_eq_true rfl, Nat.le_of_ble_eq_true rfl, Nat.le_of_ble_eq_true rfl, Nat.le_of_ble_eq_true rfl⟩ (fun v23 q23 => ?_)
              refine lv_istore (lv' := [(5, .int v23), (7, .int v7), (6, .int x6_25), (4, .int x4_25), (3, .int v4), (2, .int v2), (0, .ref a0)]) hx hb dX8_fewestBurnt_70 hl (by decide) rfl (fun ls hl => ?_)
              obtain ⟨v24, ev24⟩ : ∃ y : Int32, y = x6_25 + (1) := ⟨_, rfl⟩
              have f25 : v24.toInt = x6_25.toInt + (1) := by rw [ev24]; exact i_addc k_1 (by omega) (by omega)
              refine lv_iinc (v := v24) (lv' := [(6, .int v24), (5, .int v23), (7, .int v7), (4, .int x4_25), (3, .int v4), (2, .int v2), (0, .ref a0)]) hx hb dX8_fewestBurnt_72 hl (k := 2) rfl (by rw [ev24]; rfl) (by decide) rfl (fun ls hl => ?_)
              refine lv_goto (tgt := 25) hx hb dX8_fewestBurnt_75 (by decide) ?_
              exact ih25 v24 v23 x4_25 ls (by omega) (by omega) (lv_sub hl [0, 1, 3, 4, 5, 6] rfl)
            · have b22 : ¬ v21.toInt = (0 : Int32).toInt := fun z9 => c22 (i_eq.mpr z9)
              refine lv_iload hx hb dX8_fewestBurnt_60 (lv_at hl 0 rfl) ?_
              refine lv_istore (lv' := [(4, .int v7), (7, .int v7), (6, .int x6_25), (5, .int x5_25), (3, .int v4), (2, .int v2), (0, .ref a0)]) hx hb dX8_fewestBurnt_62 hl (by decide) rfl (fun ls hl => ?_)
              refine lv_iload hx hb dX8_fewestBurnt_64 (lv_at hl 3 rfl) ?_
              refine lv_iload_n hx hb dX8_fewestBurnt_66 rfl (lv_at hl 5 rfl) ?_
              refine callS_Pi C hO (fun _ _ _ => rfl) (c_X8_nextSet l D G x5_25 v2) kS_X8_63 (trivial) dX8_fewestBurnt_67 hl.1 cd_X8_nextSet ⟨Nat.le_of_ble_eq_true rfl, Nat.le_of_ble_eq_true rfl, Nat.le_of_ble_eq_true rfl, Nat.le_of_ble_eq_true rfl, Nat.le_of_ble_eq_true rfl⟩ (fun v26 q26 => ?_)
              refine lv_istore (lv' := [(5, .int v26), (4, .int v7), (7, .int v7), (6, .int x6_25), (3, .int v4), (2, .int v2), (0, .ref a0)]) hx hb dX8_fewestBurnt_70 hl (by decide) rfl (fun ls hl => ?_)
              obtain ⟨v27, ev27⟩ : ∃ y : Int32, y = x6_25 + (1) := ⟨_, rfl⟩
              have f28 : v27.toInt = x6_25.toInt + (1) := by rw [ev27]; exact i_addc k_1 (by omega) (by omega)
              refine lv_iinc (v := v27) (lv' := [(6, .int v27), (5, .int v26), (4, .int v7), (7, .int v7), (3, .int v4), (2, .int v2), (0, .ref a0)]) hx hb dX8_fewestBurnt_72 hl (k := 3) rfl (by rw [ev27]; rfl) (by decide) rfl (fun ls hl => ?_)
              refine lv_goto (tgt := 25) hx hb dX8_fewestBurnt_75 (by decide) ?_
              exact ih25 v27 v26 v7 ls (by omega) (by omega) (lv_sub hl [0, 1, 2, 4, 5, 6] rfl)
  have k_0 : (0 : Int32).toInt = 0 := by decide
  have k_m1 : (-1 : Int32).toInt = -1 := by decide
  exact Lp25 2147483648 (0 : Int32) (0 : Int32) (-1 : Int32) ls (by omega)  (by omega) (lv_sub hl [0, 1, 2, 3, 4, 5] rfl)
