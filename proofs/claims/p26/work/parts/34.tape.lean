set_option maxRecDepth 100000 in
set_option maxHeartbeats 4000000 in
theorem c_X9_put (l : Launch) (D : DD) (G : Nat → Nat) (a0 : Nat) (x1 : Int32) (ga0 : G a0 = 2) : CE l D G yX9_put cX9_put 3 none 0 [.ref a0, .int x1] (fun _ => True) [(2, 1), (3, 0)] (xV (fun H H1 => (fI D H 9 a0 1).toInt ≤ 396 → (fI D H1 9 a0 1).toInt = (fI D H 9 a0 1).toInt + 4)) := by
  refine enter (by decide) (Nat.le_of_ble_eq_true rfl) ?_
  intro p e s m args below meth c ls Q hA hQ C hr hO hpre hl
  have hx := C.1
  have hb := C.2.1
  have S : Sd D G [(2, 1), (3, 0)] s.heap s.heap [] := Sd.start hO
  have hl : lv_has ls 3 [(0, .ref a0), (1, .int x1)] := hl
  refine lv_bipush (v := 24) hx hb dX9_put_0 (by decide) ?_
  refine lv_istore_n (lv' := [(2, .int (24 : Int32)), (0, .ref a0), (1, .int x1)]) hx hb dX9_put_2 rfl hl (by decide) rfl (fun ls hl => ?_)
  have Lp3 : ∀ (n : Nat) (x2_3 : Int32) (H_3 : Heap) (L_3 : List Loc) (ls : Array Slot), (Sd D G [(2, 1), (3, 0)] s.heap H_3 L_3) → (-8 ≤ x2_3.toInt ∧ x2_3.toInt ≤ 24) → ((fI D s.heap 9 a0 1).toInt ≤ 396 → 8 * (fI D H_3 9 a0 1).toInt = 8 * (fI D s.heap 9 a0 1).toInt + 24 - x2_3.toInt) → (x2_3.toInt % 8 = 0) → x2_3.toInt + 9 ≤ (n : Int) → lv_has ls 3 [(2, .int x2_3), (0, .ref a0), (1, .int x1)] → W p l e (rmU 0 0 0) s m args below meth c H_3 L_3 0 0 Q (F0 m 3 ls []) := by
    intro n
    induction n with
    | zero =>
      intro x2_3 H_3 L_3 ls S_3 j3_0 u3_0 u3_1 hn hl
      exact absurd hn (by omega)
    | succ n ih3 =>
      intro x2_3 H_3 L_3 ls S_3 j3_0 u3_0 u3_1 hn hl
      refine lv_iload_n hx hb dX9_put_3 rfl (lv_at hl 0 rfl) ?_
      have k_0 : (0 : Int32).toInt = 0 := by decide
      refine lv_if_lt (tgt := 49) hx hb dX9_put_4 (by decide) (fun c1 => ?_) (fun c1 => ?_)
      · have b1 : x2_3.toInt < (0 : Int32).toInt := i_lt.mp c1
        exact retE_v hQ C S_3 hr dX9_put_49 (by omega)
      · have b1 : ¬ x2_3.toInt < (0 : Int32).toInt := fun z9 => c1 (i_lt.mpr z9)
        refine lv_aload_n hx hb dX9_put_7 rfl (lv_at hl 1 rfl) ?_
        refine q_gi (T := TX9) C S_3.1 ga0 1 kF_X9_15 dX9_put_8 rfl rfl (by decide) rfl (by decide) rfl ?_
        have r2 : 0 ≤ (fI D H_3 9 a0 1).toInt ∧ (fI D H_3 9 a0 1).toInt ≤ 400 := S_3.1.rng ga0 rfl (by decide) rfl
        refine lv_sipush (v := 400) hx hb dX9_put_11 (by decide) ?_
        have k_400 : (400 : Int32).toInt = 400 := by decide
        refine lv_icmp_ge (tgt := 43) hx hb dX9_put_14 (by decide) (fun c3 => ?_) (fun c3 => ?_)
        · have b3 : (400 : Int32).toInt ≤ (fI D H_3 9 a0 1).toInt := i_le.mp c3
          obtain ⟨v4, ev4⟩ : ∃ y : Int32, y = x2_3 + (-8) := ⟨_, rfl⟩
          have k_m8 : (-8 : Int32).toInt = -8 := by decide
          have f5 : v4.toInt = x2_3.toInt + (-8) := by rw [ev4]; exact i_addc k_m8 (by omega) (by omega)
          refine lv_iinc (v := v4) (lv' := [(2, .int v4), (0, .ref a0), (1, .int x1)]) hx hb dX9_put_43 hl (k := 0) rfl (by rw [ev4]; rfl) (by decide) rfl (fun ls hl => ?_)
          refine lv_goto (tgt := 3) hx hb dX9_put_46 (by decide) ?_
          skip
          exact ih3 v4 H_3 L_3 ls S_3 (by omega) (by first | omega | (rw [Pt.i ]; omega)) (by omega) (by omega) (lv_sub hl [0, 1, 2] rfl)
        · have b3 : ¬ (400 : Int32).toInt ≤ (fI D H_3 9 a0 1).toInt := fun z9 => c3 (i_le.mpr z9)
          refine lv_aload_n hx hb dX9_put_17 rfl (lv_at hl 1 rfl) ?_
          refine q_gr (T := TX9) C S_3.1 ga0 0 kF_X9_11 dX9_put_18 rfl rfl (by decide) rfl (by decide) rfl (fun g6 => ?_)
          refine lv_aload_n hx hb dX9_put_21 rfl (lv_at hl 1 rfl) ?_
          refine q_gi (T := TX9) C S_3.1 ga0 1 kF_X9_15 dX9_put_22 rfl rfl (by decide) rfl (by decide) rfl ?_
          refine lv_iload_n hx hb dX9_put_25 rfl (lv_at hl 2 rfl) ?_
          refine lv_iload_n hx hb dX9_put_26 rfl (lv_at hl 0 rfl) ?_
          refine lv_iushr hx hb dX9_put_27 rfl ?_
          refine lv_topi (fun v7 ev7 => ?_)
          refine lv_sipush (v := 255) hx hb dX9_put_28 (by decide) ?_
          have k_255 : (255 : Int32).toInt = 255 := by decide
          refine lv_iand hx hb dX9_put_31 ?_
          have r8 := i_rng v7
          refine lv_topi (fun v9 ev9 => ?_)
          have f10 : 0 ≤ v9.toInt ∧ v9.toInt ≤ (255 : Int32).toInt := by rw [ev9]; exact i_and (by omega)
          have n11 : aN H_3 (fR D H_3 9 a0 0) = 400 := len_3 S_3.1 g6
          refine q_iast C S_3 g6 (by omega) (by omega) dX9_put_32 rfl (by decide) (by decide +kernel) (fun _ _ h => ak_3 h) (fun H12 L12 S12 P12 => ?_)
          refine lv_aload_n hx hb dX9_put_33 rfl (lv_at hl 1 rfl) ?_
          refine lv_dup hx hb dX9_put_34 rfl ?_
          refine q_gi (T := TX9) C S12.1 ga0 1 kF_X9_15 dX9_put_35 rfl rfl (by decide) rfl (by decide) rfl ?_
          have c13 : (fI D H12 9 a0 1).toInt = (fI D H_3 9 a0 1).toInt := by rw [Pa.f P12 (ne_role ga0 g6 (by decide))]
          have r14 : 0 ≤ (fI D H12 9 a0 1).toInt ∧ (fI D H12 9 a0 1).toInt ≤ 400 := S12.1.rng ga0 rfl (by decide) rfl
          refine lv_iconst (v := 1) hx hb dX9_put_38 (by decide) ?_
          have k_1 : (1 : Int32).toInt = 1 := by decide
          refine lv_iadd hx hb dX9_put_39 ?_
          refine lv_topi (fun v15 ev15 => ?_)
          have f16 : v15.toInt = (fI D H12 9 a0 1).toInt + (1 : Int32).toInt := by rw [ev15]; exact i_add (by omega) (by omega)
          refine q_put (T := TX9) C S12 ga0 1 kF_X9_15 dX9_put_40 rfl rfl (by decide) (by decide) rfl rfl rfl rfl rfl (vok_i rfl (by omega) (by omega)) (by decide +kernel) (fun H17 L17 S17 P17 => ?_)
          obtain ⟨v18, ev18⟩ : ∃ y : Int32, y = x2_3 + (-8) := ⟨_, rfl⟩
          have k_m8 : (-8 : Int32).toInt = -8 := by decide
          have f19 : v18.toInt = x2_3.toInt + (-8) := by rw [ev18]; exact i_addc k_m8 (by omega) (by omega)
          refine lv_iinc (v := v18) (lv' := [(2, .int v18), (0, .ref a0), (1, .int x1)]) hx hb dX9_put_43 hl (k := 0) rfl (by rw [ev18]; rfl) (by decide) rfl (fun ls hl => ?_)
          refine lv_goto (tgt := 3) hx hb dX9_put_46 (by decide) ?_
          skip
          exact ih3 v18 H17 L17 ls S17 (by omega) (by first | omega | (rw [Pt.i P17]; omega)) (by omega) (by omega) (lv_sub hl [0, 1, 2] rfl)
  have k_24 : (24 : Int32).toInt = 24 := by decide
  exact Lp3 40 (24 : Int32) s.heap [] ls S (by omega) (by omega) (by omega)  (by omega) (lv_sub hl [0, 1, 2] rfl)

set_option maxRecDepth 100000 in
set_option maxHeartbeats 4000000 in
theorem c_X9_next (l : Launch) (D : DD) (G : Nat → Nat) (a0 : Nat) (ga0 : G a0 = 2) : CE l D G yX9_next cX9_next 1 none 0 [.ref a0] (fun _ => True) [(2, 3), (2, 4), (2, 5), (2, 6)] (xV (fun H H1 => True)) := by
  refine enter (by decide) (Nat.le_of_ble_eq_true rfl) ?_
  intro p e s m args below meth c ls Q hA hQ C hr hO hpre hl
  have hx := C.1
  have hb := C.2.1
  have S : Sd D G [(2, 3), (2, 4), (2, 5), (2, 6)] s.heap s.heap [] := Sd.start hO
  have hl : lv_has ls 1 [(0, .ref a0)] := hl
  have Lp0 : ∀ (n : Nat)  (H_0 : Heap) (L_0 : List Loc) (ls : Array Slot), (Sd D G [(2, 3), (2, 4), (2, 5), (2, 6)] s.heap H_0 L_0) → 401 - (fI D H_0 9 a0 5).toInt ≤ (n : Int) → lv_has ls 1 [(0, .ref a0)] → W p l e (rmU 0 0 0) s m args below meth c H_0 L_0 0 0 Q (F0 m 0 ls []) := by
    intro n
    induction n with
    | zero =>
      intro H_0 L_0 ls S_0 hn hl
      have rz : 0 ≤ (fI D H_0 9 a0 5).toInt ∧ (fI D H_0 9 a0 5).toInt ≤ 400 := S_0.1.rng ga0 rfl (by decide) rfl
      exact absurd hn (by omega)
    | succ n ih0 =>
      intro H_0 L_0 ls S_0 hn hl
      refine lv_aload_n hx hb dX9_next_0 rfl (lv_at hl 0 rfl) ?_
      refine q_gi (T := TX9) C S_0.1 ga0 5 kF_X9_28 dX9_next_1 rfl rfl (by decide) rfl (by decide) rfl ?_
      have r1 : 0 ≤ (fI D H_0 9 a0 5).toInt ∧ (fI D H_0 9 a0 5).toInt ≤ 400 := S_0.1.rng ga0 rfl (by decide) rfl
      refine lv_aload_n hx hb dX9_next_4 rfl (lv_at hl 0 rfl) ?_
      refine q_gi (T := TX9) C S_0.1 ga0 1 kF_X9_15 dX9_next_5 rfl rfl (by decide) rfl (by decide) rfl ?_
      have r2 : 0 ≤ (fI D H_0 9 a0 1).toInt ∧ (fI D H_0 9 a0 1).toInt ≤ 400 := S_0.1.rng ga0 rfl (by decide) rfl
      refine lv_icmp_ge (tgt := 38) hx hb dX9_next_8 (by decide) (fun c3 => ?_) (fun c3 => ?_)
      · have b3 : (fI D H_0 9 a0 1).toInt ≤ (fI D H_0 9 a0 5).toInt := i_le.mp c3
        refine lv_aload_n hx hb dX9_next_38 rfl (lv_at hl 0 rfl) ?_
        refine lv_aload_n hx hb dX9_next_39 rfl (lv_at hl 0 rfl) ?_
        refine q_gi (T := TX9) C S_0.1 ga0 5 kF_X9_28 dX9_next_40 rfl rfl (by decide) rfl (by decide) rfl ?_
        refine q_put (T := TX9) C S_0 ga0 4 kF_X9_25 dX9_next_43 rfl rfl (by decide) (by decide) rfl rfl rfl rfl rfl (vok_i rfl (by omega) (by omega)) (by decide +kernel) (fun H4 L4 S4 P4 => ?_)
        refine lv_aload_n hx hb dX9_next_46 rfl (lv_at hl 0 rfl) ?_
        refine lv_iconst (v := 0) hx hb dX9_next_47 (by decide) ?_
        have k_0 : (0 : Int32).toInt = 0 := by decide
        refine q_put (T := TX9) C S4 ga0 6 kF_X9_31 dX9_next_48 rfl rfl (by decide) (by decide) rfl rfl rfl rfl rfl (vok_a rfl) (by decide +kernel) (fun H5 L5 S5 P5 => ?_)
        refine lv_aload_n hx hb dX9_next_51 rfl (lv_at hl 0 rfl) ?_
        refine q_gi (T := TX9) C S5.1 ga0 5 kF_X9_28 dX9_next_52 rfl rfl (by decide) rfl (by decide) rfl ?_
        have c6 : (fI D H5 9 a0 5).toInt = (fI D H_0 9 a0 5).toInt := by rw [Pt.o P5 (by decide) (by decide), Pt.o P4 (by decide) (by decide)]
        have r7 : 0 ≤ (fI D H5 9 a0 5).toInt ∧ (fI D H5 9 a0 5).toInt ≤ 400 := S5.1.rng ga0 rfl (by decide) rfl
        refine lv_aload_n hx hb dX9_next_55 rfl (lv_at hl 0 rfl) ?_
        refine q_gi (T := TX9) C S5.1 ga0 1 kF_X9_15 dX9_next_56 rfl rfl (by decide) rfl (by decide) rfl ?_
        have c8 : (fI D H5 9 a0 1).toInt = (fI D H_0 9 a0 1).toInt := by rw [Pt.o P5 (by decide) (by decide), Pt.o P4 (by decide) (by decide)]
        have r9 : 0 ≤ (fI D H5 9 a0 1).toInt ∧ (fI D H5 9 a0 1).toInt ≤ 400 := S5.1.rng ga0 rfl (by decide) rfl
        refine lv_icmp_lt (tgt := 70) hx hb dX9_next_59 (by decide) (fun c10 => ?_) (fun c10 => ?_)
        · have b10 : (fI D H5 9 a0 5).toInt < (fI D H5 9 a0 1).toInt := i_lt.mp c10
          refine lv_aload_n hx hb dX9_next_70 rfl (lv_at hl 0 rfl) ?_
          refine q_gr (T := TX9) C S5.1 ga0 0 kF_X9_11 dX9_next_71 rfl rfl (by decide) rfl (by decide) rfl (fun g11 => ?_)
          refine lv_aload_n hx hb dX9_next_74 rfl (lv_at hl 0 rfl) ?_
          refine q_gi (T := TX9) C S5.1 ga0 5 kF_X9_28 dX9_next_75 rfl rfl (by decide) rfl (by decide) rfl ?_
          have n12 : aN H5 (fR D H5 9 a0 0) = 400 := len_3 S5.1 g11
          refine q_iald C S5.1 g11 (by omega) (by omega) dX9_next_78 rfl (by decide) ?_
          refine lv_topi (fun v13 ev13 => ?_)
          refine lv_bipush (v := 97) hx hb dX9_next_79 (by decide) ?_
          have k_97 : (97 : Int32).toInt = 97 := by decide
          refine lv_icmp_lt (tgt := 155) hx hb dX9_next_81 (by decide) (fun c14 => ?_) (fun c14 => ?_)
          · have b14 : v13.toInt < (97 : Int32).toInt := i_lt.mp c14
            refine lv_aload_n hx hb dX9_next_155 rfl (lv_at hl 0 rfl) ?_
            refine q_gr (T := TX9) C S5.1 ga0 0 kF_X9_11 dX9_next_156 rfl rfl (by decide) rfl (by decide) rfl (fun g15 => ?_)
            refine lv_aload_n hx hb dX9_next_159 rfl (lv_at hl 0 rfl) ?_
            refine q_gi (T := TX9) C S5.1 ga0 5 kF_X9_28 dX9_next_160 rfl rfl (by decide) rfl (by decide) rfl ?_
            refine q_iald C S5.1 g15 (by omega) (by omega) dX9_next_163 rfl (by decide) ?_
            refine lv_topi (fun v16 ev16 => ?_)
            refine lv_bipush (v := 48) hx hb dX9_next_164 (by decide) ?_
            have k_48 : (48 : Int32).toInt = 48 := by decide
            refine lv_icmp_lt (tgt := 283) hx hb dX9_next_166 (by decide) (fun c17 => ?_) (fun c17 => ?_)
            · have b17 : v16.toInt < (48 : Int32).toInt := i_lt.mp c17
              refine lv_aload_n hx hb dX9_next_283 rfl (lv_at hl 0 rfl) ?_
              refine lv_iconst (v := 3) hx hb dX9_next_284 (by decide) ?_
              have k_3 : (3 : Int32).toInt = 3 := by decide
              refine q_put (T := TX9) C S5 ga0 3 kF_X9_22 dX9_next_285 rfl rfl (by decide) (by decide) rfl rfl rfl rfl rfl (vok_a rfl) (by decide +kernel) (fun H18 L18 S18 P18 => ?_)
              refine lv_aload_n hx hb dX9_next_288 rfl (lv_at hl 0 rfl) ?_
              refine lv_aload_n hx hb dX9_next_289 rfl (lv_at hl 0 rfl) ?_
              refine q_gr (T := TX9) C S18.1 ga0 0 kF_X9_11 dX9_next_290 rfl rfl (by decide) rfl (by decide) rfl (fun g19 => ?_)
              refine lv_aload_n hx hb dX9_next_293 rfl (lv_at hl 0 rfl) ?_
              refine q_gi (T := TX9) C S18.1 ga0 5 kF_X9_28 dX9_next_294 rfl rfl (by decide) rfl (by decide) rfl ?_
              have c20 : (fI D H18 9 a0 5).toInt = (fI D H5 9 a0 5).toInt := by rw [Pt.o P18 (by decide) (by decide)]
              have r21 : 0 ≤ (fI D H18 9 a0 5).toInt ∧ (fI D H18 9 a0 5).toInt ≤ 400 := S18.1.rng ga0 rfl (by decide) rfl
              have n22 : aN H18 (fR D H18 9 a0 0) = 400 := len_3 S18.1 g19
              refine q_iald C S18.1 g19 (by omega) (by omega) dX9_next_297 rfl (by decide) ?_
              refine lv_topi (fun v23 ev23 => ?_)
              refine q_put (T := TX9) C S18 ga0 6 kF_X9_31 dX9_next_298 rfl rfl (by decide) (by decide) rfl rfl rfl rfl rfl (vok_a rfl) (by decide +kernel) (fun H24 L24 S24 P24 => ?_)
              refine lv_aload_n hx hb dX9_next_301 rfl (lv_at hl 0 rfl) ?_
              refine lv_dup hx hb dX9_next_302 rfl ?_
              refine q_gi (T := TX9) C S24.1 ga0 5 kF_X9_28 dX9_next_303 rfl rfl (by decide) rfl (by decide) rfl ?_
              have c25 : (fI D H24 9 a0 5).toInt = (fI D H18 9 a0 5).toInt := by rw [Pt.o P24 (by decide) (by decide)]
              have r26 : 0 ≤ (fI D H24 9 a0 5).toInt ∧ (fI D H24 9 a0 5).toInt ≤ 400 := S24.1.rng ga0 rfl (by decide) rfl
              refine lv_iconst (v := 1) hx hb dX9_next_306 (by decide) ?_
              have k_1 : (1 : Int32).toInt = 1 := by decide
              refine lv_iadd hx hb dX9_next_307 ?_
              refine lv_topi (fun v27 ev27 => ?_)
              have f28 : v27.toInt = (fI D H24 9 a0 5).toInt + (1 : Int32).toInt := by rw [ev27]; exact i_add (by omega) (by omega)
              refine q_put (T := TX9) C S24 ga0 5 kF_X9_28 dX9_next_308 rfl rfl (by decide) (by decide) rfl rfl rfl rfl rfl (vok_i rfl (by omega) (by omega)) (by decide +kernel) (fun H29 L29 S29 P29 => ?_)
              exact retE_v hQ C S29 hr dX9_next_311 (trivial)
            · have b17 : ¬ v16.toInt < (48 : Int32).toInt := fun z9 => c17 (i_lt.mpr z9)
              refine lv_aload_n hx hb dX9_next_169 rfl (lv_at hl 0 rfl) ?_
              refine q_gr (T := TX9) C S5.1 ga0 0 kF_X9_11 dX9_next_170 rfl rfl (by decide) rfl (by decide) rfl (fun g30 => ?_)
              refine lv_aload_n hx hb dX9_next_173 rfl (lv_at hl 0 rfl) ?_
              refine q_gi (T := TX9) C S5.1 ga0 5 kF_X9_28 dX9_next_174 rfl rfl (by decide) rfl (by decide) rfl ?_
              refine q_iald C S5.1 g30 (by omega) (by omega) dX9_next_177 rfl (by decide) ?_
              refine lv_topi (fun v31 ev31 => ?_)
              refine lv_bipush (v := 57) hx hb dX9_next_178 (by decide) ?_
              have k_57 : (57 : Int32).toInt = 57 := by decide
              refine lv_icmp_gt (tgt := 283) hx hb dX9_next_180 (by decide) (fun c32 => ?_) (fun c32 => ?_)
              · have b32 : (57 : Int32).toInt < v31.toInt := i_lt.mp c32
                refine lv_aload_n hx hb dX9_next_283 rfl (lv_at hl 0 rfl) ?_
                refine lv_iconst (v := 3) hx hb dX9_next_284 (by decide) ?_
                have k_3 : (3 : Int32).toInt = 3 := by decide
                refine q_put (T := TX9) C S5 ga0 3 kF_X9_22 dX9_next_285 rfl rfl (by decide) (by decide) rfl rfl rfl rfl rfl (vok_a rfl) (by decide +kernel) (fun H33 L33 S33 P33 => ?_)
                refine lv_aload_n hx hb dX9_next_288 rfl (lv_at hl 0 rfl) ?_
                refine lv_aload_n hx hb dX9_next_289 rfl (lv_at hl 0 rfl) ?_
                refine q_gr (T := TX9) C S33.1 ga0 0 kF_X9_11 dX9_next_290 rfl rfl (by decide) rfl (by decide) rfl (fun g34 => ?_)
                refine lv_aload_n hx hb dX9_next_293 rfl (lv_at hl 0 rfl) ?_
                refine q_gi (T := TX9) C S33.1 ga0 5 kF_X9_28 dX9_next_294 rfl rfl (by decide) rfl (by decide) rfl ?_
                have c35 : (fI D H33 9 a0 5).toInt = (fI D H5 9 a0 5).toInt := by rw [Pt.o P33 (by decide) (by decide)]
                have r36 : 0 ≤ (fI D H33 9 a0 5).toInt ∧ (fI D H33 9 a0 5).toInt ≤ 400 := S33.1.rng ga0 rfl (by decide) rfl
                have n37 : aN H33 (fR D H33 9 a0 0) = 400 := len_3 S33.1 g34
                refine q_iald C S33.1 g34 (by omega) (by omega) dX9_next_297 rfl (by decide) ?_
                refine lv_topi (fun v38 ev38 => ?_)
                refine q_put (T := TX9) C S33 ga0 6 kF_X9_31 dX9_next_298 rfl rfl (by decide) (by decide) rfl rfl rfl rfl rfl (vok_a rfl) (by decide +kernel) (fun H39 L39 S39 P39 => ?_)
                refine lv_aload_n hx hb dX9_next_301 rfl (lv_at hl 0 rfl) ?_
                refine lv_dup hx hb dX9_next_302 rfl ?_
                refine q_gi (T := TX9) C S39.1 ga0 5 kF_X9_28 dX9_next_303 rfl rfl (by decide) rfl (by decide) rfl ?_
                have c40 : (fI D H39 9 a0 5).toInt = (fI D H33 9 a0 5).toInt := by rw [Pt.o P39 (by decide) (by decide)]
                have r41 : 0 ≤ (fI D H39 9 a0 5).toInt ∧ (fI D H39 9 a0 5).toInt ≤ 400 := S39.1.rng ga0 rfl (by decide) rfl
                refine lv_iconst (v := 1) hx hb dX9_next_306 (by decide) ?_
                have k_1 : (1 : Int32).toInt = 1 := by decide
                refine lv_iadd hx hb dX9_next_307 ?_
                refine lv_topi (fun v42 ev42 => ?_)
                have f43 : v42.toInt = (fI D H39 9 a0 5).toInt + (1 : Int32).toInt := by rw [ev42]; exact i_add (by omega) (by omega)
                refine q_put (T := TX9) C S39 ga0 5 kF_X9_28 dX9_next_308 rfl rfl (by decide) (by decide) rfl rfl rfl rfl rfl (vok_i rfl (by omega) (by omega)) (by decide +kernel) (fun H44 L44 S44 P44 => ?_)
                exact retE_v hQ C S44 hr dX9_next_311 (trivial)
              · have b32 : ¬ (57 : Int32).toInt < v31.toInt := fun z9 => c32 (i_lt.mpr z9)
                refine lv_aload_n hx hb dX9_next_183 rfl (lv_at hl 0 rfl) ?_
                refine lv_iconst (v := 2) hx hb dX9_next_184 (by decide) ?_
                have k_2 : (2 : Int32).toInt = 2 := by decide
                refine q_put (T := TX9) C S5 ga0 3 kF_X9_22 dX9_next_185 rfl rfl (by decide) (by decide) rfl rfl rfl rfl rfl (vok_a rfl) (by decide +kernel) (fun H45 L45 S45 P45 => ?_)
                have Lp188 : ∀ (n : Nat)  (H_188 : Heap) (L_188 : List Loc) (ls : Array Slot), (Sd D G [(2, 3), (2, 4), (2, 5), (2, 6)] s.heap H_188 L_188) → 401 - (fI D H_188 9 a0 5).toInt ≤ (n : Int) → lv_has ls 1 [(0, .ref a0)] → W p l e (rmU 0 0 0) s m args below meth c H_188 L_188 0 0 Q (F0 m 188 ls []) := by
                  intro n
                  induction n with
                  | zero =>
                    intro H_188 L_188 ls S_188 hn hl
                    have rz : 0 ≤ (fI D H_188 9 a0 5).toInt ∧ (fI D H_188 9 a0 5).toInt ≤ 400 := S_188.1.rng ga0 rfl (by decide) rfl
                    exact absurd hn (by omega)
                  | succ n ih188 =>
                    intro H_188 L_188 ls S_188 hn hl
                    refine lv_aload_n hx hb dX9_next_188 rfl (lv_at hl 0 rfl) ?_
                    refine q_gi (T := TX9) C S_188.1 ga0 5 kF_X9_28 dX9_next_189 rfl rfl (by decide) rfl (by decide) rfl ?_
                    have r46 : 0 ≤ (fI D H_188 9 a0 5).toInt ∧ (fI D H_188 9 a0 5).toInt ≤ 400 := S_188.1.rng ga0 rfl (by decide) rfl
                    refine lv_aload_n hx hb dX9_next_192 rfl (lv_at hl 0 rfl) ?_
                    refine q_gi (T := TX9) C S_188.1 ga0 1 kF_X9_15 dX9_next_193 rfl rfl (by decide) rfl (by decide) rfl ?_
                    have r47 : 0 ≤ (fI D H_188 9 a0 1).toInt ∧ (fI D H_188 9 a0 1).toInt ≤ 400 := S_188.1.rng ga0 rfl (by decide) rfl
                    refine lv_icmp_ge (tgt := 311) hx hb dX9_next_196 (by decide) (fun c48 => ?_) (fun c48 => ?_)
                    · have b48 : (fI D H_188 9 a0 1).toInt ≤ (fI D H_188 9 a0 5).toInt := i_le.mp c48
                      exact retE_v hQ C S_188 hr dX9_next_311 (trivial)
                    · have b48 : ¬ (fI D H_188 9 a0 1).toInt ≤ (fI D H_188 9 a0 5).toInt := fun z9 => c48 (i_le.mpr z9)
                      refine lv_aload_n hx hb dX9_next_199 rfl (lv_at hl 0 rfl) ?_
                      refine q_gr (T := TX9) C S_188.1 ga0 0 kF_X9_11 dX9_next_200 rfl rfl (by decide) rfl (by decide) rfl (fun g49 => ?_)
                      refine lv_aload_n hx hb dX9_next_203 rfl (lv_at hl 0 rfl) ?_
                      refine q_gi (T := TX9) C S_188.1 ga0 5 kF_X9_28 dX9_next_204 rfl rfl (by decide) rfl (by decide) rfl ?_
                      have n50 : aN H_188 (fR D H_188 9 a0 0) = 400 := len_3 S_188.1 g49
                      refine q_iald C S_188.1 g49 (by omega) (by omega) dX9_next_207 rfl (by decide) ?_
                      refine lv_topi (fun v51 ev51 => ?_)
                      refine lv_bipush (v := 48) hx hb dX9_next_208 (by decide) ?_
                      refine lv_icmp_lt (tgt := 311) hx hb dX9_next_210 (by decide) (fun c52 => ?_) (fun c52 => ?_)
                      · have b52 : v51.toInt < (48 : Int32).toInt := i_lt.mp c52
                        exact retE_v hQ C S_188 hr dX9_next_311 (trivial)
                      · have b52 : ¬ v51.toInt < (48 : Int32).toInt := fun z9 => c52 (i_lt.mpr z9)
                        refine lv_aload_n hx hb dX9_next_213 rfl (lv_at hl 0 rfl) ?_
                        refine q_gr (T := TX9) C S_188.1 ga0 0 kF_X9_11 dX9_next_214 rfl rfl (by decide) rfl (by decide) rfl (fun g53 => ?_)
                        refine lv_aload_n hx hb dX9_next_217 rfl (lv_at hl 0 rfl) ?_
                        refine q_gi (T := TX9) C S_188.1 ga0 5 kF_X9_28 dX9_next_218 rfl rfl (by decide) rfl (by decide) rfl ?_
                        refine q_iald C S_188.1 g53 (by omega) (by omega) dX9_next_221 rfl (by decide) ?_
                        refine lv_topi (fun v54 ev54 => ?_)
                        refine lv_bipush (v := 57) hx hb dX9_next_222 (by decide) ?_
                        refine lv_icmp_gt (tgt := 311) hx hb dX9_next_224 (by decide) (fun c55 => ?_) (fun c55 => ?_)
                        · have b55 : (57 : Int32).toInt < v54.toInt := i_lt.mp c55
                          exact retE_v hQ C S_188 hr dX9_next_311 (trivial)
                        · have b55 : ¬ (57 : Int32).toInt < v54.toInt := fun z9 => c55 (i_lt.mpr z9)
                          refine lv_aload_n hx hb dX9_next_227 rfl (lv_at hl 0 rfl) ?_
                          refine lv_aload_n hx hb dX9_next_228 rfl (lv_at hl 0 rfl) ?_
                          refine q_gi (T := TX9) C S_188.1 ga0 5 kF_X9_28 dX9_next_229 rfl rfl (by decide) rfl (by decide) rfl ?_
                          refine lv_aload_n hx hb dX9_next_232 rfl (lv_at hl 0 rfl) ?_
                          refine q_gi (T := TX9) C S_188.1 ga0 4 kF_X9_25 dX9_next_233 rfl rfl (by decide) rfl (by decide) rfl ?_
                          have r56 : 0 ≤ (fI D H_188 9 a0 4).toInt ∧ (fI D H_188 9 a0 4).toInt ≤ 400 := S_188.1.rng ga0 rfl (by decide) rfl
                          refine lv_isub hx hb dX9_next_236 ?_
                          refine lv_topi (fun v57 ev57 => ?_)
                          have f58 : v57.toInt = (fI D H_188 9 a0 5).toInt - (fI D H_188 9 a0 4).toInt := by rw [ev57]; exact i_sub (by omega) (by omega)
                          refine lv_iconst (v := 3) hx hb dX9_next_237 (by decide) ?_
                          have k_3 : (3 : Int32).toInt = 3 := by decide
                          refine lv_icmp_ge (tgt := 264) hx hb dX9_next_238 (by decide) (fun c59 => ?_) (fun c59 => ?_)
                          · have b59 : (3 : Int32).toInt ≤ v57.toInt := i_le.mp c59
                            refine lv_sipush (v := 1000) hx hb dX9_next_264 (by decide) ?_
                            have k_1000 : (1000 : Int32).toInt = 1000 := by decide
                            refine q_put (T := TX9) C S_188 ga0 6 kF_X9_31 dX9_next_267 rfl rfl (by decide) (by decide) rfl rfl rfl rfl rfl (vok_a rfl) (by decide +kernel) (fun H60 L60 S60 P60 => ?_)
                            refine lv_aload_n hx hb dX9_next_270 rfl (lv_at hl 0 rfl) ?_
                            refine lv_dup hx hb dX9_next_271 rfl ?_
                            refine q_gi (T := TX9) C S60.1 ga0 5 kF_X9_28 dX9_next_272 rfl rfl (by decide) rfl (by decide) rfl ?_
                            have c61 : (fI D H60 9 a0 5).toInt = (fI D H_188 9 a0 5).toInt := by rw [Pt.o P60 (by decide) (by decide)]
                            have r62 : 0 ≤ (fI D H60 9 a0 5).toInt ∧ (fI D H60 9 a0 5).toInt ≤ 400 := S60.1.rng ga0 rfl (by decide) rfl
                            refine lv_iconst (v := 1) hx hb dX9_next_275 (by decide) ?_
                            have k_1 : (1 : Int32).toInt = 1 := by decide
                            refine lv_iadd hx hb dX9_next_276 ?_
                            refine lv_topi (fun v63 ev63 => ?_)
                            have f64 : v63.toInt = (fI D H60 9 a0 5).toInt + (1 : Int32).toInt := by rw [ev63]; exact i_add (by omega) (by omega)
                            refine q_put (T := TX9) C S60 ga0 5 kF_X9_28 dX9_next_277 rfl rfl (by decide) (by decide) rfl rfl rfl rfl rfl (vok_i rfl (by omega) (by omega)) (by decide +kernel) (fun H65 L65 S65 P65 => ?_)
                            refine lv_goto (tgt := 188) hx hb dX9_next_280 (by decide) ?_
                            have bk : (fI D H65 9 a0 5).toInt = _ := congrArg Int32.toInt (Pt.i P65)
                            exact ih188  H65 L65 ls S65  (by omega) (lv_sub hl [0] rfl)
                          · have b59 : ¬ (3 : Int32).toInt ≤ v57.toInt := fun z9 => c59 (i_le.mpr z9)
                            refine lv_aload_n hx hb dX9_next_241 rfl (lv_at hl 0 rfl) ?_
                            refine q_gi (T := TX9) C S_188.1 ga0 6 kF_X9_31 dX9_next_242 rfl rfl (by decide) rfl (by decide) rfl ?_
                            refine lv_bipush (v := 10) hx hb dX9_next_245 (by decide) ?_
                            have k_10 : (10 : Int32).toInt = 10 := by decide
                            refine lv_imul hx hb dX9_next_247 ?_
                            refine lv_topi (fun v66 ev66 => ?_)
                            refine lv_aload_n hx hb dX9_next_248 rfl (lv_at hl 0 rfl) ?_
                            refine q_gr (T := TX9) C S_188.1 ga0 0 kF_X9_11 dX9_next_249 rfl rfl (by decide) rfl (by decide) rfl (fun g67 => ?_)
                            refine lv_aload_n hx hb dX9_next_252 rfl (lv_at hl 0 rfl) ?_
                            refine q_gi (T := TX9) C S_188.1 ga0 5 kF_X9_28 dX9_next_253 rfl rfl (by decide) rfl (by decide) rfl ?_
                            refine q_iald C S_188.1 g67 (by omega) (by omega) dX9_next_256 rfl (by decide) ?_
                            refine lv_topi (fun v68 ev68 => ?_)
                            refine lv_iadd hx hb dX9_next_257 ?_
                            refine lv_topi (fun v69 ev69 => ?_)
                            refine lv_bipush (v := 48) hx hb dX9_next_258 (by decide) ?_
                            refine lv_isub hx hb dX9_next_260 ?_
                            refine lv_topi (fun v70 ev70 => ?_)
                            refine lv_goto (tgt := 267) hx hb dX9_next_261 (by decide) ?_
                            refine q_put (T := TX9) C S_188 ga0 6 kF_X9_31 dX9_next_267 rfl rfl (by decide) (by decide) rfl rfl rfl rfl rfl (vok_a rfl) (by decide +kernel) (fun H71 L71 S71 P71 => ?_)
                            refine lv_aload_n hx hb dX9_next_270 rfl (lv_at hl 0 rfl) ?_
                            refine lv_dup hx hb dX9_next_271 rfl ?_
                            refine q_gi (T := TX9) C S71.1 ga0 5 kF_X9_28 dX9_next_272 rfl rfl (by decide) rfl (by decide) rfl ?_
                            have c72 : (fI D H71 9 a0 5).toInt = (fI D H_188 9 a0 5).toInt := by rw [Pt.o P71 (by decide) (by decide)]
                            have r73 : 0 ≤ (fI D H71 9 a0 5).toInt ∧ (fI D H71 9 a0 5).toInt ≤ 400 := S71.1.rng ga0 rfl (by decide) rfl
                            refine lv_iconst (v := 1) hx hb dX9_next_275 (by decide) ?_
                            have k_1 : (1 : Int32).toInt = 1 := by decide
                            refine lv_iadd hx hb dX9_next_276 ?_
                            refine lv_topi (fun v74 ev74 => ?_)
                            have f75 : v74.toInt = (fI D H71 9 a0 5).toInt + (1 : Int32).toInt := by rw [ev74]; exact i_add (by omega) (by omega)
                            refine q_put (T := TX9) C S71 ga0 5 kF_X9_28 dX9_next_277 rfl rfl (by decide) (by decide) rfl rfl rfl rfl rfl (vok_i rfl (by omega) (by omega)) (by decide +kernel) (fun H76 L76 S76 P76 => ?_)
                            refine lv_goto (tgt := 188) hx hb dX9_next_280 (by decide) ?_
                            have bk : (fI D H76 9 a0 5).toInt = _ := congrArg Int32.toInt (Pt.i P76)
                            exact ih188  H76 L76 ls S76  (by omega) (lv_sub hl [0] rfl)
                have rn : 0 ≤ (fI D H45 9 a0 5).toInt ∧ (fI D H45 9 a0 5).toInt ≤ 400 := S45.1.rng ga0 rfl (by decide) rfl
                exact Lp188 402  H45 L45 ls S45   (by omega) (lv_sub hl [0] rfl)
          · have b14 : ¬ v13.toInt < (97 : Int32).toInt := fun z9 => c14 (i_lt.mpr z9)
            refine lv_aload_n hx hb dX9_next_84 rfl (lv_at hl 0 rfl) ?_
            refine q_gr (T := TX9) C S5.1 ga0 0 kF_X9_11 dX9_next_85 rfl rfl (by decide) rfl (by decide) rfl (fun g77 => ?_)
            refine lv_aload_n hx hb dX9_next_88 rfl (lv_at hl 0 rfl) ?_
            refine q_gi (T := TX9) C S5.1 ga0 5 kF_X9_28 dX9_next_89 rfl rfl (by decide) rfl (by decide) rfl ?_
            refine q_iald C S5.1 g77 (by omega) (by omega) dX9_next_92 rfl (by decide) ?_
            refine lv_topi (fun v78 ev78 => ?_)
            refine lv_bipush (v := 122) hx hb dX9_next_93 (by decide) ?_
            have k_122 : (122 : Int32).toInt = 122 := by decide
            refine lv_icmp_gt (tgt := 155) hx hb dX9_next_95 (by decide) (fun c79 => ?_) (fun c79 => ?_)
            · have b79 : (122 : Int32).toInt < v78.toInt := i_lt.mp c79
              refine lv_aload_n hx hb dX9_next_155 rfl (lv_at hl 0 rfl) ?_
              refine q_gr (T := TX9) C S5.1 ga0 0 kF_X9_11 dX9_next_156 rfl rfl (by decide) rfl (by decide) rfl (fun g80 => ?_)
              refine lv_aload_n hx hb dX9_next_159 rfl (lv_at hl 0 rfl) ?_
              refine q_gi (T := TX9) C S5.1 ga0 5 kF_X9_28 dX9_next_160 rfl rfl (by decide) rfl (by decide) rfl ?_
              refine q_iald C S5.1 g80 (by omega) (by omega) dX9_next_163 rfl (by decide) ?_
              refine lv_topi (fun v81 ev81 => ?_)
              refine lv_bipush (v := 48) hx hb dX9_next_164 (by decide) ?_
              have k_48 : (48 : Int32).toInt = 48 := by decide
              refine lv_icmp_lt (tgt := 283) hx hb dX9_next_166 (by decide) (fun c82 => ?_) (fun c82 => ?_)
              · have b82 : v81.toInt < (48 : Int32).toInt := i_lt.mp c82
                refine lv_aload_n hx hb dX9_next_283 rfl (lv_at hl 0 rfl) ?_
                refine lv_iconst (v := 3) hx hb dX9_next_284 (by decide) ?_
                have k_3 : (3 : Int32).toInt = 3 := by decide
                refine q_put (T := TX9) C S5 ga0 3 kF_X9_22 dX9_next_285 rfl rfl (by decide) (by decide) rfl rfl rfl rfl rfl (vok_a rfl) (by decide +kernel) (fun H83 L83 S83 P83 => ?_)
                refine lv_aload_n hx hb dX9_next_288 rfl (lv_at hl 0 rfl) ?_
                refine lv_aload_n hx hb dX9_next_289 rfl (lv_at hl 0 rfl) ?_
                refine q_gr (T := TX9) C S83.1 ga0 0 kF_X9_11 dX9_next_290 rfl rfl (by decide) rfl (by decide) rfl (fun g84 => ?_)
                refine lv_aload_n hx hb dX9_next_293 rfl (lv_at hl 0 rfl) ?_
                refine q_gi (T := TX9) C S83.1 ga0 5 kF_X9_28 dX9_next_294 rfl rfl (by decide) rfl (by decide) rfl ?_
                have c85 : (fI D H83 9 a0 5).toInt = (fI D H5 9 a0 5).toInt := by rw [Pt.o P83 (by decide) (by decide)]
                have r86 : 0 ≤ (fI D H83 9 a0 5).toInt ∧ (fI D H83 9 a0 5).toInt ≤ 400 := S83.1.rng ga0 rfl (by decide) rfl
                have n87 : aN H83 (fR D H83 9 a0 0) = 400 := len_3 S83.1 g84
                refine q_iald C S83.1 g84 (by omega) (by omega) dX9_next_297 rfl (by decide) ?_
                refine lv_topi (fun v88 ev88 => ?_)
                refine q_put (T := TX9) C S83 ga0 6 kF_X9_31 dX9_next_298 rfl rfl (by decide) (by decide) rfl rfl rfl rfl rfl (vok_a rfl) (by decide +kernel) (fun H89 L89 S89 P89 => ?_)
                refine lv_aload_n hx hb dX9_next_301 rfl (lv_at hl 0 rfl) ?_
                refine lv_dup hx hb dX9_next_302 rfl ?_
                refine q_gi (T := TX9) C S89.1 ga0 5 kF_X9_28 dX9_next_303 rfl rfl (by decide) rfl (by decide) rfl ?_
                have c90 : (fI D H89 9 a0 5).toInt = (fI D H83 9 a0 5).toInt := by rw [Pt.o P89 (by decide) (by decide)]
                have r91 : 0 ≤ (fI D H89 9 a0 5).toInt ∧ (fI D H89 9 a0 5).toInt ≤ 400 := S89.1.rng ga0 rfl (by decide) rfl
                refine lv_iconst (v := 1) hx hb dX9_next_306 (by decide) ?_
                have k_1 : (1 : Int32).toInt = 1 := by decide
                refine lv_iadd hx hb dX9_next_307 ?_
                refine lv_topi (fun v92 ev92 => ?_)
                have f93 : v92.toInt = (fI D H89 9 a0 5).toInt + (1 : Int32).toInt := by rw [ev92]; exact i_add (by omega) (by omega)
                refine q_put (T := TX9) C S89 ga0 5 kF_X9_28 dX9_next_308 rfl rfl (by decide) (by decide) rfl rfl rfl rfl rfl (vok_i rfl (by omega) (by omega)) (by decide +kernel) (fun H94 L94 S94 P94 => ?_)
                exact retE_v hQ C S94 hr dX9_next_311 (trivial)
              · have b82 : ¬ v81.toInt < (48 : Int32).toInt := fun z9 => c82 (i_lt.mpr z9)
                refine lv_aload_n hx hb dX9_next_169 rfl (lv_at hl 0 rfl) ?_
                refine q_gr (T := TX9) C S5.1 ga0 0 kF_X9_11 dX9_next_170 rfl rfl (by decide) rfl (by decide) rfl (fun g95 => ?_)
                refine lv_aload_n hx hb dX9_next_173 rfl (lv_at hl 0 rfl) ?_
                refine q_gi (T := TX9) C S5.1 ga0 5 kF_X9_28 dX9_next_174 rfl rfl (by decide) rfl (by decide) rfl ?_
                refine q_iald C S5.1 g95 (by omega) (by omega) dX9_next_177 rfl (by decide) ?_
                refine lv_topi (fun v96 ev96 => ?_)
                refine lv_bipush (v := 57) hx hb dX9_next_178 (by decide) ?_
                have k_57 : (57 : Int32).toInt = 57 := by decide
                refine lv_icmp_gt (tgt := 283) hx hb dX9_next_180 (by decide) (fun c97 => ?_) (fun c97 => ?_)
                · have b97 : (57 : Int32).toInt < v96.toInt := i_lt.mp c97
                  refine lv_aload_n hx hb dX9_next_283 rfl (lv_at hl 0 rfl) ?_
                  refine lv_iconst (v := 3) hx hb dX9_next_284 (by decide) ?_
                  have k_3 : (3 : Int32).toInt = 3 := by decide
                  refine q_put (T := TX9) C S5 ga0 3 kF_X9_22 dX9_next_285 rfl rfl (by decide) (by decide) rfl rfl rfl rfl rfl (vok_a rfl) (by decide +kernel) (fun H98 L98 S98 P98 => ?_)
                  refine lv_aload_n hx hb dX9_next_288 rfl (lv_at hl 0 rfl) ?_
                  refine lv_aload_n hx hb dX9_next_289 rfl (lv_at hl 0 rfl) ?_
                  refine q_gr (T := TX9) C S98.1 ga0 0 kF_X9_11 dX9_next_290 rfl rfl (by decide) rfl (by decide) rfl (fun g99 => ?_)
                  refine lv_aload_n hx hb dX9_next_293 rfl (lv_at hl 0 rfl) ?_
                  refine q_gi (T := TX9) C S98.1 ga0 5 kF_X9_28 dX9_next_294 rfl rfl (by decide) rfl (by decide) rfl ?_
                  have c100 : (fI D H98 9 a0 5).toInt = (fI D H5 9 a0 5).toInt := by rw [Pt.o P98 (by decide) (by decide)]
                  have r101 : 0 ≤ (fI D H98 9 a0 5).toInt ∧ (fI D H98 9 a0 5).toInt ≤ 400 := S98.1.rng ga0 rfl (by decide) rfl
                  have n102 : aN H98 (fR D H98 9 a0 0) = 400 := len_3 S98.1 g99
                  refine q_iald C S98.1 g99 (by omega) (by omega) dX9_next_297 rfl (by decide) ?_
                  refine lv_topi (fun v103 ev103 => ?_)
                  refine q_put (T := TX9) C S98 ga0 6 kF_X9_31 dX9_next_298 rfl rfl (by decide) (by decide) rfl rfl rfl rfl rfl (vok_a rfl) (by decide +kernel) (fun H104 L104 S104 P104 => ?_)
                  refine lv_aload_n hx hb dX9_next_301 rfl (lv_at hl 0 rfl) ?_
                  refine lv_dup hx hb dX9_next_302 rfl ?_
                  refine q_gi (T := TX9) C S104.1 ga0 5 kF_X9_28 dX9_next_303 rfl rfl (by decide) rfl (by decide) rfl ?_
                  have c105 : (fI D H104 9 a0 5).toInt = (fI D H98 9 a0 5).toInt := by rw [Pt.o P104 (by decide) (by decide)]
                  have r106 : 0 ≤ (fI D H104 9 a0 5).toInt ∧ (fI D H104 9 a0 5).toInt ≤ 400 := S104.1.rng ga0 rfl (by decide) rfl
                  refine lv_iconst (v := 1) hx hb dX9_next_306 (by decide) ?_
                  have k_1 : (1 : Int32).toInt = 1 := by decide
                  refine lv_iadd hx hb dX9_next_307 ?_
                  refine lv_topi (fun v107 ev107 => ?_)
                  have f108 : v107.toInt = (fI D H104 9 a0 5).toInt + (1 : Int32).toInt := by rw [ev107]; exact i_add (by omega) (by omega)
                  refine q_put (T := TX9) C S104 ga0 5 kF_X9_28 dX9_next_308 rfl rfl (by decide) (by decide) rfl rfl rfl rfl rfl (vok_i rfl (by omega) (by omega)) (by decide +kernel) (fun H109 L109 S109 P109 => ?_)
                  exact retE_v hQ C S109 hr dX9_next_311 (trivial)
                · have b97 : ¬ (57 : Int32).toInt < v96.toInt := fun z9 => c97 (i_lt.mpr z9)
                  refine lv_aload_n hx hb dX9_next_183 rfl (lv_at hl 0 rfl) ?_
                  refine lv_iconst (v := 2) hx hb dX9_next_184 (by decide) ?_
                  have k_2 : (2 : Int32).toInt = 2 := by decide
                  refine q_put (T := TX9) C S5 ga0 3 kF_X9_22 dX9_next_185 rfl rfl (by decide) (by decide) rfl rfl rfl rfl rfl (vok_a rfl) (by decide +kernel) (fun H110 L110 S110 P110 => ?_)
                  have Lp188 : ∀ (n : Nat)  (H_188 : Heap) (L_188 : List Loc) (ls : Array Slot), (Sd D G [(2, 3), (2, 4), (2, 5), (2, 6)] s.heap H_188 L_188) → 401 - (fI D H_188 9 a0 5).toInt ≤ (n : Int) → lv_has ls 1 [(0, .ref a0)] → W p l e (rmU 0 0 0) s m args below meth c H_188 L_188 0 0 Q (F0 m 188 ls []) := by
                    intro n
                    induction n with
                    | zero =>
                      intro H_188 L_188 ls S_188 hn hl
                      have rz : 0 ≤ (fI D H_188 9 a0 5).toInt ∧ (fI D H_188 9 a0 5).toInt ≤ 400 := S_188.1.rng ga0 rfl (by decide) rfl
                      exact absurd hn (by omega)
                    | succ n ih188 =>
                      intro H_188 L_188 ls S_188 hn hl
                      refine lv_aload_n hx hb dX9_next_188 rfl (lv_at hl 0 rfl) ?_
                      refine q_gi (T := TX9) C S_188.1 ga0 5 kF_X9_28 dX9_next_189 rfl rfl (by decide) rfl (by decide) rfl ?_
                      have r111 : 0 ≤ (fI D H_188 9 a0 5).toInt ∧ (fI D H_188 9 a0 5).toInt ≤ 400 := S_188.1.rng ga0 rfl (by decide) rfl
                      refine lv_aload_n hx hb dX9_next_192 rfl (lv_at hl 0 rfl) ?_
                      refine q_gi (T := TX9) C S_188.1 ga0 1 kF_X9_15 dX9_next_193 rfl rfl (by decide) rfl (by decide) rfl ?_
                      have r112 : 0 ≤ (fI D H_188 9 a0 1).toInt ∧ (fI D H_188 9 a0 1).toInt ≤ 400 := S_188.1.rng ga0 rfl (by decide) rfl
                      refine lv_icmp_ge (tgt := 311) hx hb dX9_next_196 (by decide) (fun c113 => ?_) (fun c113 => ?_)
                      · have b113 : (fI D H_188 9 a0 1).toInt ≤ (fI D H_188 9 a0 5).toInt := i_le.mp c113
                        exact retE_v hQ C S_188 hr dX9_next_311 (trivial)
                      · have b113 : ¬ (fI D H_188 9 a0 1).toInt ≤ (fI D H_188 9 a0 5).toInt := fun z9 => c113 (i_le.mpr z9)
                        refine lv_aload_n hx hb dX9_next_199 rfl (lv_at hl 0 rfl) ?_
                        refine q_gr (T := TX9) C S_188.1 ga0 0 kF_X9_11 dX9_next_200 rfl rfl (by decide) rfl (by decide) rfl (fun g114 => ?_)
                        refine lv_aload_n hx hb dX9_next_203 rfl (lv_at hl 0 rfl) ?_
                        refine q_gi (T := TX9) C S_188.1 ga0 5 kF_X9_28 dX9_next_204 rfl rfl (by decide) rfl (by decide) rfl ?_
                        have n115 : aN H_188 (fR D H_188 9 a0 0) = 400 := len_3 S_188.1 g114
                        refine q_iald C S_188.1 g114 (by omega) (by omega) dX9_next_207 rfl (by decide) ?_
                        refine lv_topi (fun v116 ev116 => ?_)
                        refine lv_bipush (v := 48) hx hb dX9_next_208 (by decide) ?_
                        refine lv_icmp_lt (tgt := 311) hx hb dX9_next_210 (by decide) (fun c117 => ?_) (fun c117 => ?_)
                        · have b117 : v116.toInt < (48 : Int32).toInt := i_lt.mp c117
                          exact retE_v hQ C S_188 hr dX9_next_311 (trivial)
                        · have b117 : ¬ v116.toInt < (48 : Int32).toInt := fun z9 => c117 (i_lt.mpr z9)
                          refine lv_aload_n hx hb dX9_next_213 rfl (lv_at hl 0 rfl) ?_
                          refine q_gr (T := TX9) C S_188.1 ga0 0 kF_X9_11 dX9_next_214 rfl rfl (by decide) rfl (by decide) rfl (fun g118 => ?_)
                          refine lv_aload_n hx hb dX9_next_217 rfl (lv_at hl 0 rfl) ?_
                          refine q_gi (T := TX9) C S_188.1 ga0 5 kF_X9_28 dX9_next_218 rfl rfl (by decide) rfl (by decide) rfl ?_
                          refine q_iald C S_188.1 g118 (by omega) (by omega) dX9_next_221 rfl (by decide) ?_
                          refine lv_topi (fun v119 ev119 => ?_)
                          refine lv_bipush (v := 57) hx hb dX9_next_222 (by decide) ?_
                          refine lv_icmp_gt (tgt := 311) hx hb dX9_next_224 (by decide) (fun c120 => ?_) (fun c120 => ?_)
                          · have b120 : (57 : Int32).toInt < v119.toInt := i_lt.mp c120
                            exact retE_v hQ C S_188 hr dX9_next_311 (trivial)
                          · have b120 : ¬ (57 : Int32).toInt < v119.toInt := fun z9 => c120 (i_lt.mpr z9)
                            refine lv_aload_n hx hb dX9_next_227 rfl (lv_at hl 0 rfl) ?_
                            refine lv_aload_n hx hb dX9_next_228 rfl (lv_at hl 0 rfl) ?_
                            refine q_gi (T := TX9) C S_188.1 ga0 5 kF_X9_28 dX9_next_229 rfl rfl (by decide) rfl (by decide) rfl ?_
                            refine lv_aload_n hx hb dX9_next_232 rfl (lv_at hl 0 rfl) ?_
                            refine q_gi (T := TX9) C S_188.1 ga0 4 kF_X9_25 dX9_next_233 rfl rfl (by decide) rfl (by decide) rfl ?_
                            have r121 : 0 ≤ (fI D H_188 9 a0 4).toInt ∧ (fI D H_188 9 a0 4).toInt ≤ 400 := S_188.1.rng ga0 rfl (by decide) rfl
                            refine lv_isub hx hb dX9_next_236 ?_
                            refine lv_topi (fun v122 ev122 => ?_)
                            have f123 : v122.toInt = (fI D H_188 9 a0 5).toInt - (fI D H_188 9 a0 4).toInt := by rw [ev122]; exact i_sub (by omega) (by omega)
                            refine lv_iconst (v := 3) hx hb dX9_next_237 (by decide) ?_
                            have k_3 : (3 : Int32).toInt = 3 := by decide
                            refine lv_icmp_ge (tgt := 264) hx hb dX9_next_238 (by decide) (fun c124 => ?_) (fun c124 => ?_)
                            · have b124 : (3 : Int32).toInt ≤ v122.toInt := i_le.mp c124
                              refine lv_sipush (v := 1000) hx hb dX9_next_264 (by decide) ?_
                              have k_1000 : (1000 : Int32).toInt = 1000 := by decide
                              refine q_put (T := TX9) C S_188 ga0 6 kF_X9_31 dX9_next_267 rfl rfl (by decide) (by decide) rfl rfl rfl rfl rfl (vok_a rfl) (by decide +kernel) (fun H125 L125 S125 P125 => ?_)
                              refine lv_aload_n hx hb dX9_next_270 rfl (lv_at hl 0 rfl) ?_
                              refine lv_dup hx hb dX9_next_271 rfl ?_
                              refine q_gi (T := TX9) C S125.1 ga0 5 kF_X9_28 dX9_next_272 rfl rfl (by decide) rfl (by decide) rfl ?_
                              have c126 : (fI D H125 9 a0 5).toInt = (fI D H_188 9 a0 5).toInt := by rw [Pt.o P125 (by decide) (by decide)]
                              have r127 : 0 ≤ (fI D H125 9 a0 5).toInt ∧ (fI D H125 9 a0 5).toInt ≤ 400 := S125.1.rng ga0 rfl (by decide) rfl
                              refine lv_iconst (v := 1) hx hb dX9_next_275 (by decide) ?_
                              have k_1 : (1 : Int32).toInt = 1 := by decide
                              refine lv_iadd hx hb dX9_next_276 ?_
                              refine lv_topi (fun v128 ev128 => ?_)
                              have f129 : v128.toInt = (fI D H125 9 a0 5).toInt + (1 : Int32).toInt := by rw [ev128]; exact i_add (by omega) (by omega)
                              refine q_put (T := TX9) C S125 ga0 5 kF_X9_28 dX9_next_277 rfl rfl (by decide) (by decide) rfl rfl rfl rfl rfl (vok_i rfl (by omega) (by omega)) (by decide +kernel) (fun H130 L130 S130 P130 => ?_)
                              refine lv_goto (tgt := 188) hx hb dX9_next_280 (by decide) ?_
                              have bk : (fI D H130 9 a0 5).toInt = _ := congrArg Int32.toInt (Pt.i P130)
                              exact ih188  H130 L130 ls S130  (by omega) (lv_sub hl [0] rfl)
                            · have b124 : ¬ (3 : Int32).toInt ≤ v122.toInt := fun z9 => c124 (i_le.mpr z9)
                              refine lv_aload_n hx hb dX9_next_241 rfl (lv_at hl 0 rfl) ?_
                              refine q_gi (T := TX9) C S_188.1 ga0 6 kF_X9_31 dX9_next_242 rfl rfl (by decide) rfl (by decide) rfl ?_
                              refine lv_bipush (v := 10) hx hb dX9_next_245 (by decide) ?_
                              have k_10 : (10 : Int32).toInt = 10 := by decide
                              refine lv_imul hx hb dX9_next_247 ?_
                              refine lv_topi (fun v131 ev131 => ?_)
                              refine lv_aload_n hx hb dX9_next_248 rfl (lv_at hl 0 rfl) ?_
                              refine q_gr (T := TX9) C S_188.1 ga0 0 kF_X9_11 dX9_next_249 rfl rfl (by decide) rfl (by decide) rfl (fun g132 => ?_)
                              refine lv_aload_n hx hb dX9_next_252 rfl (lv_at hl 0 rfl) ?_
                              refine q_gi (T := TX9) C S_188.1 ga0 5 kF_X9_28 dX9_next_253 rfl rfl (by decide) rfl (by decide) rfl ?_
                              refine q_iald C S_188.1 g132 (by omega) (by omega) dX9_next_256 rfl (by decide) ?_
                              refine lv_topi (fun v133 ev133 => ?_)
                              refine lv_iadd hx hb dX9_next_257 ?_
                              refine lv_topi (fun v134 ev134 => ?_)
                              refine lv_bipush (v := 48) hx hb dX9_next_258 (by decide) ?_
                              refine lv_isub hx hb dX9_next_260 ?_
                              refine lv_topi (fun v135 ev135 => ?_)
                              refine lv_goto (tgt := 267) hx hb dX9_next_261 (by decide) ?_
                              refine q_put (T := TX9) C S_188 ga0 6 kF_X9_31 dX9_next_267 rfl rfl (by decide) (by decide) rfl rfl rfl rfl rfl (vok_a rfl) (by decide +kernel) (fun H136 L136 S136 P136 => ?_)
                              refine lv_aload_n hx hb dX9_next_270 rfl (lv_at hl 0 rfl) ?_
                              refine lv_dup hx hb dX9_next_271 rfl ?_
                              refine q_gi (T := TX9) C S136.1 ga0 5 kF_X9_28 dX9_next_272 rfl rfl (by decide) rfl (by decide) rfl ?_
                              have c137 : (fI D H136 9 a0 5).toInt = (fI D H_188 9 a0 5).toInt := by rw [Pt.o P136 (by decide) (by decide)]
                              have r138 : 0 ≤ (fI D H136 9 a0 5).toInt ∧ (fI D H136 9 a0 5).toInt ≤ 400 := S136.1.rng ga0 rfl (by decide) rfl
                              refine lv_iconst (v := 1) hx hb dX9_next_275 (by decide) ?_
                              have k_1 : (1 : Int32).toInt = 1 := by decide
                              refine lv_iadd hx hb dX9_next_276 ?_
                              refine lv_topi (fun v139 ev139 => ?_)
                              have f140 : v139.toInt = (fI D H136 9 a0 5).toInt + (1 : Int32).toInt := by rw [ev139]; exact i_add (by omega) (by omega)
                              refine q_put (T := TX9) C S136 ga0 5 kF_X9_28 dX9_next_277 rfl rfl (by decide) (by decide) rfl rfl rfl rfl rfl (vok_i rfl (by omega) (by omega)) (by decide +kernel) (fun H141 L141 S141 P141 => ?_)
                              refine lv_goto (tgt := 188) hx hb dX9_next_280 (by decide) ?_
                              have bk : (fI D H141 9 a0 5).toInt = _ := congrArg Int32.toInt (Pt.i P141)
                              exact ih188  H141 L141 ls S141  (by omega) (lv_sub hl [0] rfl)
                  have rn : 0 ≤ (fI D H110 9 a0 5).toInt ∧ (fI D H110 9 a0 5).toInt ≤ 400 := S110.1.rng ga0 rfl (by decide) rfl
                  exact Lp188 402  H110 L110 ls S110   (by omega) (lv_sub hl [0] rfl)
            · have b79 : ¬ (122 : Int32).toInt < v78.toInt := fun z9 => c79 (i_lt.mpr z9)
              refine lv_aload_n hx hb dX9_next_98 rfl (lv_at hl 0 rfl) ?_
              refine lv_iconst (v := 1) hx hb dX9_next_99 (by decide) ?_
              have k_1 : (1 : Int32).toInt = 1 := by decide
              refine q_put (T := TX9) C S5 ga0 3 kF_X9_22 dX9_next_100 rfl rfl (by decide) (by decide) rfl rfl rfl rfl rfl (vok_a rfl) (by decide +kernel) (fun H142 L142 S142 P142 => ?_)
              have Lp103 : ∀ (n : Nat)  (H_103 : Heap) (L_103 : List Loc) (ls : Array Slot), (Sd D G [(2, 3), (2, 4), (2, 5), (2, 6)] s.heap H_103 L_103) → 401 - (fI D H_103 9 a0 5).toInt ≤ (n : Int) → lv_has ls 1 [(0, .ref a0)] → W p l e (rmU 0 0 0) s m args below meth c H_103 L_103 0 0 Q (F0 m 103 ls []) := by
                intro n
                induction n with
                | zero =>
                  intro H_103 L_103 ls S_103 hn hl
                  have rz : 0 ≤ (fI D H_103 9 a0 5).toInt ∧ (fI D H_103 9 a0 5).toInt ≤ 400 := S_103.1.rng ga0 rfl (by decide) rfl
                  exact absurd hn (by omega)
                | succ n ih103 =>
                  intro H_103 L_103 ls S_103 hn hl
                  refine lv_aload_n hx hb dX9_next_103 rfl (lv_at hl 0 rfl) ?_
                  refine q_gi (T := TX9) C S_103.1 ga0 5 kF_X9_28 dX9_next_104 rfl rfl (by decide) rfl (by decide) rfl ?_
                  have r143 : 0 ≤ (fI D H_103 9 a0 5).toInt ∧ (fI D H_103 9 a0 5).toInt ≤ 400 := S_103.1.rng ga0 rfl (by decide) rfl
                  refine lv_aload_n hx hb dX9_next_107 rfl (lv_at hl 0 rfl) ?_
                  refine q_gi (T := TX9) C S_103.1 ga0 1 kF_X9_15 dX9_next_108 rfl rfl (by decide) rfl (by decide) rfl ?_
                  have r144 : 0 ≤ (fI D H_103 9 a0 1).toInt ∧ (fI D H_103 9 a0 1).toInt ≤ 400 := S_103.1.rng ga0 rfl (by decide) rfl
                  refine lv_icmp_ge (tgt := 311) hx hb dX9_next_111 (by decide) (fun c145 => ?_) (fun c145 => ?_)
                  · have b145 : (fI D H_103 9 a0 1).toInt ≤ (fI D H_103 9 a0 5).toInt := i_le.mp c145
                    exact retE_v hQ C S_103 hr dX9_next_311 (trivial)
                  · have b145 : ¬ (fI D H_103 9 a0 1).toInt ≤ (fI D H_103 9 a0 5).toInt := fun z9 => c145 (i_le.mpr z9)
                    refine lv_aload_n hx hb dX9_next_114 rfl (lv_at hl 0 rfl) ?_
                    refine q_gr (T := TX9) C S_103.1 ga0 0 kF_X9_11 dX9_next_115 rfl rfl (by decide) rfl (by decide) rfl (fun g146 => ?_)
                    refine lv_aload_n hx hb dX9_next_118 rfl (lv_at hl 0 rfl) ?_
                    refine q_gi (T := TX9) C S_103.1 ga0 5 kF_X9_28 dX9_next_119 rfl rfl (by decide) rfl (by decide) rfl ?_
                    have n147 : aN H_103 (fR D H_103 9 a0 0) = 400 := len_3 S_103.1 g146
                    refine q_iald C S_103.1 g146 (by omega) (by omega) dX9_next_122 rfl (by decide) ?_
                    refine lv_topi (fun v148 ev148 => ?_)
                    refine lv_bipush (v := 97) hx hb dX9_next_123 (by decide) ?_
                    refine lv_icmp_lt (tgt := 311) hx hb dX9_next_125 (by decide) (fun c149 => ?_) (fun c149 => ?_)
                    · have b149 : v148.toInt < (97 : Int32).toInt := i_lt.mp c149
                      exact retE_v hQ C S_103 hr dX9_next_311 (trivial)
                    · have b149 : ¬ v148.toInt < (97 : Int32).toInt := fun z9 => c149 (i_lt.mpr z9)
                      refine lv_aload_n hx hb dX9_next_128 rfl (lv_at hl 0 rfl) ?_
                      refine q_gr (T := TX9) C S_103.1 ga0 0 kF_X9_11 dX9_next_129 rfl rfl (by decide) rfl (by decide) rfl (fun g150 => ?_)
                      refine lv_aload_n hx hb dX9_next_132 rfl (lv_at hl 0 rfl) ?_
                      refine q_gi (T := TX9) C S_103.1 ga0 5 kF_X9_28 dX9_next_133 rfl rfl (by decide) rfl (by decide) rfl ?_
                      refine q_iald C S_103.1 g150 (by omega) (by omega) dX9_next_136 rfl (by decide) ?_
                      refine lv_topi (fun v151 ev151 => ?_)
                      refine lv_bipush (v := 122) hx hb dX9_next_137 (by decide) ?_
                      refine lv_icmp_gt (tgt := 311) hx hb dX9_next_139 (by decide) (fun c152 => ?_) (fun c152 => ?_)
                      · have b152 : (122 : Int32).toInt < v151.toInt := i_lt.mp c152
                        exact retE_v hQ C S_103 hr dX9_next_311 (trivial)
                      · have b152 : ¬ (122 : Int32).toInt < v151.toInt := fun z9 => c152 (i_lt.mpr z9)
                        refine lv_aload_n hx hb dX9_next_142 rfl (lv_at hl 0 rfl) ?_
                        refine lv_dup hx hb dX9_next_143 rfl ?_
                        refine q_gi (T := TX9) C S_103.1 ga0 5 kF_X9_28 dX9_next_144 rfl rfl (by decide) rfl (by decide) rfl ?_
                        refine lv_iconst (v := 1) hx hb dX9_next_147 (by decide) ?_
                        refine lv_iadd hx hb dX9_next_148 ?_
                        refine lv_topi (fun v153 ev153 => ?_)
                        have f154 : v153.toInt = (fI D H_103 9 a0 5).toInt + (1 : Int32).toInt := by rw [ev153]; exact i_add (by omega) (by omega)
                        refine q_put (T := TX9) C S_103 ga0 5 kF_X9_28 dX9_next_149 rfl rfl (by decide) (by decide) rfl rfl rfl rfl rfl (vok_i rfl (by omega) (by omega)) (by decide +kernel) (fun H155 L155 S155 P155 => ?_)
                        refine lv_goto (tgt := 103) hx hb dX9_next_152 (by decide) ?_
                        have bk : (fI D H155 9 a0 5).toInt = _ := congrArg Int32.toInt (Pt.i P155)
                        exact ih103  H155 L155 ls S155  (by omega) (lv_sub hl [0] rfl)
              have rn : 0 ≤ (fI D H142 9 a0 5).toInt ∧ (fI D H142 9 a0 5).toInt ≤ 400 := S142.1.rng ga0 rfl (by decide) rfl
              exact Lp103 402  H142 L142 ls S142   (by omega) (lv_sub hl [0] rfl)
        · have b10 : ¬ (fI D H5 9 a0 5).toInt < (fI D H5 9 a0 1).toInt := fun z9 => c10 (i_lt.mpr z9)
          refine lv_aload_n hx hb dX9_next_62 rfl (lv_at hl 0 rfl) ?_
          refine lv_iconst (v := 0) hx hb dX9_next_63 (by decide) ?_
          refine q_put (T := TX9) C S5 ga0 3 kF_X9_22 dX9_next_64 rfl rfl (by decide) (by decide) rfl rfl rfl rfl rfl (vok_a rfl) (by decide +kernel) (fun H156 L156 S156 P156 => ?_)
          refine lv_goto (tgt := 311) hx hb dX9_next_67 (by decide) ?_
          exact retE_v hQ C S156 hr dX9_next_311 (trivial)
      · have b3 : ¬ (fI D H_0 9 a0 1).toInt ≤ (fI D H_0 9 a0 5).toInt := fun z9 => c3 (i_le.mpr z9)
        refine lv_aload_n hx hb dX9_next_11 rfl (lv_at hl 0 rfl) ?_
        refine q_gr (T := TX9) C S_0.1 ga0 0 kF_X9_11 dX9_next_12 rfl rfl (by decide) rfl (by decide) rfl (fun g157 => ?_)
        refine lv_aload_n hx hb dX9_next_15 rfl (lv_at hl 0 rfl) ?_
        refine q_gi (T := TX9) C S_0.1 ga0 5 kF_X9_28 dX9_next_16 rfl rfl (by decide) rfl (by decide) rfl ?_
        have n158 : aN H_0 (fR D H_0 9 a0 0) = 400 := len_3 S_0.1 g157
        refine q_iald C S_0.1 g157 (by omega) (by omega) dX9_next_19 rfl (by decide) ?_
        refine lv_topi (fun v159 ev159 => ?_)
        refine lv_bipush (v := 32) hx hb dX9_next_20 (by decide) ?_
        have k_32 : (32 : Int32).toInt = 32 := by decide
        refine lv_icmp_ne (tgt := 38) hx hb dX9_next_22 (by decide) (fun c160 => ?_) (fun c160 => ?_)
        · have b160 : ¬ v159.toInt = (32 : Int32).toInt := fun z9 => c160 (i_eq.mpr z9)
          refine lv_aload_n hx hb dX9_next_38 rfl (lv_at hl 0 rfl) ?_
          refine lv_aload_n hx hb dX9_next_39 rfl (lv_at hl 0 rfl) ?_
          refine q_gi (T := TX9) C S_0.1 ga0 5 kF_X9_28 dX9_next_40 rfl rfl (by decide) rfl (by decide) rfl ?_
          refine q_put (T := TX9) C S_0 ga0 4 kF_X9_25 dX9_next_43 rfl rfl (by decide) (by decide) rfl rfl rfl rfl rfl (vok_i rfl (by omega) (by omega)) (by decide +kernel) (fun H161 L161 S161 P161 => ?_)
          refine lv_aload_n hx hb dX9_next_46 rfl (lv_at hl 0 rfl) ?_
          refine lv_iconst (v := 0) hx hb dX9_next_47 (by decide) ?_
          have k_0 : (0 : Int32).toInt = 0 := by decide
          refine q_put (T := TX9) C S161 ga0 6 kF_X9_31 dX9_next_48 rfl rfl (by decide) (by decide) rfl rfl rfl rfl rfl (vok_a rfl) (by decide +kernel) (fun H162 L162 S162 P162 => ?_)
          refine lv_aload_n hx hb dX9_next_51 rfl (lv_at hl 0 rfl) ?_
          refine q_gi (T := TX9) C S162.1 ga0 5 kF_X9_28 dX9_next_52 rfl rfl (by decide) rfl (by decide) rfl ?_
          have c163 : (fI D H162 9 a0 5).toInt = (fI D H_0 9 a0 5).toInt := by rw [Pt.o P162 (by decide) (by decide), Pt.o P161 (by decide) (by decide)]
          have r164 : 0 ≤ (fI D H162 9 a0 5).toInt ∧ (fI D H162 9 a0 5).toInt ≤ 400 := S162.1.rng ga0 rfl (by decide) rfl
          refine lv_aload_n hx hb dX9_next_55 rfl (lv_at hl 0 rfl) ?_
          refine q_gi (T := TX9) C S162.1 ga0 1 kF_X9_15 dX9_next_56 rfl rfl (by decide) rfl (by decide) rfl ?_
          have c165 : (fI D H162 9 a0 1).toInt = (fI D H_0 9 a0 1).toInt := by rw [Pt.o P162 (by decide) (by decide), Pt.o P161 (by decide) (by decide)]
          have r166 : 0 ≤ (fI D H162 9 a0 1).toInt ∧ (fI D H162 9 a0 1).toInt ≤ 400 := S162.1.rng ga0 rfl (by decide) rfl
          refine lv_icmp_lt (tgt := 70) hx hb dX9_next_59 (by decide) (fun c167 => ?_) (fun c167 => ?_)
          · have b167 : (fI D H162 9 a0 5).toInt < (fI D H162 9 a0 1).toInt := i_lt.mp c167
            refine lv_aload_n hx hb dX9_next_70 rfl (lv_at hl 0 rfl) ?_
            refine q_gr (T := TX9) C S162.1 ga0 0 kF_X9_11 dX9_next_71 rfl rfl (by decide) rfl (by decide) rfl (fun g168 => ?_)
            refine lv_aload_n hx hb dX9_next_74 rfl (lv_at hl 0 rfl) ?_
            refine q_gi (T := TX9) C S162.1 ga0 5 kF_X9_28 dX9_next_75 rfl rfl (by decide) rfl (by decide) rfl ?_
            have n169 : aN H162 (fR D H162 9 a0 0) = 400 := len_3 S162.1 g168
            refine q_iald C S162.1 g168 (by omega) (by omega) dX9_next_78 rfl (by decide) ?_
            refine lv_topi (fun v170 ev170 => ?_)
            refine lv_bipush (v := 97) hx hb dX9_next_79 (by decide) ?_
            have k_97 : (97 : Int32).toInt = 97 := by decide
            refine lv_icmp_lt (tgt := 155) hx hb dX9_next_81 (by decide) (fun c171 => ?_) (fun c171 => ?_)
            · have b171 : v170.toInt < (97 : Int32).toInt := i_lt.mp c171
              refine lv_aload_n hx hb dX9_next_155 rfl (lv_at hl 0 rfl) ?_
              refine q_gr (T := TX9) C S162.1 ga0 0 kF_X9_11 dX9_next_156 rfl rfl (by decide) rfl (by decide) rfl (fun g172 => ?_)
              refine lv_aload_n hx hb dX9_next_159 rfl (lv_at hl 0 rfl) ?_
              refine q_gi (T := TX9) C S162.1 ga0 5 kF_X9_28 dX9_next_160 rfl rfl (by decide) rfl (by decide) rfl ?_
              refine q_iald C S162.1 g172 (by omega) (by omega) dX9_next_163 rfl (by decide) ?_
              refine lv_topi (fun v173 ev173 => ?_)
              refine lv_bipush (v := 48) hx hb dX9_next_164 (by decide) ?_
              have k_48 : (48 : Int32).toInt = 48 := by decide
              refine lv_icmp_lt (tgt := 283) hx hb dX9_next_166 (by decide) (fun c174 => ?_) (fun c174 => ?_)
              · have b174 : v173.toInt < (48 : Int32).toInt := i_lt.mp c174
                refine lv_aload_n hx hb dX9_next_283 rfl (lv_at hl 0 rfl) ?_
                refine lv_iconst (v := 3) hx hb dX9_next_284 (by decide) ?_
                have k_3 : (3 : Int32).toInt = 3 := by decide
                refine q_put (T := TX9) C S162 ga0 3 kF_X9_22 dX9_next_285 rfl rfl (by decide) (by decide) rfl rfl rfl rfl rfl (vok_a rfl) (by decide +kernel) (fun H175 L175 S175 P175 => ?_)
                refine lv_aload_n hx hb dX9_next_288 rfl (lv_at hl 0 rfl) ?_
                refine lv_aload_n hx hb dX9_next_289 rfl (lv_at hl 0 rfl) ?_
                refine q_gr (T := TX9) C S175.1 ga0 0 kF_X9_11 dX9_next_290 rfl rfl (by decide) rfl (by decide) rfl (fun g176 => ?_)
                refine lv_aload_n hx hb dX9_next_293 rfl (lv_at hl 0 rfl) ?_
                refine q_gi (T := TX9) C S175.1 ga0 5 kF_X9_28 dX9_next_294 rfl rfl (by decide) rfl (by decide) rfl ?_
                have c177 : (fI D H175 9 a0 5).toInt = (fI D H162 9 a0 5).toInt := by rw [Pt.o P175 (by decide) (by decide)]
                have r178 : 0 ≤ (fI D H175 9 a0 5).toInt ∧ (fI D H175 9 a0 5).toInt ≤ 400 := S175.1.rng ga0 rfl (by decide) rfl
                have n179 : aN H175 (fR D H175 9 a0 0) = 400 := len_3 S175.1 g176
                refine q_iald C S175.1 g176 (by omega) (by omega) dX9_next_297 rfl (by decide) ?_
                refine lv_topi (fun v180 ev180 => ?_)
                refine q_put (T := TX9) C S175 ga0 6 kF_X9_31 dX9_next_298 rfl rfl (by decide) (by decide) rfl rfl rfl rfl rfl (vok_a rfl) (by decide +kernel) (fun H181 L181 S181 P181 => ?_)
                refine lv_aload_n hx hb dX9_next_301 rfl (lv_at hl 0 rfl) ?_
                refine lv_dup hx hb dX9_next_302 rfl ?_
                refine q_gi (T := TX9) C S181.1 ga0 5 kF_X9_28 dX9_next_303 rfl rfl (by decide) rfl (by decide) rfl ?_
                have c182 : (fI D H181 9 a0 5).toInt = (fI D H175 9 a0 5).toInt := by rw [Pt.o P181 (by decide) (by decide)]
                have r183 : 0 ≤ (fI D H181 9 a0 5).toInt ∧ (fI D H181 9 a0 5).toInt ≤ 400 := S181.1.rng ga0 rfl (by decide) rfl
                refine lv_iconst (v := 1) hx hb dX9_next_306 (by decide) ?_
                have k_1 : (1 : Int32).toInt = 1 := by decide
                refine lv_iadd hx hb dX9_next_307 ?_
                refine lv_topi (fun v184 ev184 => ?_)
                have f185 : v184.toInt = (fI D H181 9 a0 5).toInt + (1 : Int32).toInt := by rw [ev184]; exact i_add (by omega) (by omega)
                refine q_put (T := TX9) C S181 ga0 5 kF_X9_28 dX9_next_308 rfl rfl (by decide) (by decide) rfl rfl rfl rfl rfl (vok_i rfl (by omega) (by omega)) (by decide +kernel) (fun H186 L186 S186 P186 => ?_)
                exact retE_v hQ C S186 hr dX9_next_311 (trivial)
              · have b174 : ¬ v173.toInt < (48 : Int32).toInt := fun z9 => c174 (i_lt.mpr z9)
                refine lv_aload_n hx hb dX9_next_169 rfl (lv_at hl 0 rfl) ?_
                refine q_gr (T := TX9) C S162.1 ga0 0 kF_X9_11 dX9_next_170 rfl rfl (by decide) rfl (by decide) rfl (fun g187 => ?_)
                refine lv_aload_n hx hb dX9_next_173 rfl (lv_at hl 0 rfl) ?_
                refine q_gi (T := TX9) C S162.1 ga0 5 kF_X9_28 dX9_next_174 rfl rfl (by decide) rfl (by decide) rfl ?_
                refine q_iald C S162.1 g187 (by omega) (by omega) dX9_next_177 rfl (by decide) ?_
                refine lv_topi (fun v188 ev188 => ?_)
                refine lv_bipush (v := 57) hx hb dX9_next_178 (by decide) ?_
                have k_57 : (57 : Int32).toInt = 57 := by decide
                refine lv_icmp_gt (tgt := 283) hx hb dX9_next_180 (by decide) (fun c189 => ?_) (fun c189 => ?_)
                · have b189 : (57 : Int32).toInt < v188.toInt := i_lt.mp c189
                  refine lv_aload_n hx hb dX9_next_283 rfl (lv_at hl 0 rfl) ?_
                  refine lv_iconst (v := 3) hx hb dX9_next_284 (by decide) ?_
                  have k_3 : (3 : Int32).toInt = 3 := by decide
                  refine q_put (T := TX9) C S162 ga0 3 kF_X9_22 dX9_next_285 rfl rfl (by decide) (by decide) rfl rfl rfl rfl rfl (vok_a rfl) (by decide +kernel) (fun H190 L190 S190 P190 => ?_)
                  refine lv_aload_n hx hb dX9_next_288 rfl (lv_at hl 0 rfl) ?_
                  refine lv_aload_n hx hb dX9_next_289 rfl (lv_at hl 0 rfl) ?_
                  refine q_gr (T := TX9) C S190.1 ga0 0 kF_X9_11 dX9_next_290 rfl rfl (by decide) rfl (by decide) rfl (fun g191 => ?_)
                  refine lv_aload_n hx hb dX9_next_293 rfl (lv_at hl 0 rfl) ?_
                  refine q_gi (T := TX9) C S190.1 ga0 5 kF_X9_28 dX9_next_294 rfl rfl (by decide) rfl (by decide) rfl ?_
                  have c192 : (fI D H190 9 a0 5).toInt = (fI D H162 9 a0 5).toInt := by rw [Pt.o P190 (by decide) (by decide)]
                  have r193 : 0 ≤ (fI D H190 9 a0 5).toInt ∧ (fI D H190 9 a0 5).toInt ≤ 400 := S190.1.rng ga0 rfl (by decide) rfl
                  have n194 : aN H190 (fR D H190 9 a0 0) = 400 := len_3 S190.1 g191
                  refine q_iald C S190.1 g191 (by omega) (by omega) dX9_next_297 rfl (by decide) ?_
                  refine lv_topi (fun v195 ev195 => ?_)
                  refine q_put (T := TX9) C S190 ga0 6 kF_X9_31 dX9_next_298 rfl rfl (by decide) (by decide) rfl rfl rfl rfl rfl (vok_a rfl) (by decide +kernel) (fun H196 L196 S196 P196 => ?_)
                  refine lv_aload_n hx hb dX9_next_301 rfl (lv_at hl 0 rfl) ?_
                  refine lv_dup hx hb dX9_next_302 rfl ?_
                  refine q_gi (T := TX9) C S196.1 ga0 5 kF_X9_28 dX9_next_303 rfl rfl (by decide) rfl (by decide) rfl ?_
                  have c197 : (fI D H196 9 a0 5).toInt = (fI D H190 9 a0 5).toInt := by rw [Pt.o P196 (by decide) (by decide)]
                  have r198 : 0 ≤ (fI D H196 9 a0 5).toInt ∧ (fI D H196 9 a0 5).toInt ≤ 400 := S196.1.rng ga0 rfl (by decide) rfl
                  refine lv_iconst (v := 1) hx hb dX9_next_306 (by decide) ?_
                  have k_1 : (1 : Int32).toInt = 1 := by decide
                  refine lv_iadd hx hb dX9_next_307 ?_
                  refine lv_topi (fun v199 ev199 => ?_)
                  have f200 : v199.toInt = (fI D H196 9 a0 5).toInt + (1 : Int32).toInt := by rw [ev199]; exact i_add (by omega) (by omega)
                  refine q_put (T := TX9) C S196 ga0 5 kF_X9_28 dX9_next_308 rfl rfl (by decide) (by decide) rfl rfl rfl rfl rfl (vok_i rfl (by omega) (by omega)) (by decide +kernel) (fun H201 L201 S201 P201 => ?_)
                  exact retE_v hQ C S201 hr dX9_next_311 (trivial)
                · have b189 : ¬ (57 : Int32).toInt < v188.toInt := fun z9 => c189 (i_lt.mpr z9)
                  refine lv_aload_n hx hb dX9_next_183 rfl (lv_at hl 0 rfl) ?_
                  refine lv_iconst (v := 2) hx hb dX9_next_184 (by decide) ?_
                  have k_2 : (2 : Int32).toInt = 2 := by decide
                  refine q_put (T := TX9) C S162 ga0 3 kF_X9_22 dX9_next_185 rfl rfl (by decide) (by decide) rfl rfl rfl rfl rfl (vok_a rfl) (by decide +kernel) (fun H202 L202 S202 P202 => ?_)
                  have Lp188 : ∀ (n : Nat)  (H_188 : Heap) (L_188 : List Loc) (ls : Array Slot), (Sd D G [(2, 3), (2, 4), (2, 5), (2, 6)] s.heap H_188 L_188) → 401 - (fI D H_188 9 a0 5).toInt ≤ (n : Int) → lv_has ls 1 [(0, .ref a0)] → W p l e (rmU 0 0 0) s m args below meth c H_188 L_188 0 0 Q (F0 m 188 ls []) := by
                    intro n
                    induction n with
                    | zero =>
                      intro H_188 L_188 ls S_188 hn hl
                      have rz : 0 ≤ (fI D H_188 9 a0 5).toInt ∧ (fI D H_188 9 a0 5).toInt ≤ 400 := S_188.1.rng ga0 rfl (by decide) rfl
                      exact absurd hn (by omega)
                    | succ n ih188 =>
                      intro H_188 L_188 ls S_188 hn hl
                      refine lv_aload_n hx hb dX9_next_188 rfl (lv_at hl 0 rfl) ?_
                      refine q_gi (T := TX9) C S_188.1 ga0 5 kF_X9_28 dX9_next_189 rfl rfl (by decide) rfl (by decide) rfl ?_
                      have r203 : 0 ≤ (fI D H_188 9 a0 5).toInt ∧ (fI D H_188 9 a0 5).toInt ≤ 400 := S_188.1.rng ga0 rfl (by decide) rfl
                      refine lv_aload_n hx hb dX9_next_192 rfl (lv_at hl 0 rfl) ?_
                      refine q_gi (T := TX9) C S_188.1 ga0 1 kF_X9_15 dX9_next_193 rfl rfl (by decide) rfl (by decide) rfl ?_
                      have r204 : 0 ≤ (fI D H_188 9 a0 1).toInt ∧ (fI D H_188 9 a0 1).toInt ≤ 400 := S_188.1.rng ga0 rfl (by decide) rfl
                      refine lv_icmp_ge (tgt := 311) hx hb dX9_next_196 (by decide) (fun c205 => ?_) (fun c205 => ?_)
                      · have b205 : (fI D H_188 9 a0 1).toInt ≤ (fI D H_188 9 a0 5).toInt := i_le.mp c205
                        exact retE_v hQ C S_188 hr dX9_next_311 (trivial)
                      · have b205 : ¬ (fI D H_188 9 a0 1).toInt ≤ (fI D H_188 9 a0 5).toInt := fun z9 => c205 (i_le.mpr z9)
                        refine lv_aload_n hx hb dX9_next_199 rfl (lv_at hl 0 rfl) ?_
                        refine q_gr (T := TX9) C S_188.1 ga0 0 kF_X9_11 dX9_next_200 rfl rfl (by decide) rfl (by decide) rfl (fun g206 => ?_)
                        refine lv_aload_n hx hb dX9_next_203 rfl (lv_at hl 0 rfl) ?_
                        refine q_gi (T := TX9) C S_188.1 ga0 5 kF_X9_28 dX9_next_204 rfl rfl (by decide) rfl (by decide) rfl ?_
                        have n207 : aN H_188 (fR D H_188 9 a0 0) = 400 := len_3 S_188.1 g206
                        refine q_iald C S_188.1 g206 (by omega) (by omega) dX9_next_207 rfl (by decide) ?_
                        refine lv_topi (fun v208 ev208 => ?_)
                        refine lv_bipush (v := 48) hx hb dX9_next_208 (by decide) ?_
                        refine lv_icmp_lt (tgt := 311) hx hb dX9_next_210 (by decide) (fun c209 => ?_) (fun c209 => ?_)
                        · have b209 : v208.toInt < (48 : Int32).toInt := i_lt.mp c209
                          exact retE_v hQ C S_188 hr dX9_next_311 (trivial)
                        · have b209 : ¬ v208.toInt < (48 : Int32).toInt := fun z9 => c209 (i_lt.mpr z9)
                          refine lv_aload_n hx hb dX9_next_213 rfl (lv_at hl 0 rfl) ?_
                          refine q_gr (T := TX9) C S_188.1 ga0 0 kF_X9_11 dX9_next_214 rfl rfl (by decide) rfl (by decide) rfl (fun g210 => ?_)
                          refine lv_aload_n hx hb dX9_next_217 rfl (lv_at hl 0 rfl) ?_
                          refine q_gi (T := TX9) C S_188.1 ga0 5 kF_X9_28 dX9_next_218 rfl rfl (by decide) rfl (by decide) rfl ?_
                          refine q_iald C S_188.1 g210 (by omega) (by omega) dX9_next_221 rfl (by decide) ?_
                          refine lv_topi (fun v211 ev211 => ?_)
                          refine lv_bipush (v := 57) hx hb dX9_next_222 (by decide) ?_
                          refine lv_icmp_gt (tgt := 311) hx hb dX9_next_224 (by decide) (fun c212 => ?_) (fun c212 => ?_)
                          · have b212 : (57 : Int32).toInt < v211.toInt := i_lt.mp c212
                            exact retE_v hQ C S_188 hr dX9_next_311 (trivial)
                          · have b212 : ¬ (57 : Int32).toInt < v211.toInt := fun z9 => c212 (i_lt.mpr z9)
                            refine lv_aload_n hx hb dX9_next_227 rfl (lv_at hl 0 rfl) ?_
                            refine lv_aload_n hx hb dX9_next_228 rfl (lv_at hl 0 rfl) ?_
                            refine q_gi (T := TX9) C S_188.1 ga0 5 kF_X9_28 dX9_next_229 rfl rfl (by decide) rfl (by decide) rfl ?_
                            refine lv_aload_n hx hb dX9_next_232 rfl (lv_at hl 0 rfl) ?_
                            refine q_gi (T := TX9) C S_188.1 ga0 4 kF_X9_25 dX9_next_233 rfl rfl (by decide) rfl (by decide) rfl ?_
                            have r213 : 0 ≤ (fI D H_188 9 a0 4).toInt ∧ (fI D H_188 9 a0 4).toInt ≤ 400 := S_188.1.rng ga0 rfl (by decide) rfl
                            refine lv_isub hx hb dX9_next_236 ?_
                            refine lv_topi (fun v214 ev214 => ?_)
                            have f215 : v214.toInt = (fI D H_188 9 a0 5).toInt - (fI D H_188 9 a0 4).toInt := by rw [ev214]; exact i_sub (by omega) (by omega)
                            refine lv_iconst (v := 3) hx hb dX9_next_237 (by decide) ?_
                            have k_3 : (3 : Int32).toInt = 3 := by decide
                            refine lv_icmp_ge (tgt := 264) hx hb dX9_next_238 (by decide) (fun c216 => ?_) (fun c216 => ?_)
                            · have b216 : (3 : Int32).toInt ≤ v214.toInt := i_le.mp c216
                              refine lv_sipush (v := 1000) hx hb dX9_next_264 (by decide) ?_
                              have k_1000 : (1000 : Int32).toInt = 1000 := by decide
                              refine q_put (T := TX9) C S_188 ga0 6 kF_X9_31 dX9_next_267 rfl rfl (by decide) (by decide) rfl rfl rfl rfl rfl (vok_a rfl) (by decide +kernel) (fun H217 L217 S217 P217 => ?_)
                              refine lv_aload_n hx hb dX9_next_270 rfl (lv_at hl 0 rfl) ?_
                              refine lv_dup hx hb dX9_next_271 rfl ?_
                              refine q_gi (T := TX9) C S217.1 ga0 5 kF_X9_28 dX9_next_272 rfl rfl (by decide) rfl (by decide) rfl ?_
                              have c218 : (fI D H217 9 a0 5).toInt = (fI D H_188 9 a0 5).toInt := by rw [Pt.o P217 (by decide) (by decide)]
                              have r219 : 0 ≤ (fI D H217 9 a0 5).toInt ∧ (fI D H217 9 a0 5).toInt ≤ 400 := S217.1.rng ga0 rfl (by decide) rfl
                              refine lv_iconst (v := 1) hx hb dX9_next_275 (by decide) ?_
                              have k_1 : (1 : Int32).toInt = 1 := by decide
                              refine lv_iadd hx hb dX9_next_276 ?_
                              refine lv_topi (fun v220 ev220 => ?_)
                              have f221 : v220.toInt = (fI D H217 9 a0 5).toInt + (1 : Int32).toInt := by rw [ev220]; exact i_add (by omega) (by omega)
                              refine q_put (T := TX9) C S217 ga0 5 kF_X9_28 dX9_next_277 rfl rfl (by decide) (by decide) rfl rfl rfl rfl rfl (vok_i rfl (by omega) (by omega)) (by decide +kernel) (fun H222 L222 S222 P222 => ?_)
                              refine lv_goto (tgt := 188) hx hb dX9_next_280 (by decide) ?_
                              have bk : (fI D H222 9 a0 5).toInt = _ := congrArg Int32.toInt (Pt.i P222)
                              exact ih188  H222 L222 ls S222  (by omega) (lv_sub hl [0] rfl)
                            · have b216 : ¬ (3 : Int32).toInt ≤ v214.toInt := fun z9 => c216 (i_le.mpr z9)
                              refine lv_aload_n hx hb dX9_next_241 rfl (lv_at hl 0 rfl) ?_
                              refine q_gi (T := TX9) C S_188.1 ga0 6 kF_X9_31 dX9_next_242 rfl rfl (by decide) rfl (by decide) rfl ?_
                              refine lv_bipush (v := 10) hx hb dX9_next_245 (by decide) ?_
                              have k_10 : (10 : Int32).toInt = 10 := by decide
                              refine lv_imul hx hb dX9_next_247 ?_
                              refine lv_topi (fun v223 ev223 => ?_)
                              refine lv_aload_n hx hb dX9_next_248 rfl (lv_at hl 0 rfl) ?_
                              refine q_gr (T := TX9) C S_188.1 ga0 0 kF_X9_11 dX9_next_249 rfl rfl (by decide) rfl (by decide) rfl (fun g224 => ?_)
                              refine lv_aload_n hx hb dX9_next_252 rfl (lv_at hl 0 rfl) ?_
                              refine q_gi (T := TX9) C S_188.1 ga0 5 kF_X9_28 dX9_next_253 rfl rfl (by decide) rfl (by decide) rfl ?_
                              refine q_iald C S_188.1 g224 (by omega) (by omega) dX9_next_256 rfl (by decide) ?_
                              refine lv_topi (fun v225 ev225 => ?_)
                              refine lv_iadd hx hb dX9_next_257 ?_
                              refine lv_topi (fun v226 ev226 => ?_)
                              refine lv_bipush (v := 48) hx hb dX9_next_258 (by decide) ?_
                              refine lv_isub hx hb dX9_next_260 ?_
                              refine lv_topi (fun v227 ev227 => ?_)
                              refine lv_goto (tgt := 267) hx hb dX9_next_261 (by decide) ?_
                              refine q_put (T := TX9) C S_188 ga0 6 kF_X9_31 dX9_next_267 rfl rfl (by decide) (by decide) rfl rfl rfl rfl rfl (vok_a rfl) (by decide +kernel) (fun H228 L228 S228 P228 => ?_)
                              refine lv_aload_n hx hb dX9_next_270 rfl (lv_at hl 0 rfl) ?_
                              refine lv_dup hx hb dX9_next_271 rfl ?_
                              refine q_gi (T := TX9) C S228.1 ga0 5 kF_X9_28 dX9_next_272 rfl rfl (by decide) rfl (by decide) rfl ?_
                              have c229 : (fI D H228 9 a0 5).toInt = (fI D H_188 9 a0 5).toInt := by rw [Pt.o P228 (by decide) (by decide)]
                              have r230 : 0 ≤ (fI D H228 9 a0 5).toInt ∧ (fI D H228 9 a0 5).toInt ≤ 400 := S228.1.rng ga0 rfl (by decide) rfl
                              refine lv_iconst (v := 1) hx hb dX9_next_275 (by decide) ?_
                              have k_1 : (1 : Int32).toInt = 1 := by decide
                              refine lv_iadd hx hb dX9_next_276 ?_
                              refine lv_topi (fun v231 ev231 => ?_)
                              have f232 : v231.toInt = (fI D H228 9 a0 5).toInt + (1 : Int32).toInt := by rw [ev231]; exact i_add (by omega) (by omega)
                              refine q_put (T := TX9) C S228 ga0 5 kF_X9_28 dX9_next_277 rfl rfl (by decide) (by decide) rfl rfl rfl rfl rfl (vok_i rfl (by omega) (by omega)) (by decide +kernel) (fun H233 L233 S233 P233 => ?_)
                              refine lv_goto (tgt := 188) hx hb dX9_next_280 (by decide) ?_
                              have bk : (fI D H233 9 a0 5).toInt = _ := congrArg Int32.toInt (Pt.i P233)
                              exact ih188  H233 L233 ls S233  (by omega) (lv_sub hl [0] rfl)
                  have rn : 0 ≤ (fI D H202 9 a0 5).toInt ∧ (fI D H202 9 a0 5).toInt ≤ 400 := S202.1.rng ga0 rfl (by decide) rfl
                  exact Lp188 402  H202 L202 ls S202   (by omega) (lv_sub hl [0] rfl)
            · have b171 : ¬ v170.toInt < (97 : Int32).toInt := fun z9 => c171 (i_lt.mpr z9)
              refine lv_aload_n hx hb dX9_next_84 rfl (lv_at hl 0 rfl) ?_
              refine q_gr (T := TX9) C S162.1 ga0 0 kF_X9_11 dX9_next_85 rfl rfl (by decide) rfl (by decide) rfl (fun g234 => ?_)
              refine lv_aload_n hx hb dX9_next_88 rfl (lv_at hl 0 rfl) ?_
              refine q_gi (T := TX9) C S162.1 ga0 5 kF_X9_28 dX9_next_89 rfl rfl (by decide) rfl (by decide) rfl ?_
              refine q_iald C S162.1 g234 (by omega) (by omega) dX9_next_92 rfl (by decide) ?_
              refine lv_topi (fun v235 ev235 => ?_)
              refine lv_bipush (v := 122) hx hb dX9_next_93 (by decide) ?_
              have k_122 : (122 : Int32).toInt = 122 := by decide
              refine lv_icmp_gt (tgt := 155) hx hb dX9_next_95 (by decide) (fun c236 => ?_) (fun c236 => ?_)
              · have b236 : (122 : Int32).toInt < v235.toInt := i_lt.mp c236
                refine lv_aload_n hx hb dX9_next_155 rfl (lv_at hl 0 rfl) ?_
                refine q_gr (T := TX9) C S162.1 ga0 0 kF_X9_11 dX9_next_156 rfl rfl (by decide) rfl (by decide) rfl (fun g237 => ?_)
                refine lv_aload_n hx hb dX9_next_159 rfl (lv_at hl 0 rfl) ?_
                refine q_gi (T := TX9) C S162.1 ga0 5 kF_X9_28 dX9_next_160 rfl rfl (by decide) rfl (by decide) rfl ?_
                refine q_iald C S162.1 g237 (by omega) (by omega) dX9_next_163 rfl (by decide) ?_
                refine lv_topi (fun v238 ev238 => ?_)
                refine lv_bipush (v := 48) hx hb dX9_next_164 (by decide) ?_
                have k_48 : (48 : Int32).toInt = 48 := by decide
                refine lv_icmp_lt (tgt := 283) hx hb dX9_next_166 (by decide) (fun c239 => ?_) (fun c239 => ?_)
                · have b239 : v238.toInt < (48 : Int32).toInt := i_lt.mp c239
                  refine lv_aload_n hx hb dX9_next_283 rfl (lv_at hl 0 rfl) ?_
                  refine lv_iconst (v := 3) hx hb dX9_next_284 (by decide) ?_
                  have k_3 : (3 : Int32).toInt = 3 := by decide
                  refine q_put (T := TX9) C S162 ga0 3 kF_X9_22 dX9_next_285 rfl rfl (by decide) (by decide) rfl rfl rfl rfl rfl (vok_a rfl) (by decide +kernel) (fun H240 L240 S240 P240 => ?_)
                  refine lv_aload_n hx hb dX9_next_288 rfl (lv_at hl 0 rfl) ?_
                  refine lv_aload_n hx hb dX9_next_289 rfl (lv_at hl 0 rfl) ?_
                  refine q_gr (T := TX9) C S240.1 ga0 0 kF_X9_11 dX9_next_290 rfl rfl (by decide) rfl (by decide) rfl (fun g241 => ?_)
                  refine lv_aload_n hx hb dX9_next_293 rfl (lv_at hl 0 rfl) ?_
                  refine q_gi (T := TX9) C S240.1 ga0 5 kF_X9_28 dX9_next_294 rfl rfl (by decide) rfl (by decide) rfl ?_
                  have c242 : (fI D H240 9 a0 5).toInt = (fI D H162 9 a0 5).toInt := by rw [Pt.o P240 (by decide) (by decide)]
                  have r243 : 0 ≤ (fI D H240 9 a0 5).toInt ∧ (fI D H240 9 a0 5).toInt ≤ 400 := S240.1.rng ga0 rfl (by decide) rfl
                  have n244 : aN H240 (fR D H240 9 a0 0) = 400 := len_3 S240.1 g241
                  refine q_iald C S240.1 g241 (by omega) (by omega) dX9_next_297 rfl (by decide) ?_
                  refine lv_topi (fun v245 ev245 => ?_)
                  refine q_put (T := TX9) C S240 ga0 6 kF_X9_31 dX9_next_298 rfl rfl (by decide) (by decide) rfl rfl rfl rfl rfl (vok_a rfl) (by decide +kernel) (fun H246 L246 S246 P246 => ?_)
                  refine lv_aload_n hx hb dX9_next_301 rfl (lv_at hl 0 rfl) ?_
                  refine lv_dup hx hb dX9_next_302 rfl ?_
                  refine q_gi (T := TX9) C S246.1 ga0 5 kF_X9_28 dX9_next_303 rfl rfl (by decide) rfl (by decide) rfl ?_
                  have c247 : (fI D H246 9 a0 5).toInt = (fI D H240 9 a0 5).toInt := by rw [Pt.o P246 (by decide) (by decide)]
                  have r248 : 0 ≤ (fI D H246 9 a0 5).toInt ∧ (fI D H246 9 a0 5).toInt ≤ 400 := S246.1.rng ga0 rfl (by decide) rfl
                  refine lv_iconst (v := 1) hx hb dX9_next_306 (by decide) ?_
                  have k_1 : (1 : Int32).toInt = 1 := by decide
                  refine lv_iadd hx hb dX9_next_307 ?_
                  refine lv_topi (fun v249 ev249 => ?_)
                  have f250 : v249.toInt = (fI D H246 9 a0 5).toInt + (1 : Int32).toInt := by rw [ev249]; exact i_add (by omega) (by omega)
                  refine q_put (T := TX9) C S246 ga0 5 kF_X9_28 dX9_next_308 rfl rfl (by decide) (by decide) rfl rfl rfl rfl rfl (vok_i rfl (by omega) (by omega)) (by decide +kernel) (fun H251 L251 S251 P251 => ?_)
                  exact retE_v hQ C S251 hr dX9_next_311 (trivial)
                · have b239 : ¬ v238.toInt < (48 : Int32).toInt := fun z9 => c239 (i_lt.mpr z9)
                  refine lv_aload_n hx hb dX9_next_169 rfl (lv_at hl 0 rfl) ?_
                  refine q_gr (T := TX9) C S162.1 ga0 0 kF_X9_11 dX9_next_170 rfl rfl (by decide) rfl (by decide) rfl (fun g252 => ?_)
                  refine lv_aload_n hx hb dX9_next_173 rfl (lv_at hl 0 rfl) ?_
                  refine q_gi (T := TX9) C S162.1 ga0 5 kF_X9_28 dX9_next_174 rfl rfl (by decide) rfl (by decide) rfl ?_
                  refine q_iald C S162.1 g252 (by omega) (by omega) dX9_next_177 rfl (by decide) ?_
                  refine lv_topi (fun v253 ev253 => ?_)
                  refine lv_bipush (v := 57) hx hb dX9_next_178 (by decide) ?_
                  have k_57 : (57 : Int32).toInt = 57 := by decide
                  refine lv_icmp_gt (tgt := 283) hx hb dX9_next_180 (by decide) (fun c254 => ?_) (fun c254 => ?_)
                  · have b254 : (57 : Int32).toInt < v253.toInt := i_lt.mp c254
                    refine lv_aload_n hx hb dX9_next_283 rfl (lv_at hl 0 rfl) ?_
                    refine lv_iconst (v := 3) hx hb dX9_next_284 (by decide) ?_
                    have k_3 : (3 : Int32).toInt = 3 := by decide
                    refine q_put (T := TX9) C S162 ga0 3 kF_X9_22 dX9_next_285 rfl rfl (by decide) (by decide) rfl rfl rfl rfl rfl (vok_a rfl) (by decide +kernel) (fun H255 L255 S255 P255 => ?_)
                    refine lv_aload_n hx hb dX9_next_288 rfl (lv_at hl 0 rfl) ?_
                    refine lv_aload_n hx hb dX9_next_289 rfl (lv_at hl 0 rfl) ?_
                    refine q_gr (T := TX9) C S255.1 ga0 0 kF_X9_11 dX9_next_290 rfl rfl (by decide) rfl (by decide) rfl (fun g256 => ?_)
                    refine lv_aload_n hx hb dX9_next_293 rfl (lv_at hl 0 rfl) ?_
                    refine q_gi (T := TX9) C S255.1 ga0 5 kF_X9_28 dX9_next_294 rfl rfl (by decide) rfl (by decide) rfl ?_
                    have c257 : (fI D H255 9 a0 5).toInt = (fI D H162 9 a0 5).toInt := by rw [Pt.o P255 (by decide) (by decide)]
                    have r258 : 0 ≤ (fI D H255 9 a0 5).toInt ∧ (fI D H255 9 a0 5).toInt ≤ 400 := S255.1.rng ga0 rfl (by decide) rfl
                    have n259 : aN H255 (fR D H255 9 a0 0) = 400 := len_3 S255.1 g256
                    refine q_iald C S255.1 g256 (by omega) (by omega) dX9_next_297 rfl (by decide) ?_
                    refine lv_topi (fun v260 ev260 => ?_)
                    refine q_put (T := TX9) C S255 ga0 6 kF_X9_31 dX9_next_298 rfl rfl (by decide) (by decide) rfl rfl rfl rfl rfl (vok_a rfl) (by decide +kernel) (fun H261 L261 S261 P261 => ?_)
                    refine lv_aload_n hx hb dX9_next_301 rfl (lv_at hl 0 rfl) ?_
                    refine lv_dup hx hb dX9_next_302 rfl ?_
                    refine q_gi (T := TX9) C S261.1 ga0 5 kF_X9_28 dX9_next_303 rfl rfl (by decide) rfl (by decide) rfl ?_
                    have c262 : (fI D H261 9 a0 5).toInt = (fI D H255 9 a0 5).toInt := by rw [Pt.o P261 (by decide) (by decide)]
                    have r263 : 0 ≤ (fI D H261 9 a0 5).toInt ∧ (fI D H261 9 a0 5).toInt ≤ 400 := S261.1.rng ga0 rfl (by decide) rfl
                    refine lv_iconst (v := 1) hx hb dX9_next_306 (by decide) ?_
                    have k_1 : (1 : Int32).toInt = 1 := by decide
                    refine lv_iadd hx hb dX9_next_307 ?_
                    refine lv_topi (fun v264 ev264 => ?_)
                    have f265 : v264.toInt = (fI D H261 9 a0 5).toInt + (1 : Int32).toInt := by rw [ev264]; exact i_add (by omega) (by omega)
                    refine q_put (T := TX9) C S261 ga0 5 kF_X9_28 dX9_next_308 rfl rfl (by decide) (by decide) rfl rfl rfl rfl rfl (vok_i rfl (by omega) (by omega)) (by decide +kernel) (fun H266 L266 S266 P266 => ?_)
                    exact retE_v hQ C S266 hr dX9_next_311 (trivial)
                  · have b254 : ¬ (57 : Int32).toInt < v253.toInt := fun z9 => c254 (i_lt.mpr z9)
                    refine lv_aload_n hx hb dX9_next_183 rfl (lv_at hl 0 rfl) ?_
                    refine lv_iconst (v := 2) hx hb dX9_next_184 (by decide) ?_
                    have k_2 : (2 : Int32).toInt = 2 := by decide
                    refine q_put (T := TX9) C S162 ga0 3 kF_X9_22 dX9_next_185 rfl rfl (by decide) (by decide) rfl rfl rfl rfl rfl (vok_a rfl) (by decide +kernel) (fun H267 L267 S267 P267 => ?_)
                    have Lp188 : ∀ (n : Nat)  (H_188 : Heap) (L_188 : List Loc) (ls : Array Slot), (Sd D G [(2, 3), (2, 4), (2, 5), (2, 6)] s.heap H_188 L_188) → 401 - (fI D H_188 9 a0 5).toInt ≤ (n : Int) → lv_has ls 1 [(0, .ref a0)] → W p l e (rmU 0 0 0) s m args below meth c H_188 L_188 0 0 Q (F0 m 188 ls []) := by
                      intro n
                      induction n with
                      | zero =>
                        intro H_188 L_188 ls S_188 hn hl
                        have rz : 0 ≤ (fI D H_188 9 a0 5).toInt ∧ (fI D H_188 9 a0 5).toInt ≤ 400 := S_188.1.rng ga0 rfl (by decide) rfl
                        exact absurd hn (by omega)
                      | succ n ih188 =>
                        intro H_188 L_188 ls S_188 hn hl
                        refine lv_aload_n hx hb dX9_next_188 rfl (lv_at hl 0 rfl) ?_
                        refine q_gi (T := TX9) C S_188.1 ga0 5 kF_X9_28 dX9_next_189 rfl rfl (by decide) rfl (by decide) rfl ?_
                        have r268 : 0 ≤ (fI D H_188 9 a0 5).toInt ∧ (fI D H_188 9 a0 5).toInt ≤ 400 := S_188.1.rng ga0 rfl (by decide) rfl
                        refine lv_aload_n hx hb dX9_next_192 rfl (lv_at hl 0 rfl) ?_
                        refine q_gi (T := TX9) C S_188.1 ga0 1 kF_X9_15 dX9_next_193 rfl rfl (by decide) rfl (by decide) rfl ?_
                        have r269 : 0 ≤ (fI D H_188 9 a0 1).toInt ∧ (fI D H_188 9 a0 1).toInt ≤ 400 := S_188.1.rng ga0 rfl (by decide) rfl
                        refine lv_icmp_ge (tgt := 311) hx hb dX9_next_196 (by decide) (fun c270 => ?_) (fun c270 => ?_)
                        · have b270 : (fI D H_188 9 a0 1).toInt ≤ (fI D H_188 9 a0 5).toInt := i_le.mp c270
                          exact retE_v hQ C S_188 hr dX9_next_311 (trivial)
                        · have b270 : ¬ (fI D H_188 9 a0 1).toInt ≤ (fI D H_188 9 a0 5).toInt := fun z9 => c270 (i_le.mpr z9)
                          refine lv_aload_n hx hb dX9_next_199 rfl (lv_at hl 0 rfl) ?_
                          refine q_gr (T := TX9) C S_188.1 ga0 0 kF_X9_11 dX9_next_200 rfl rfl (by decide) rfl (by decide) rfl (fun g271 => ?_)
                          refine lv_aload_n hx hb dX9_next_203 rfl (lv_at hl 0 rfl) ?_
                          refine q_gi (T := TX9) C S_188.1 ga0 5 kF_X9_28 dX9_next_204 rfl rfl (by decide) rfl (by decide) rfl ?_
                          have n272 : aN H_188 (fR D H_188 9 a0 0) = 400 := len_3 S_188.1 g271
                          refine q_iald C S_188.1 g271 (by omega) (by omega) dX9_next_207 rfl (by decide) ?_
                          refine lv_topi (fun v273 ev273 => ?_)
                          refine lv_bipush (v := 48) hx hb dX9_next_208 (by decide) ?_
                          refine lv_icmp_lt (tgt := 311) hx hb dX9_next_210 (by decide) (fun c274 => ?_) (fun c274 => ?_)
                          · have b274 : v273.toInt < (48 : Int32).toInt := i_lt.mp c274
                            exact retE_v hQ C S_188 hr dX9_next_311 (trivial)
                          · have b274 : ¬ v273.toInt < (48 : Int32).toInt := fun z9 => c274 (i_lt.mpr z9)
                            refine lv_aload_n hx hb dX9_next_213 rfl (lv_at hl 0 rfl) ?_
                            refine q_gr (T := TX9) C S_188.1 ga0 0 kF_X9_11 dX9_next_214 rfl rfl (by decide) rfl (by decide) rfl (fun g275 => ?_)
                            refine lv_aload_n hx hb dX9_next_217 rfl (lv_at hl 0 rfl) ?_
                            refine q_gi (T := TX9) C S_188.1 ga0 5 kF_X9_28 dX9_next_218 rfl rfl (by decide) rfl (by decide) rfl ?_
                            refine q_iald C S_188.1 g275 (by omega) (by omega) dX9_next_221 rfl (by decide) ?_
                            refine lv_topi (fun v276 ev276 => ?_)
                            refine lv_bipush (v := 57) hx hb dX9_next_222 (by decide) ?_
                            refine lv_icmp_gt (tgt := 311) hx hb dX9_next_224 (by decide) (fun c277 => ?_) (fun c277 => ?_)
                            · have b277 : (57 : Int32).toInt < v276.toInt := i_lt.mp c277
                              exact retE_v hQ C S_188 hr dX9_next_311 (trivial)
                            · have b277 : ¬ (57 : Int32).toInt < v276.toInt := fun z9 => c277 (i_lt.mpr z9)
                              refine lv_aload_n hx hb dX9_next_227 rfl (lv_at hl 0 rfl) ?_
                              refine lv_aload_n hx hb dX9_next_228 rfl (lv_at hl 0 rfl) ?_
                              refine q_gi (T := TX9) C S_188.1 ga0 5 kF_X9_28 dX9_next_229 rfl rfl (by decide) rfl (by decide) rfl ?_
                              refine lv_aload_n hx hb dX9_next_232 rfl (lv_at hl 0 rfl) ?_
                              refine q_gi (T := TX9) C S_188.1 ga0 4 kF_X9_25 dX9_next_233 rfl rfl (by decide) rfl (by decide) rfl ?_
                              have r278 : 0 ≤ (fI D H_188 9 a0 4).toInt ∧ (fI D H_188 9 a0 4).toInt ≤ 400 := S_188.1.rng ga0 rfl (by decide) rfl
                              refine lv_isub hx hb dX9_next_236 ?_
                              refine lv_topi (fun v279 ev279 => ?_)
                              have f280 : v279.toInt = (fI D H_188 9 a0 5).toInt - (fI D H_188 9 a0 4).toInt := by rw [ev279]; exact i_sub (by omega) (by omega)
                              refine lv_iconst (v := 3) hx hb dX9_next_237 (by decide) ?_
                              have k_3 : (3 : Int32).toInt = 3 := by decide
                              refine lv_icmp_ge (tgt := 264) hx hb dX9_next_238 (by decide) (fun c281 => ?_) (fun c281 => ?_)
                              · have b281 : (3 : Int32).toInt ≤ v279.toInt := i_le.mp c281
                                refine lv_sipush (v := 1000) hx hb dX9_next_264 (by decide) ?_
                                have k_1000 : (1000 : Int32).toInt = 1000 := by decide
                                refine q_put (T := TX9) C S_188 ga0 6 kF_X9_31 dX9_next_267 rfl rfl (by decide) (by decide) rfl rfl rfl rfl rfl (vok_a rfl) (by decide +kernel) (fun H282 L282 S282 P282 => ?_)
                                refine lv_aload_n hx hb dX9_next_270 rfl (lv_at hl 0 rfl) ?_
                                refine lv_dup hx hb dX9_next_271 rfl ?_
                                refine q_gi (T := TX9) C S282.1 ga0 5 kF_X9_28 dX9_next_272 rfl rfl (by decide) rfl (by decide) rfl ?_
                                have c283 : (fI D H282 9 a0 5).toInt = (fI D H_188 9 a0 5).toInt := by rw [Pt.o P282 (by decide) (by decide)]
                                have r284 : 0 ≤ (fI D H282 9 a0 5).toInt ∧ (fI D H282 9 a0 5).toInt ≤ 400 := S282.1.rng ga0 rfl (by decide) rfl
                                refine lv_iconst (v := 1) hx hb dX9_next_275 (by decide) ?_
                                have k_1 : (1 : Int32).toInt = 1 := by decide
                                refine lv_iadd hx hb dX9_next_276 ?_
                                refine lv_topi (fun v285 ev285 => ?_)
                                have f286 : v285.toInt = (fI D H282 9 a0 5).toInt + (1 : Int32).toInt := by rw [ev285]; exact i_add (by omega) (by omega)
                                refine q_put (T := TX9) C S282 ga0 5 kF_X9_28 dX9_next_277 rfl rfl (by decide) (by decide) rfl rfl rfl rfl rfl (vok_i rfl (by omega) (by omega)) (by decide +kernel) (fun H287 L287 S287 P287 => ?_)
                                refine lv_goto (tgt := 188) hx hb dX9_next_280 (by decide) ?_
                                have bk : (fI D H287 9 a0 5).toInt = _ := congrArg Int32.toInt (Pt.i P287)
                                exact ih188  H287 L287 ls S287  (by omega) (lv_sub hl [0] rfl)
                              · have b281 : ¬ (3 : Int32).toInt ≤ v279.toInt := fun z9 => c281 (i_le.mpr z9)
                                refine lv_aload_n hx hb dX9_next_241 rfl (lv_at hl 0 rfl) ?_
                                refine q_gi (T := TX9) C S_188.1 ga0 6 kF_X9_31 dX9_next_242 rfl rfl (by decide) rfl (by decide) rfl ?_
                                refine lv_bipush (v := 10) hx hb dX9_next_245 (by decide) ?_
                                have k_10 : (10 : Int32).toInt = 10 := by decide
                                refine lv_imul hx hb dX9_next_247 ?_
                                refine lv_topi (fun v288 ev288 => ?_)
                                refine lv_aload_n hx hb dX9_next_248 rfl (lv_at hl 0 rfl) ?_
                                refine q_gr (T := TX9) C S_188.1 ga0 0 kF_X9_11 dX9_next_249 rfl rfl (by decide) rfl (by decide) rfl (fun g289 => ?_)
                                refine lv_aload_n hx hb dX9_next_252 rfl (lv_at hl 0 rfl) ?_
                                refine q_gi (T := TX9) C S_188.1 ga0 5 kF_X9_28 dX9_next_253 rfl rfl (by decide) rfl (by decide) rfl ?_
                                refine q_iald C S_188.1 g289 (by omega) (by omega) dX9_next_256 rfl (by decide) ?_
                                refine lv_topi (fun v290 ev290 => ?_)
                                refine lv_iadd hx hb dX9_next_257 ?_
                                refine lv_topi (fun v291 ev291 => ?_)
                                refine lv_bipush (v := 48) hx hb dX9_next_258 (by decide) ?_
                                refine lv_isub hx hb dX9_next_260 ?_
                                refine lv_topi (fun v292 ev292 => ?_)
                                refine lv_goto (tgt := 267) hx hb dX9_next_261 (by decide) ?_
                                refine q_put (T := TX9) C S_188 ga0 6 kF_X9_31 dX9_next_267 rfl rfl (by decide) (by decide) rfl rfl rfl rfl rfl (vok_a rfl) (by decide +kernel) (fun H293 L293 S293 P293 => ?_)
                                refine lv_aload_n hx hb dX9_next_270 rfl (lv_at hl 0 rfl) ?_
                                refine lv_dup hx hb dX9_next_271 rfl ?_
                                refine q_gi (T := TX9) C S293.1 ga0 5 kF_X9_28 dX9_next_272 rfl rfl (by decide) rfl (by decide) rfl ?_
                                have c294 : (fI D H293 9 a0 5).toInt = (fI D H_188 9 a0 5).toInt := by rw [Pt.o P293 (by decide) (by decide)]
                                have r295 : 0 ≤ (fI D H293 9 a0 5).toInt ∧ (fI D H293 9 a0 5).toInt ≤ 400 := S293.1.rng ga0 rfl (by decide) rfl
                                refine lv_iconst (v := 1) hx hb dX9_next_275 (by decide) ?_
                                have k_1 : (1 : Int32).toInt = 1 := by decide
                                refine lv_iadd hx hb dX9_next_276 ?_
                                refine lv_topi (fun v296 ev296 => ?_)
                                have f297 : v296.toInt = (fI D H293 9 a0 5).toInt + (1 : Int32).toInt := by rw [ev296]; exact i_add (by omega) (by omega)
                                refine q_put (T := TX9) C S293 ga0 5 kF_X9_28 dX9_next_277 rfl rfl (by decide) (by decide) rfl rfl rfl rfl rfl (vok_i rfl (by omega) (by omega)) (by decide +kernel) (fun H298 L298 S298 P298 => ?_)
                                refine lv_goto (tgt := 188) hx hb dX9_next_280 (by decide) ?_
                                have bk : (fI D H298 9 a0 5).toInt = _ := congrArg Int32.toInt (Pt.i P298)
                                exact ih188  H298 L298 ls S298  (by omega) (lv_sub hl [0] rfl)
                    have rn : 0 ≤ (fI D H267 9 a0 5).toInt ∧ (fI D H267 9 a0 5).toInt ≤ 400 := S267.1.rng ga0 rfl (by decide) rfl
                    exact Lp188 402  H267 L267 ls S267   (by omega) (lv_sub hl [0] rfl)
              · have b236 : ¬ (122 : Int32).toInt < v235.toInt := fun z9 => c236 (i_lt.mpr z9)
                refine lv_aload_n hx hb dX9_next_98 rfl (lv_at hl 0 rfl) ?_
                refine lv_iconst (v := 1) hx hb dX9_next_99 (by decide) ?_
                have k_1 : (1 : Int32).toInt = 1 := by decide
                refine q_put (T := TX9) C S162 ga0 3 kF_X9_22 dX9_next_100 rfl rfl (by decide) (by decide) rfl rfl rfl rfl rfl (vok_a rfl) (by decide +kernel) (fun H299 L299 S299 P299 => ?_)
                have Lp103 : ∀ (n : Nat)  (H_103 : Heap) (L_103 : List Loc) (ls : Array Slot), (Sd D G [(2, 3), (2, 4), (2, 5), (2, 6)] s.heap H_103 L_103) → 401 - (fI D H_103 9 a0 5).toInt ≤ (n : Int) → lv_has ls 1 [(0, .ref a0)] → W p l e (rmU 0 0 0) s m args below meth c H_103 L_103 0 0 Q (F0 m 103 ls []) := by
                  intro n
                  induction n with
                  | zero =>
                    intro H_103 L_103 ls S_103 hn hl
                    have rz : 0 ≤ (fI D H_103 9 a0 5).toInt ∧ (fI D H_103 9 a0 5).toInt ≤ 400 := S_103.1.rng ga0 rfl (by decide) rfl
                    exact absurd hn (by omega)
                  | succ n ih103 =>
                    intro H_103 L_103 ls S_103 hn hl
                    refine lv_aload_n hx hb dX9_next_103 rfl (lv_at hl 0 rfl) ?_
                    refine q_gi (T := TX9) C S_103.1 ga0 5 kF_X9_28 dX9_next_104 rfl rfl (by decide) rfl (by decide) rfl ?_
                    have r300 : 0 ≤ (fI D H_103 9 a0 5).toInt ∧ (fI D H_103 9 a0 5).toInt ≤ 400 := S_103.1.rng ga0 rfl (by decide) rfl
                    refine lv_aload_n hx hb dX9_next_107 rfl (lv_at hl 0 rfl) ?_
                    refine q_gi (T := TX9) C S_103.1 ga0 1 kF_X9_15 dX9_next_108 rfl rfl (by decide) rfl (by decide) rfl ?_
                    have r301 : 0 ≤ (fI D H_103 9 a0 1).toInt ∧ (fI D H_103 9 a0 1).toInt ≤ 400 := S_103.1.rng ga0 rfl (by decide) rfl
                    refine lv_icmp_ge (tgt := 311) hx hb dX9_next_111 (by decide) (fun c302 => ?_) (fun c302 => ?_)
                    · have b302 : (fI D H_103 9 a0 1).toInt ≤ (fI D H_103 9 a0 5).toInt := i_le.mp c302
                      exact retE_v hQ C S_103 hr dX9_next_311 (trivial)
                    · have b302 : ¬ (fI D H_103 9 a0 1).toInt ≤ (fI D H_103 9 a0 5).toInt := fun z9 => c302 (i_le.mpr z9)
                      refine lv_aload_n hx hb dX9_next_114 rfl (lv_at hl 0 rfl) ?_
                      refine q_gr (T := TX9) C S_103.1 ga0 0 kF_X9_11 dX9_next_115 rfl rfl (by decide) rfl (by decide) rfl (fun g303 => ?_)
                      refine lv_aload_n hx hb dX9_next_118 rfl (lv_at hl 0 rfl) ?_
                      refine q_gi (T := TX9) C S_103.1 ga0 5 kF_X9_28 dX9_next_119 rfl rfl (by decide) rfl (by decide) rfl ?_
                      have n304 : aN H_103 (fR D H_103 9 a0 0) = 400 := len_3 S_103.1 g303
                      refine q_iald C S_103.1 g303 (by omega) (by omega) dX9_next_122 rfl (by decide) ?_
                      refine lv_topi (fun v305 ev305 => ?_)
                      refine lv_bipush (v := 97) hx hb dX9_next_123 (by decide) ?_
                      refine lv_icmp_lt (tgt := 311) hx hb dX9_next_125 (by decide) (fun c306 => ?_) (fun c306 => ?_)
                      · have b306 : v305.toInt < (97 : Int32).toInt := i_lt.mp c306
                        exact retE_v hQ C S_103 hr dX9_next_311 (trivial)
                      · have b306 : ¬ v305.toInt < (97 : Int32).toInt := fun z9 => c306 (i_lt.mpr z9)
                        refine lv_aload_n hx hb dX9_next_128 rfl (lv_at hl 0 rfl) ?_
                        refine q_gr (T := TX9) C S_103.1 ga0 0 kF_X9_11 dX9_next_129 rfl rfl (by decide) rfl (by decide) rfl (fun g307 => ?_)
                        refine lv_aload_n hx hb dX9_next_132 rfl (lv_at hl 0 rfl) ?_
                        refine q_gi (T := TX9) C S_103.1 ga0 5 kF_X9_28 dX9_next_133 rfl rfl (by decide) rfl (by decide) rfl ?_
                        refine q_iald C S_103.1 g307 (by omega) (by omega) dX9_next_136 rfl (by decide) ?_
                        refine lv_topi (fun v308 ev308 => ?_)
                        refine lv_bipush (v := 122) hx hb dX9_next_137 (by decide) ?_
                        refine lv_icmp_gt (tgt := 311) hx hb dX9_next_139 (by decide) (fun c309 => ?_) (fun c309 => ?_)
                        · have b309 : (122 : Int32).toInt < v308.toInt := i_lt.mp c309
                          exact retE_v hQ C S_103 hr dX9_next_311 (trivial)
                        · have b309 : ¬ (122 : Int32).toInt < v308.toInt := fun z9 => c309 (i_lt.mpr z9)
                          refine lv_aload_n hx hb dX9_next_142 rfl (lv_at hl 0 rfl) ?_
                          refine lv_dup hx hb dX9_next_143 rfl ?_
                          refine q_gi (T := TX9) C S_103.1 ga0 5 kF_X9_28 dX9_next_144 rfl rfl (by decide) rfl (by decide) rfl ?_
                          refine lv_iconst (v := 1) hx hb dX9_next_147 (by decide) ?_
                          refine lv_iadd hx hb dX9_next_148 ?_
                          refine lv_topi (fun v310 ev310 => ?_)
                          have f311 : v310.toInt = (fI D H_103 9 a0 5).toInt + (1 : Int32).toInt := by rw [ev310]; exact i_add (by omega) (by omega)
                          refine q_put (T := TX9) C S_103 ga0 5 kF_X9_28 dX9_next_149 rfl rfl (by decide) (by decide) rfl rfl rfl rfl rfl (vok_i rfl (by omega) (by omega)) (by decide +kernel) (fun H312 L312 S312 P312 => ?_)
                          refine lv_goto (tgt := 103) hx hb dX9_next_152 (by decide) ?_
                          have bk : (fI D H312 9 a0 5).toInt = _ := congrArg Int32.toInt (Pt.i P312)
                          exact ih103  H312 L312 ls S312  (by omega) (lv_sub hl [0] rfl)
                have rn : 0 ≤ (fI D H299 9 a0 5).toInt ∧ (fI D H299 9 a0 5).toInt ≤ 400 := S299.1.rng ga0 rfl (by decide) rfl
                exact Lp103 402  H299 L299 ls S299   (by omega) (lv_sub hl [0] rfl)
          · have b167 : ¬ (fI D H162 9 a0 5).toInt < (fI D H162 9 a0 1).toInt := fun z9 => c167 (i_lt.mpr z9)
            refine lv_aload_n hx hb dX9_next_62 rfl (lv_at hl 0 rfl) ?_
            refine lv_iconst (v := 0) hx hb dX9_next_63 (by decide) ?_
            refine q_put (T := TX9) C S162 ga0 3 kF_X9_22 dX9_next_64 rfl rfl (by decide) (by decide) rfl rfl rfl rfl rfl (vok_a rfl) (by decide +kernel) (fun H313 L313 S313 P313 => ?_)
            refine lv_goto (tgt := 311) hx hb dX9_next_67 (by decide) ?_
            exact retE_v hQ C S313 hr dX9_next_311 (trivial)
        · have b160 : v159.toInt = (32 : Int32).toInt := i_eq.mp c160
          refine lv_aload_n hx hb dX9_next_25 rfl (lv_at hl 0 rfl) ?_
          refine lv_dup hx hb dX9_next_26 rfl ?_
          refine q_gi (T := TX9) C S_0.1 ga0 5 kF_X9_28 dX9_next_27 rfl rfl (by decide) rfl (by decide) rfl ?_
          refine lv_iconst (v := 1) hx hb dX9_next_30 (by decide) ?_
          have k_1 : (1 : Int32).toInt = 1 := by decide
          refine lv_iadd hx hb dX9_next_31 ?_
          refine lv_topi (fun v314 ev314 => ?_)
          have f315 : v314.toInt = (fI D H_0 9 a0 5).toInt + (1 : Int32).toInt := by rw [ev314]; exact i_add (by omega) (by omega)
          refine q_put (T := TX9) C S_0 ga0 5 kF_X9_28 dX9_next_32 rfl rfl (by decide) (by decide) rfl rfl rfl rfl rfl (vok_i rfl (by omega) (by omega)) (by decide +kernel) (fun H316 L316 S316 P316 => ?_)
          refine lv_goto (tgt := 0) hx hb dX9_next_35 (by decide) ?_
          have bk : (fI D H316 9 a0 5).toInt = _ := congrArg Int32.toInt (Pt.i P316)
          exact ih0  H316 L316 ls S316  (by omega) (lv_sub hl [0] rfl)
  have rn : 0 ≤ (fI D s.heap 9 a0 5).toInt ∧ (fI D s.heap 9 a0 5).toInt ≤ 400 := S.1.rng ga0 rfl (by decide) rfl
  exact Lp0 402  s.heap [] ls S   (by omega) (lv_sub hl [0] rfl)

set_option maxRecDepth 100000 in
set_option maxHeartbeats 4000000 in
theorem c_X9_rewind (l : Launch) (D : DD) (G : Nat → Nat) (a0 : Nat) (ga0 : G a0 = 2) : CE l D G yX9_rewind cX9_rewind 1 none 1 [.ref a0] (fun _ => True) [(2, 3), (2, 4), (2, 5), (2, 6), (2, 2)] (xV (fun H H1 => True)) := by
  refine enter (by decide) (Nat.le_of_ble_eq_true rfl) ?_
  intro p e s m args below meth c ls Q hA hQ C hr hO hpre hl
  have hx := C.1
  have hb := C.2.1
  have S : Sd D G [(2, 3), (2, 4), (2, 5), (2, 6), (2, 2)] s.heap s.heap [] := Sd.start hO
  have hl : lv_has ls 1 [(0, .ref a0)] := hl
  refine lv_aload_n hx hb dX9_rewind_0 rfl (lv_at hl 0 rfl) ?_
  refine lv_iconst (v := -1) hx hb dX9_rewind_1 (by decide) ?_
  have k_m1 : (-1 : Int32).toInt = -1 := by decide
  refine q_put (T := TX9) C S ga0 2 kF_X9_19 dX9_rewind_2 rfl rfl (by decide) (by decide) rfl rfl rfl rfl rfl (vok_a rfl) (by decide +kernel) (fun H1 L1 S1 P1 => ?_)
  refine lv_aload_n hx hb dX9_rewind_5 rfl (lv_at hl 0 rfl) ?_
  refine lv_iconst (v := 0) hx hb dX9_rewind_6 (by decide) ?_
  have k_0 : (0 : Int32).toInt = 0 := by decide
  refine q_put (T := TX9) C S1 ga0 5 kF_X9_28 dX9_rewind_7 rfl rfl (by decide) (by decide) rfl rfl rfl rfl rfl (vok_i rfl (by omega) (by omega)) (by decide +kernel) (fun H2 L2 S2 P2 => ?_)
  refine lv_aload_n hx hb dX9_rewind_10 rfl (lv_at hl 0 rfl) ?_
  refine callV_Ev C S2 (c_X9_next l D G a0 ga0) kV_X9_34 ga0 (trivial) (by decide +kernel) dX9_rewind_11 hl.1 rfl rfl (by decide) cd_X9_next ⟨Nat.le_of_ble_eq_true rfl, Nat.le_of_ble_eq_true rfl, Nat.le_of_ble_eq_true rfl, Nat.le_of_ble_eq_true rfl, Nat.le_of_ble_eq_true rfl⟩ (fun H3 L3 S3 K3 q3 => ?_)
  exact retE_v hQ C S3 hr dX9_rewind_14 (trivial)

set_option maxRecDepth 100000 in
set_option maxHeartbeats 4000000 in
theorem c_X9_isSign (l : Launch) (D : DD) (G : Nat → Nat) (a0 : Nat) (x1 : Int32) (ga0 : G a0 = 2) : CP l D G yX9_isSign cX9_isSign 2 (some .boolean) 0 [.ref a0, .int x1] (fun _ => True) (pI (fun H r => 0 ≤ r.toInt ∧ r.toInt ≤ 1)) := by
  refine enter (by decide) (Nat.le_of_ble_eq_true rfl) ?_
  intro p e s m args below meth c ls Q hA hQ C hr hO hpre hl
  have hx := C.1
  have hb := C.2.1
  have hl : lv_has ls 2 [(0, .ref a0), (1, .int x1)] := hl
  refine lv_aload_n hx hb dX9_isSign_0 rfl (lv_at hl 0 rfl) ?_
  refine q_gi (T := TX9) C hO ga0 3 kF_X9_22 dX9_isSign_1 rfl rfl (by decide) rfl (by decide) rfl ?_
  refine lv_iconst (v := 3) hx hb dX9_isSign_4 (by decide) ?_
  have k_3 : (3 : Int32).toInt = 3 := by decide
  refine lv_icmp_ne (tgt := 20) hx hb dX9_isSign_5 (by decide) (fun c1 => ?_) (fun c1 => ?_)
  · have b1 : ¬ (fI D s.heap 9 a0 3).toInt = (3 : Int32).toInt := fun z9 => c1 (i_eq.mpr z9)
    refine lv_iconst (v := 0) hx hb dX9_isSign_20 (by decide) ?_
    have k_0 : (0 : Int32).toInt = 0 := by decide
    exact retP_z hQ C hr dX9_isSign_21 (z01 (by omega) (by omega)) (by omega)
  · have b1 : (fI D s.heap 9 a0 3).toInt = (3 : Int32).toInt := i_eq.mp c1
    refine lv_aload_n hx hb dX9_isSign_8 rfl (lv_at hl 0 rfl) ?_
    refine q_gi (T := TX9) C hO ga0 6 kF_X9_31 dX9_isSign_9 rfl rfl (by decide) rfl (by decide) rfl ?_
    refine lv_iload_n hx hb dX9_isSign_12 rfl (lv_at hl 1 rfl) ?_
    refine lv_icmp_ne (tgt := 20) hx hb dX9_isSign_13 (by decide) (fun c2 => ?_) (fun c2 => ?_)
    · have b2 : ¬ (fI D s.heap 9 a0 6).toInt = x1.toInt := fun z9 => c2 (i_eq.mpr z9)
      refine lv_iconst (v := 0) hx hb dX9_isSign_20 (by decide) ?_
      have k_0 : (0 : Int32).toInt = 0 := by decide
      exact retP_z hQ C hr dX9_isSign_21 (z01 (by omega) (by omega)) (by omega)
    · have b2 : (fI D s.heap 9 a0 6).toInt = x1.toInt := i_eq.mp c2
      refine lv_iconst (v := 1) hx hb dX9_isSign_16 (by decide) ?_
      refine lv_goto (tgt := 21) hx hb dX9_isSign_17 (by decide) ?_
      have k_1 : (1 : Int32).toInt = 1 := by decide
      exact retP_z hQ C hr dX9_isSign_21 (z01 (by omega) (by omega)) (by omega)

set_option maxRecDepth 100000 in
set_option maxHeartbeats 4000000 in
theorem c_X9_refuse (l : Launch) (D : DD) (G : Nat → Nat) (a0 : Nat) (ga0 : G a0 = 2) : CE l D G yX9_refuse cX9_refuse 1 (some .boolean) 0 [.ref a0] (fun _ => True) [(2, 2)] (xI (fun H r H1 => 0 ≤ r.toInt ∧ r.toInt ≤ 1)) := by
  refine enter (by decide) (Nat.le_of_ble_eq_true rfl) ?_
  intro p e s m args below meth c ls Q hA hQ C hr hO hpre hl
  have hx := C.1
  have hb := C.2.1
  have S : Sd D G [(2, 2)] s.heap s.heap [] := Sd.start hO
  have hl : lv_has ls 1 [(0, .ref a0)] := hl
  refine lv_aload_n hx hb dX9_refuse_0 rfl (lv_at hl 0 rfl) ?_
  refine lv_aload_n hx hb dX9_refuse_1 rfl (lv_at hl 0 rfl) ?_
  refine q_gi (T := TX9) C S.1 ga0 4 kF_X9_25 dX9_refuse_2 rfl rfl (by decide) rfl (by decide) rfl ?_
  have r1 : 0 ≤ (fI D s.heap 9 a0 4).toInt ∧ (fI D s.heap 9 a0 4).toInt ≤ 400 := S.1.rng ga0 rfl (by decide) rfl
  refine q_put (T := TX9) C S ga0 2 kF_X9_19 dX9_refuse_5 rfl rfl (by decide) (by decide) rfl rfl rfl rfl rfl (vok_a rfl) (by decide +kernel) (fun H2 L2 S2 P2 => ?_)
  refine lv_iconst (v := 0) hx hb dX9_refuse_8 (by decide) ?_
  have k_0 : (0 : Int32).toInt = 0 := by decide
  exact retE_z hQ C S2 hr dX9_refuse_9 (z01 (by omega) (by omega)) (by omega)

set_option maxRecDepth 100000 in
set_option maxHeartbeats 4000000 in
theorem c_X9_takeSign (l : Launch) (D : DD) (G : Nat → Nat) (a0 : Nat) (x1 : Int32) (ga0 : G a0 = 2) : CE l D G yX9_takeSign cX9_takeSign 2 (some .boolean) 1 [.ref a0, .int x1] (fun _ => True) [(2, 3), (2, 4), (2, 5), (2, 6), (2, 2)] (xI (fun H r H1 => 0 ≤ r.toInt ∧ r.toInt ≤ 1)) := by
  refine enter (by decide) (Nat.le_of_ble_eq_true rfl) ?_
  intro p e s m args below meth c ls Q hA hQ C hr hO hpre hl
  have hx := C.1
  have hb := C.2.1
  have S : Sd D G [(2, 3), (2, 4), (2, 5), (2, 6), (2, 2)] s.heap s.heap [] := Sd.start hO
  have hl : lv_has ls 2 [(0, .ref a0), (1, .int x1)] := hl
  refine lv_aload_n hx hb dX9_takeSign_0 rfl (lv_at hl 0 rfl) ?_
  refine lv_iload_n hx hb dX9_takeSign_1 rfl (lv_at hl 1 rfl) ?_
  refine callV_Pi C S.1 S.2.1.2.1 (c_X9_isSign l D G a0 x1 ga0) kV_X9_54 ga0 (trivial) dX9_takeSign_2 hl.1 rfl rfl (by decide) cd_X9_isSign ⟨Nat.le_of_ble_eq_true rfl, Nat.le_of_ble_eq_true rfl, Nat.le_of_ble_eq_true rfl, Nat.le_of_ble_eq_true rfl, Nat.le_of_ble_eq_true rfl⟩ (fun v1 q1 => ?_)
  have k_0 : (0 : Int32).toInt = 0 := by decide
  refine lv_if_ne (tgt := 13) hx hb dX9_takeSign_5 (by decide) (fun c2 => ?_) (fun c2 => ?_)
  · have b2 : ¬ v1.toInt = (0 : Int32).toInt := fun z9 => c2 (i_eq.mpr z9)
    refine lv_aload_n hx hb dX9_takeSign_13 rfl (lv_at hl 0 rfl) ?_
    refine callV_Ev C S (c_X9_next l D G a0 ga0) kV_X9_34 ga0 (trivial) (by decide +kernel) dX9_takeSign_14 hl.1 rfl rfl (by decide) cd_X9_next ⟨Nat.le_of_ble_eq_true rfl, Nat.le_of_ble_eq_true rfl, Nat.le_of_ble_eq_true rfl, Nat.le_of_ble_eq_true rfl, Nat.le_of_ble_eq_true rfl⟩ (fun H3 L3 S3 K3 q3 => ?_)
    refine lv_iconst (v := 1) hx hb dX9_takeSign_17 (by decide) ?_
    have k_1 : (1 : Int32).toInt = 1 := by decide
    exact retE_z hQ C S3 hr dX9_takeSign_18 (z01 (by omega) (by omega)) (by omega)
  · have b2 : v1.toInt = (0 : Int32).toInt := i_eq.mp c2
    refine lv_aload_n hx hb dX9_takeSign_8 rfl (lv_at hl 0 rfl) ?_
    refine callV_Ei C S (c_X9_refuse l D G a0 ga0) kV_X9_50 ga0 (trivial) (by decide +kernel) dX9_takeSign_9 hl.1 rfl rfl (by decide) cd_X9_refuse ⟨Nat.le_of_ble_eq_true rfl, Nat.le_of_ble_eq_true rfl, Nat.le_of_ble_eq_true rfl, Nat.le_of_ble_eq_true rfl, Nat.le_of_ble_eq_true rfl⟩ (fun v4 H4 L4 S4 K4 q4 => ?_)
    exact retE_z hQ C S4 hr dX9_takeSign_12 (z01 (by omega) (by omega)) (by omega)

set_option maxRecDepth 100000 in
set_option maxHeartbeats 4000000 in
theorem c_X9_takeNumber (l : Launch) (D : DD) (G : Nat → Nat) (a0 : Nat) (x1 : Int32) (x2 : Int32) (ga0 : G a0 = 2) : CE l D G yX9_takeNumber cX9_takeNumber 4 (some .int) 1 [.ref a0, .int x1, .int x2] (fun _ => True) [(2, 3), (2, 4), (2, 5), (2, 6), (2, 2)] (xI (fun H r H1 => r.toInt = -1 ∨ (x1.toInt ≤ r.toInt ∧ r.toInt ≤ x2.toInt))) := by
  refine enter (by decide) (Nat.le_of_ble_eq_true rfl) ?_
  intro p e s m args below meth c ls Q hA hQ C hr hO hpre hl
  have hx := C.1
  have hb := C.2.1
  have S : Sd D G [(2, 3), (2, 4), (2, 5), (2, 6), (2, 2)] s.heap s.heap [] := Sd.start hO
  have hl : lv_has ls 4 [(0, .ref a0), (1, .int x1), (2, .int x2)] := hl
  refine lv_aload_n hx hb dX9_takeNumber_0 rfl (lv_at hl 0 rfl) ?_
  refine q_gi (T := TX9) C S.1 ga0 3 kF_X9_22 dX9_takeNumber_1 rfl rfl (by decide) rfl (by decide) rfl ?_
  refine lv_iconst (v := 2) hx hb dX9_takeNumber_4 (by decide) ?_
  have k_2 : (2 : Int32).toInt = 2 := by decide
  refine lv_icmp_ne (tgt := 24) hx hb dX9_takeNumber_5 (by decide) (fun c1 => ?_) (fun c1 => ?_)
  · have b1 : ¬ (fI D s.heap 9 a0 3).toInt = (2 : Int32).toInt := fun z9 => c1 (i_eq.mpr z9)
    refine lv_aload_n hx hb dX9_takeNumber_24 rfl (lv_at hl 0 rfl) ?_
    refine callV_Ei C S (c_X9_refuse l D G a0 ga0) kV_X9_50 ga0 (trivial) (by decide +kernel) dX9_takeNumber_25 hl.1 rfl rfl (by decide) cd_X9_refuse ⟨Nat.le_of_ble_eq_true rfl, Nat.le_of_ble_eq_true rfl, Nat.le_of_ble_eq_true rfl, Nat.le_of_ble_eq_true rfl, Nat.le_of_ble_eq_true rfl⟩ (fun v2 H2 L2 S2 K2 q2 => ?_)
    refine lv_pop hx hb dX9_takeNumber_28 rfl ?_
    refine lv_iconst (v := -1) hx hb dX9_takeNumber_29 (by decide) ?_
    have k_m1 : (-1 : Int32).toInt = -1 := by decide
    exact retE_i hQ C S2 hr dX9_takeNumber_30 (by omega)
  · have b1 : (fI D s.heap 9 a0 3).toInt = (2 : Int32).toInt := i_eq.mp c1
    refine lv_aload_n hx hb dX9_takeNumber_8 rfl (lv_at hl 0 rfl) ?_
    refine q_gi (T := TX9) C S.1 ga0 6 kF_X9_31 dX9_takeNumber_9 rfl rfl (by decide) rfl (by decide) rfl ?_
    refine lv_iload_n hx hb dX9_takeNumber_12 rfl (lv_at hl 1 rfl) ?_
    refine lv_icmp_lt (tgt := 24) hx hb dX9_takeNumber_13 (by decide) (fun c3 => ?_) (fun c3 => ?_)
    · have b3 : (fI D s.heap 9 a0 6).toInt < x1.toInt := i_lt.mp c3
      refine lv_aload_n hx hb dX9_takeNumber_24 rfl (lv_at hl 0 rfl) ?_
      refine callV_Ei C S (c_X9_refuse l D G a0 ga0) kV_X9_50 ga0 (trivial) (by decide +kernel) dX9_takeNumber_25 hl.1 rfl rfl (by decide) cd_X9_refuse ⟨Nat.le_of_ble_eq_true rfl, Nat.le_of_ble_eq_true rfl, Nat.le_of_ble_eq_true rfl, Nat.le_of_ble_eq_true rfl, Nat.le_of_ble_eq_true rfl⟩ (fun v4 H4 L4 S4 K4 q4 => ?_)
      refine lv_pop hx hb dX9_takeNumber_28 rfl ?_
      refine lv_iconst (v := -1) hx hb dX9_takeNumber_29 (by decide) ?_
      have k_m1 : (-1 : Int32).toInt = -1 := by decide
      exact retE_i hQ C S4 hr dX9_takeNumber_30 (by omega)
    · have b3 : ¬ (fI D s.heap 9 a0 6).toInt < x1.toInt := fun z9 => c3 (i_lt.mpr z9)
      refine lv_aload_n hx hb dX9_takeNumber_16 rfl (lv_at hl 0 rfl) ?_
      refine q_gi (T := TX9) C S.1 ga0 6 kF_X9_31 dX9_takeNumber_17 rfl rfl (by decide) rfl (by decide) rfl ?_
      refine lv_iload_n hx hb dX9_takeNumber_20 rfl (lv_at hl 2 rfl) ?_
      refine lv_icmp_le (tgt := 31) hx hb dX9_takeNumber_21 (by decide) (fun c5 => ?_) (fun c5 => ?_)
      · have b5 : (fI D s.heap 9 a0 6).toInt ≤ x2.toInt := i_le.mp c5
        refine lv_aload_n hx hb dX9_takeNumber_31 rfl (lv_at hl 0 rfl) ?_
        refine q_gi (T := TX9) C S.1 ga0 6 kF_X9_31 dX9_takeNumber_32 rfl rfl (by decide) rfl (by decide) rfl ?_
        refine lv_istore_n (lv' := [(3, .int (fI D s.heap 9 a0 6)), (0, .ref a0), (1, .int x1), (2, .int x2)]) hx hb dX9_takeNumber_35 rfl hl (by decide) rfl (fun ls hl => ?_)
        refine lv_aload_n hx hb dX9_takeNumber_36 rfl (lv_at hl 1 rfl) ?_
        refine callV_Ev C S (c_X9_next l D G a0 ga0) kV_X9_34 ga0 (trivial) (by decide +kernel) dX9_takeNumber_37 hl.1 rfl rfl (by decide) cd_X9_next ⟨Nat.le_of_ble_eq_true rfl, Nat.le_of_ble_eq_true rfl, Nat.le_of_ble_eq_true rfl, Nat.le_of_ble_eq_true rfl, Nat.le_of_ble_eq_true rfl⟩ (fun H6 L6 S6 K6 q6 => ?_)
        refine lv_iload_n hx hb dX9_takeNumber_40 rfl (lv_at hl 0 rfl) ?_
        exact retE_i hQ C S6 hr dX9_takeNumber_41 (by omega)
      · have b5 : ¬ (fI D s.heap 9 a0 6).toInt ≤ x2.toInt := fun z9 => c5 (i_le.mpr z9)
        refine lv_aload_n hx hb dX9_takeNumber_24 rfl (lv_at hl 0 rfl) ?_
        refine callV_Ei C S (c_X9_refuse l D G a0 ga0) kV_X9_50 ga0 (trivial) (by decide +kernel) dX9_takeNumber_25 hl.1 rfl rfl (by decide) cd_X9_refuse ⟨Nat.le_of_ble_eq_true rfl, Nat.le_of_ble_eq_true rfl, Nat.le_of_ble_eq_true rfl, Nat.le_of_ble_eq_true rfl, Nat.le_of_ble_eq_true rfl⟩ (fun v7 H7 L7 S7 K7 q7 => ?_)
        refine lv_pop hx hb dX9_takeNumber_28 rfl ?_
        refine lv_iconst (v := -1) hx hb dX9_takeNumber_29 (by decide) ?_
        have k_m1 : (-1 : Int32).toInt = -1 := by decide
        exact retE_i hQ C S7 hr dX9_takeNumber_30 (by omega)
