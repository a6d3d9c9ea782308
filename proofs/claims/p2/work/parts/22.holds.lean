set_option maxRecDepth 100000 in
set_option maxHeartbeats 4000000 in
theorem c_X12_holdsLine (l : Launch) (D : DD) (G : Nat → Nat) (a0 : Nat) (x1 : Int32) (x2 : Int32) (ga0 : G a0 = 30) (ix1 : 0 ≤ x1.toInt ∧ x1.toInt ≤ 11) (ix2 : 0 ≤ x2.toInt ∧ x2.toInt ≤ 11) : CE l D G yX12_holdsLine cX12_holdsLine 10 (some .boolean) 6 [.ref a0, .int x1, .int x2] (fun H => x1.toInt < (eI H (fR D H 11 a0 1) 354).toInt) [(38, 0)] (xI (fun H r H1 => 0 ≤ r.toInt ∧ r.toInt ≤ 1)) := by
  refine enter (by decide) (Nat.le_of_ble_eq_true rfl) ?_
  intro p e s m args below meth c ls Q hA hQ C hr hO hpre hl
  have hx := C.1
  have hb := C.2.1
  have S : Sd D G [(38, 0)] s.heap s.heap [] := Sd.start hO
  have hl : lv_has ls 10 [(0, .ref a0), (1, .int x1), (2, .int x2)] := hl
  sorry

set_option maxRecDepth 100000 in
set_option maxHeartbeats 4000000 in
theorem c_X12_remembers (l : Launch) (D : DD) (G : Nat → Nat) (a0 : Nat) (ga0 : G a0 = 30) : CE l D G yX12_remembers cX12_remembers 2 none 0 [.ref a0] (fun _ => True) [(35, 0), (30, 7)] (xV (fun H H1 => True)) := by
  refine enter (by decide) (Nat.le_of_ble_eq_true rfl) ?_
  intro p e s m args below meth c ls Q hA hQ C hr hO hpre hl
  have hx := C.1
  have hb := C.2.1
  have S : Sd D G [(35, 0), (30, 7)] s.heap s.heap [] := Sd.start hO
  have hl : lv_has ls 2 [(0, .ref a0)] := hl
  refine lv_aload_n hx hb dX12_remembers_0 rfl (lv_at hl 0 rfl) ?_
  refine q_gi (T := TX12) C S.1 ga0 7 kF_X12_46 dX12_remembers_1 rfl rfl (by decide) rfl (by decide) rfl ?_
  have r1 : 0 ≤ (fI D s.heap 11 a0 7).toInt ∧ (fI D s.heap 11 a0 7).toInt ≤ 12 := S.1.rng ga0 rfl (by decide) rfl
  refine lv_bipush (v := 12) hx hb dX12_remembers_4 (by decide) ?_
  have k_12 : (12 : Int32).toInt = 12 := by decide
  refine lv_icmp_ne (tgt := 43) hx hb dX12_remembers_6 (by decide) (fun c2 => ?_) (fun c2 => ?_)
  · have b2 : ¬ (fI D s.heap 11 a0 7).toInt = (12 : Int32).toInt := fun z9 => c2 (i_eq.mpr z9)
    refine lv_aload_n hx hb dX12_remembers_43 rfl (lv_at hl 0 rfl) ?_
    refine lv_dup hx hb dX12_remembers_44 rfl ?_
    refine q_gi (T := TX12) C S.1 ga0 7 kF_X12_46 dX12_remembers_45 rfl rfl (by decide) rfl (by decide) rfl ?_
    refine lv_iconst (v := 1) hx hb dX12_remembers_48 (by decide) ?_
    have k_1 : (1 : Int32).toInt = 1 := by decide
    refine lv_iadd hx hb dX12_remembers_49 ?_
    refine lv_topi (fun v3 ev3 => ?_)
    have f4 : v3.toInt = (fI D s.heap 11 a0 7).toInt + (1 : Int32).toInt := by rw [ev3]; exact i_add (by omega) (by omega)
    refine q_put (T := TX12) C S ga0 7 kF_X12_46 dX12_remembers_50 rfl rfl (by decide) (by decide) rfl rfl rfl rfl rfl (vok_i rfl (by omega) (by omega)) (by decide) (fun H5 L5 S5 P5 => ?_)
    refine lv_iconst (v := 0) hx hb dX12_remembers_53 (by decide) ?_
    refine lv_istore_n (lv' := [(1, .int (0 : Int32)), (0, .ref a0)]) hx hb dX12_remembers_54 rfl hl (by decide) rfl (fun ls hl => ?_)
    have Lp55 : ∀ (n : Nat) (x1_55 : Int32) (H_55 : Heap) (L_55 : List Loc) (ls : Array Slot), (Sd D G [(35, 0), (30, 7)] s.heap H_55 L_55) → (0 ≤ x1_55.toInt ∧ x1_55.toInt ≤ 354) → (1 ≤ (fI D H_55 11 a0 7).toInt) → 355 - x1_55.toInt ≤ (n : Int) → lv_has ls 2 [(1, .int x1_55), (0, .ref a0)] → W p l e (rmU 0 0 0) s m args below meth c H_55 L_55 0 0 Q (F0 m 55 ls []) := by
      intro n
      induction n with
      | zero =>
        intro x1_55 H_55 L_55 ls S_55 j55_0 u55_0 hn hl
        exact absurd hn (by omega)
      | succ n ih55 =>
        intro x1_55 H_55 L_55 ls S_55 j55_0 u55_0 hn hl
        refine lv_iload_n hx hb dX12_remembers_55 rfl (lv_at hl 0 rfl) ?_
        refine lv_sipush (v := 354) hx hb dX12_remembers_56 (by decide) ?_
        have k_354 : (354 : Int32).toInt = 354 := by decide
        refine lv_icmp_ge (tgt := 91) hx hb dX12_remembers_59 (by decide) (fun c6 => ?_) (fun c6 => ?_)
        · have b6 : (354 : Int32).toInt ≤ x1_55.toInt := i_le.mp c6
          exact retE_v hQ C S_55 hr dX12_remembers_91 (trivial)
        · have b6 : ¬ (354 : Int32).toInt ≤ x1_55.toInt := fun z9 => c6 (i_le.mpr z9)
          refine lv_aload_n hx hb dX12_remembers_62 rfl (lv_at hl 1 rfl) ?_
          refine q_gr (T := TX12) C S_55.1 ga0 5 kF_X12_26 dX12_remembers_63 rfl rfl (by decide) rfl (by decide) rfl (fun g7 => ?_)
          refine lv_sipush (v := 354) hx hb dX12_remembers_66 (by decide) ?_
          refine lv_aload_n hx hb dX12_remembers_69 rfl (lv_at hl 1 rfl) ?_
          refine q_gi (T := TX12) C S_55.1 ga0 7 kF_X12_46 dX12_remembers_70 rfl rfl (by decide) rfl (by decide) rfl ?_
          have r8 : 0 ≤ (fI D H_55 11 a0 7).toInt ∧ (fI D H_55 11 a0 7).toInt ≤ 12 := S_55.1.rng ga0 rfl (by decide) rfl
          refine lv_iconst (v := 1) hx hb dX12_remembers_73 (by decide) ?_
          refine lv_isub hx hb dX12_remembers_74 ?_
          refine lv_topi (fun v9 ev9 => ?_)
          have f10 : v9.toInt = (fI D H_55 11 a0 7).toInt - (1 : Int32).toInt := by rw [ev9]; exact i_sub (by omega) (by omega)
          refine lv_imul hx hb dX12_remembers_75 ?_
          refine lv_topi (fun v11 ev11 => ?_)
          have f12 : v11.toInt = (354) * v9.toInt := by rw [ev11]; exact i_cmul k_354 (by omega) (by omega)
          refine lv_iload_n hx hb dX12_remembers_76 rfl (lv_at hl 0 rfl) ?_
          refine lv_iadd hx hb dX12_remembers_77 ?_
          refine lv_topi (fun v13 ev13 => ?_)
          have f14 : v13.toInt = v11.toInt + x1_55.toInt := by rw [ev13]; exact i_add (by omega) (by omega)
          refine lv_aload_n hx hb dX12_remembers_78 rfl (lv_at hl 1 rfl) ?_
          refine q_gr (T := TX12) C S_55.1 ga0 1 kF_X12_13 dX12_remembers_79 rfl rfl (by decide) rfl (by decide) rfl (fun g15 => ?_)
          refine lv_iload_n hx hb dX12_remembers_82 rfl (lv_at hl 0 rfl) ?_
          have n16 : aN H_55 (fR D H_55 11 a0 1) = 2052 := len_31 S_55.1 g15
          refine q_iald C S_55.1 g15 (by omega) (by omega) dX12_remembers_83 rfl (by decide) ?_
          refine lv_topi (fun v17 ev17 => ?_)
          have wc : WAt x1_55.toInt.toNat v17 := by rw [ev17]; exact wa_31 S_55.1 g15 _ (by omega)
          have n18 : aN H_55 (fR D H_55 11 a0 5) = 4248 := len_35 S_55.1 g7
          refine q_iast C S_55 g7 (by omega) (by omega) dX12_remembers_84 rfl (by decide) (by decide) (fun _ _ h => wk_35 ((fI D H_55 11 a0 7).toInt.toNat - 1) _ _ (by omega) (by omega) wc (by omega) h) (fun H19 L19 S19 P19 => ?_)
          obtain ⟨v20, ev20⟩ : ∃ y : Int32, y = x1_55 + (1) := ⟨_, rfl⟩
          have f21 : v20.toInt = x1_55.toInt + (1) := by rw [ev20]; exact i_addc k_1 (by omega) (by omega)
          refine lv_iinc (v := v20) (lv' := [(1, .int v20), (0, .ref a0)]) hx hb dX12_remembers_85 hl (k := 0) rfl (by rw [ev20]; rfl) (by decide) rfl (fun ls hl => ?_)
          refine lv_goto (tgt := 55) hx hb dX12_remembers_88 (by decide) ?_
          exact ih55 v20 H19 L19 ls S19 (by omega) (by rw [Pa.f P19 (ne_role ga0 g7 (by decide))]; omega) (by omega) (lv_sub hl [0, 1] rfl)
    have k_0 : (0 : Int32).toInt = 0 := by decide
    exact Lp55 355 (0 : Int32) H5 L5 ls S5 (by omega) (by first | omega | (rw [Pt.i P5]; omega))  (by omega) (lv_sub hl [0, 1] rfl)
  · have b2 : (fI D s.heap 11 a0 7).toInt = (12 : Int32).toInt := i_eq.mp c2
    refine lv_iconst (v := 0) hx hb dX12_remembers_9 (by decide) ?_
    refine lv_istore_n (lv' := [(1, .int (0 : Int32)), (0, .ref a0)]) hx hb dX12_remembers_10 rfl hl (by decide) rfl (fun ls hl => ?_)
    have Lp11 : ∀ (n : Nat) (x1_11 : Int32) (H_11 : Heap) (L_11 : List Loc) (ls : Array Slot), (Sd D G [(35, 0), (30, 7)] s.heap H_11 L_11) → (0 ≤ x1_11.toInt ∧ x1_11.toInt ≤ 3894) → ((fI D H_11 11 a0 7).toInt = 12) → 3895 - x1_11.toInt ≤ (n : Int) → lv_has ls 2 [(1, .int x1_11), (0, .ref a0)] → W p l e (rmU 0 0 0) s m args below meth c H_11 L_11 0 0 Q (F0 m 11 ls []) := by
      intro n
      induction n with
      | zero =>
        intro x1_11 H_11 L_11 ls S_11 j11_0 u11_0 hn hl
        exact absurd hn (by omega)
      | succ n ih11 =>
        intro x1_11 H_11 L_11 ls S_11 j11_0 u11_0 hn hl
        refine lv_iload_n hx hb dX12_remembers_11 rfl (lv_at hl 0 rfl) ?_
        refine lv_sipush (v := 3894) hx hb dX12_remembers_12 (by decide) ?_
        have k_3894 : (3894 : Int32).toInt = 3894 := by decide
        refine lv_icmp_ge (tgt := 40) hx hb dX12_remembers_15 (by decide) (fun c22 => ?_) (fun c22 => ?_)
        · have b22 : (3894 : Int32).toInt ≤ x1_11.toInt := i_le.mp c22
          refine lv_goto (tgt := 53) hx hb dX12_remembers_40 (by decide) ?_
          refine lv_iconst (v := 0) hx hb dX12_remembers_53 (by decide) ?_
          refine lv_istore_n (lv' := [(1, .int (0 : Int32)), (0, .ref a0)]) hx hb dX12_remembers_54 rfl hl (by decide) rfl (fun ls hl => ?_)
          have Lp55 : ∀ (n : Nat) (x1_55 : Int32) (H_55 : Heap) (L_55 : List Loc) (ls : Array Slot), (Sd D G [(35, 0), (30, 7)] s.heap H_55 L_55) → (0 ≤ x1_55.toInt ∧ x1_55.toInt ≤ 354) → (1 ≤ (fI D H_55 11 a0 7).toInt) → 355 - x1_55.toInt ≤ (n : Int) → lv_has ls 2 [(1, .int x1_55), (0, .ref a0)] → W p l e (rmU 0 0 0) s m args below meth c H_55 L_55 0 0 Q (F0 m 55 ls []) := by
            intro n
            induction n with
            | zero =>
              intro x1_55 H_55 L_55 ls S_55 j55_0 u55_0 hn hl
              exact absurd hn (by omega)
            | succ n ih55 =>
              intro x1_55 H_55 L_55 ls S_55 j55_0 u55_0 hn hl
              refine lv_iload_n hx hb dX12_remembers_55 rfl (lv_at hl 0 rfl) ?_
              refine lv_sipush (v := 354) hx hb dX12_remembers_56 (by decide) ?_
              have k_354 : (354 : Int32).toInt = 354 := by decide
              refine lv_icmp_ge (tgt := 91) hx hb dX12_remembers_59 (by decide) (fun c23 => ?_) (fun c23 => ?_)
              · have b23 : (354 : Int32).toInt ≤ x1_55.toInt := i_le.mp c23
                exact retE_v hQ C S_55 hr dX12_remembers_91 (trivial)
              · have b23 : ¬ (354 : Int32).toInt ≤ x1_55.toInt := fun z9 => c23 (i_le.mpr z9)
                refine lv_aload_n hx hb dX12_remembers_62 rfl (lv_at hl 1 rfl) ?_
                refine q_gr (T := TX12) C S_55.1 ga0 5 kF_X12_26 dX12_remembers_63 rfl rfl (by decide) rfl (by decide) rfl (fun g24 => ?_)
                refine lv_sipush (v := 354) hx hb dX12_remembers_66 (by decide) ?_
                refine lv_aload_n hx hb dX12_remembers_69 rfl (lv_at hl 1 rfl) ?_
                refine q_gi (T := TX12) C S_55.1 ga0 7 kF_X12_46 dX12_remembers_70 rfl rfl (by decide) rfl (by decide) rfl ?_
                have r25 : 0 ≤ (fI D H_55 11 a0 7).toInt ∧ (fI D H_55 11 a0 7).toInt ≤ 12 := S_55.1.rng ga0 rfl (by decide) rfl
                refine lv_iconst (v := 1) hx hb dX12_remembers_73 (by decide) ?_
                have k_1 : (1 : Int32).toInt = 1 := by decide
                refine lv_isub hx hb dX12_remembers_74 ?_
                refine lv_topi (fun v26 ev26 => ?_)
                have f27 : v26.toInt = (fI D H_55 11 a0 7).toInt - (1 : Int32).toInt := by rw [ev26]; exact i_sub (by omega) (by omega)
                refine lv_imul hx hb dX12_remembers_75 ?_
                refine lv_topi (fun v28 ev28 => ?_)
                have f29 : v28.toInt = (354) * v26.toInt := by rw [ev28]; exact i_cmul k_354 (by omega) (by omega)
                refine lv_iload_n hx hb dX12_remembers_76 rfl (lv_at hl 0 rfl) ?_
                refine lv_iadd hx hb dX12_remembers_77 ?_
                refine lv_topi (fun v30 ev30 => ?_)
                have f31 : v30.toInt = v28.toInt + x1_55.toInt := by rw [ev30]; exact i_add (by omega) (by omega)
                refine lv_aload_n hx hb dX12_remembers_78 rfl (lv_at hl 1 rfl) ?_
                refine q_gr (T := TX12) C S_55.1 ga0 1 kF_X12_13 dX12_remembers_79 rfl rfl (by decide) rfl (by decide) rfl (fun g32 => ?_)
                refine lv_iload_n hx hb dX12_remembers_82 rfl (lv_at hl 0 rfl) ?_
                have n33 : aN H_55 (fR D H_55 11 a0 1) = 2052 := len_31 S_55.1 g32
                refine q_iald C S_55.1 g32 (by omega) (by omega) dX12_remembers_83 rfl (by decide) ?_
                refine lv_topi (fun v34 ev34 => ?_)
                have wc : WAt x1_55.toInt.toNat v34 := by rw [ev34]; exact wa_31 S_55.1 g32 _ (by omega)
                have n35 : aN H_55 (fR D H_55 11 a0 5) = 4248 := len_35 S_55.1 g24
                refine q_iast C S_55 g24 (by omega) (by omega) dX12_remembers_84 rfl (by decide) (by decide) (fun _ _ h => wk_35 ((fI D H_55 11 a0 7).toInt.toNat - 1) _ _ (by omega) (by omega) wc (by omega) h) (fun H36 L36 S36 P36 => ?_)
                obtain ⟨v37, ev37⟩ : ∃ y : Int32, y = x1_55 + (1) := ⟨_, rfl⟩
                have f38 : v37.toInt = x1_55.toInt + (1) := by rw [ev37]; exact i_addc k_1 (by omega) (by omega)
                refine lv_iinc (v := v37) (lv' := [(1, .int v37), (0, .ref a0)]) hx hb dX12_remembers_85 hl (k := 0) rfl (by rw [ev37]; rfl) (by decide) rfl (fun ls hl => ?_)
                refine lv_goto (tgt := 55) hx hb dX12_remembers_88 (by decide) ?_
                exact ih55 v37 H36 L36 ls S36 (by omega) (by rw [Pa.f P36 (ne_role ga0 g24 (by decide))]; omega) (by omega) (lv_sub hl [0, 1] rfl)
          have k_0 : (0 : Int32).toInt = 0 := by decide
          exact Lp55 355 (0 : Int32) H_11 L_11 ls S_11 (by omega) (by first | omega | (rw [Pt.i ]; omega))  (by omega) (lv_sub hl [0, 1] rfl)
        · have b22 : ¬ (3894 : Int32).toInt ≤ x1_11.toInt := fun z9 => c22 (i_le.mpr z9)
          refine lv_aload_n hx hb dX12_remembers_18 rfl (lv_at hl 1 rfl) ?_
          refine q_gr (T := TX12) C S_11.1 ga0 5 kF_X12_26 dX12_remembers_19 rfl rfl (by decide) rfl (by decide) rfl (fun g39 => ?_)
          refine lv_iload_n hx hb dX12_remembers_22 rfl (lv_at hl 0 rfl) ?_
          refine lv_aload_n hx hb dX12_remembers_23 rfl (lv_at hl 1 rfl) ?_
          refine q_gr (T := TX12) C S_11.1 ga0 5 kF_X12_26 dX12_remembers_24 rfl rfl (by decide) rfl (by decide) rfl (fun g40 => ?_)
          refine lv_iload_n hx hb dX12_remembers_27 rfl (lv_at hl 0 rfl) ?_
          refine lv_sipush (v := 354) hx hb dX12_remembers_28 (by decide) ?_
          have k_354 : (354 : Int32).toInt = 354 := by decide
          refine lv_iadd hx hb dX12_remembers_31 ?_
          refine lv_topi (fun v41 ev41 => ?_)
          have f42 : v41.toInt = x1_11.toInt + (354 : Int32).toInt := by rw [ev41]; exact i_add (by omega) (by omega)
          have n43 : aN H_11 (fR D H_11 11 a0 5) = 4248 := len_35 S_11.1 g40
          refine q_iald C S_11.1 g40 (by omega) (by omega) dX12_remembers_32 rfl (by decide) ?_
          refine lv_topi (fun v44 ev44 => ?_)
          have wc : WAt (x1_11.toInt.toNat % 354) v44 := by rw [ev44]; exact wa_35e S_11.1 g40 (x1_11.toInt.toNat / 354 + 1) (by omega) (by omega) (by omega)
          refine q_iast C S_11 g39 (by omega) (by omega) dX12_remembers_33 rfl (by decide) (by decide) (fun _ _ h => wk_35 (x1_11.toInt.toNat / 354) _ _ (by omega) (by omega) wc (by omega) h) (fun H45 L45 S45 P45 => ?_)
          obtain ⟨v46, ev46⟩ : ∃ y : Int32, y = x1_11 + (1) := ⟨_, rfl⟩
          have k_1 : (1 : Int32).toInt = 1 := by decide
          have f47 : v46.toInt = x1_11.toInt + (1) := by rw [ev46]; exact i_addc k_1 (by omega) (by omega)
          refine lv_iinc (v := v46) (lv' := [(1, .int v46), (0, .ref a0)]) hx hb dX12_remembers_34 hl (k := 0) rfl (by rw [ev46]; rfl) (by decide) rfl (fun ls hl => ?_)
          refine lv_goto (tgt := 11) hx hb dX12_remembers_37 (by decide) ?_
          exact ih11 v46 H45 L45 ls S45 (by omega) (by rw [Pa.f P45 (ne_role ga0 g39 (by decide))]; omega) (by omega) (lv_sub hl [0, 1] rfl)
    have k_0 : (0 : Int32).toInt = 0 := by decide
    exact Lp11 3895 (0 : Int32) s.heap [] ls S (by omega) (by omega)  (by omega) (lv_sub hl [0, 1] rfl)

set_option maxRecDepth 100000 in
set_option maxHeartbeats 4000000 in
theorem c_X12_keepsAll (l : Launch) (D : DD) (G : Nat → Nat) (a0 : Nat) (ga0 : G a0 = 30) : CE l D G yX12_keepsAll cX12_keepsAll 2 none 0 [.ref a0] (fun _ => True) [(34, 0)] (xV (fun H H1 => True)) := by
  refine enter (by decide) (Nat.le_of_ble_eq_true rfl) ?_
  intro p e s m args below meth c ls Q hA hQ C hr hO hpre hl
  have hx := C.1
  have hb := C.2.1
  have S : Sd D G [(34, 0)] s.heap s.heap [] := Sd.start hO
  have hl : lv_has ls 2 [(0, .ref a0)] := hl
  refine lv_iconst (v := 0) hx hb dX12_keepsAll_0 (by decide) ?_
  refine lv_istore_n (lv' := [(1, .int (0 : Int32)), (0, .ref a0)]) hx hb dX12_keepsAll_1 rfl hl (by decide) rfl (fun ls hl => ?_)
  have Lp2 : ∀ (n : Nat) (x1_2 : Int32) (H_2 : Heap) (L_2 : List Loc) (ls : Array Slot), (Sd D G [(34, 0)] s.heap H_2 L_2) → (0 ≤ x1_2.toInt ∧ x1_2.toInt ≤ 354) → 355 - x1_2.toInt ≤ (n : Int) → lv_has ls 2 [(1, .int x1_2), (0, .ref a0)] → W p l e (rmU 0 0 0) s m args below meth c H_2 L_2 0 0 Q (F0 m 2 ls []) := by
    intro n
    induction n with
    | zero =>
      intro x1_2 H_2 L_2 ls S_2 j2_0 hn hl
      exact absurd hn (by omega)
    | succ n ih2 =>
      intro x1_2 H_2 L_2 ls S_2 j2_0 hn hl
      refine lv_iload_n hx hb dX12_keepsAll_2 rfl (lv_at hl 0 rfl) ?_
      refine lv_sipush (v := 354) hx hb dX12_keepsAll_3 (by decide) ?_
      have k_354 : (354 : Int32).toInt = 354 := by decide
      refine lv_icmp_ge (tgt := 27) hx hb dX12_keepsAll_6 (by decide) (fun c1 => ?_) (fun c1 => ?_)
      · have b1 : (354 : Int32).toInt ≤ x1_2.toInt := i_le.mp c1
        exact retE_v hQ C S_2 hr dX12_keepsAll_27 (trivial)
      · have b1 : ¬ (354 : Int32).toInt ≤ x1_2.toInt := fun z9 => c1 (i_le.mpr z9)
        refine lv_aload_n hx hb dX12_keepsAll_9 rfl (lv_at hl 1 rfl) ?_
        refine q_gr (T := TX12) C S_2.1 ga0 4 kF_X12_23 dX12_keepsAll_10 rfl rfl (by decide) rfl (by decide) rfl (fun g2 => ?_)
        refine lv_iload_n hx hb dX12_keepsAll_13 rfl (lv_at hl 0 rfl) ?_
        refine lv_aload_n hx hb dX12_keepsAll_14 rfl (lv_at hl 1 rfl) ?_
        refine q_gr (T := TX12) C S_2.1 ga0 1 kF_X12_13 dX12_keepsAll_15 rfl rfl (by decide) rfl (by decide) rfl (fun g3 => ?_)
        refine lv_iload_n hx hb dX12_keepsAll_18 rfl (lv_at hl 0 rfl) ?_
        have n4 : aN H_2 (fR D H_2 11 a0 1) = 2052 := len_31 S_2.1 g3
        refine q_iald C S_2.1 g3 (by omega) (by omega) dX12_keepsAll_19 rfl (by decide) ?_
        refine lv_topi (fun v5 ev5 => ?_)
        have wc : WAt x1_2.toInt.toNat v5 := by rw [ev5]; exact wa_31 S_2.1 g3 _ (by omega)
        have n6 : aN H_2 (fR D H_2 11 a0 4) = 354 := len_34 S_2.1 g2
        refine q_iast C S_2 g2 (by omega) (by omega) dX12_keepsAll_20 rfl (by decide) (by decide) (fun _ _ h => wk_34 _ _ wc h) (fun H7 L7 S7 P7 => ?_)
        obtain ⟨v8, ev8⟩ : ∃ y : Int32, y = x1_2 + (1) := ⟨_, rfl⟩
        have k_1 : (1 : Int32).toInt = 1 := by decide
        have f9 : v8.toInt = x1_2.toInt + (1) := by rw [ev8]; exact i_addc k_1 (by omega) (by omega)
        refine lv_iinc (v := v8) (lv' := [(1, .int v8), (0, .ref a0)]) hx hb dX12_keepsAll_21 hl (k := 0) rfl (by rw [ev8]; rfl) (by decide) rfl (fun ls hl => ?_)
        refine lv_goto (tgt := 2) hx hb dX12_keepsAll_24 (by decide) ?_
        exact ih2 v8 H7 L7 ls S7 (by omega) (by omega) (lv_sub hl [0, 1] rfl)
  have k_0 : (0 : Int32).toInt = 0 := by decide
  exact Lp2 355 (0 : Int32) s.heap [] ls S (by omega)  (by omega) (lv_sub hl [0, 1] rfl)

set_option maxRecDepth 100000 in
set_option maxHeartbeats 4000000 in
theorem c_X12_bringsBack (l : Launch) (D : DD) (G : Nat → Nat) (a0 : Nat) (ga0 : G a0 = 30) : CE l D G yX12_bringsBack cX12_bringsBack 2 none 0 [.ref a0] (fun _ => True) [(31, 0)] (xV (fun H H1 => True)) := by
  refine enter (by decide) (Nat.le_of_ble_eq_true rfl) ?_
  intro p e s m args below meth c ls Q hA hQ C hr hO hpre hl
  have hx := C.1
  have hb := C.2.1
  have S : Sd D G [(31, 0)] s.heap s.heap [] := Sd.start hO
  have hl : lv_has ls 2 [(0, .ref a0)] := hl
  refine lv_iconst (v := 0) hx hb dX12_bringsBack_0 (by decide) ?_
  refine lv_istore_n (lv' := [(1, .int (0 : Int32)), (0, .ref a0)]) hx hb dX12_bringsBack_1 rfl hl (by decide) rfl (fun ls hl => ?_)
  have Lp2 : ∀ (n : Nat) (x1_2 : Int32) (H_2 : Heap) (L_2 : List Loc) (ls : Array Slot), (Sd D G [(31, 0)] s.heap H_2 L_2) → (0 ≤ x1_2.toInt ∧ x1_2.toInt ≤ 354) → 355 - x1_2.toInt ≤ (n : Int) → lv_has ls 2 [(1, .int x1_2), (0, .ref a0)] → W p l e (rmU 0 0 0) s m args below meth c H_2 L_2 0 0 Q (F0 m 2 ls []) := by
    intro n
    induction n with
    | zero =>
      intro x1_2 H_2 L_2 ls S_2 j2_0 hn hl
      exact absurd hn (by omega)
    | succ n ih2 =>
      intro x1_2 H_2 L_2 ls S_2 j2_0 hn hl
      refine lv_iload_n hx hb dX12_bringsBack_2 rfl (lv_at hl 0 rfl) ?_
      refine lv_sipush (v := 354) hx hb dX12_bringsBack_3 (by decide) ?_
      have k_354 : (354 : Int32).toInt = 354 := by decide
      refine lv_icmp_ge (tgt := 27) hx hb dX12_bringsBack_6 (by decide) (fun c1 => ?_) (fun c1 => ?_)
      · have b1 : (354 : Int32).toInt ≤ x1_2.toInt := i_le.mp c1
        exact retE_v hQ C S_2 hr dX12_bringsBack_27 (trivial)
      · have b1 : ¬ (354 : Int32).toInt ≤ x1_2.toInt := fun z9 => c1 (i_le.mpr z9)
        refine lv_aload_n hx hb dX12_bringsBack_9 rfl (lv_at hl 1 rfl) ?_
        refine q_gr (T := TX12) C S_2.1 ga0 1 kF_X12_13 dX12_bringsBack_10 rfl rfl (by decide) rfl (by decide) rfl (fun g2 => ?_)
        refine lv_iload_n hx hb dX12_bringsBack_13 rfl (lv_at hl 0 rfl) ?_
        refine lv_aload_n hx hb dX12_bringsBack_14 rfl (lv_at hl 1 rfl) ?_
        refine q_gr (T := TX12) C S_2.1 ga0 4 kF_X12_23 dX12_bringsBack_15 rfl rfl (by decide) rfl (by decide) rfl (fun g3 => ?_)
        refine lv_iload_n hx hb dX12_bringsBack_18 rfl (lv_at hl 0 rfl) ?_
        have n4 : aN H_2 (fR D H_2 11 a0 4) = 354 := len_34 S_2.1 g3
        refine q_iald C S_2.1 g3 (by omega) (by omega) dX12_bringsBack_19 rfl (by decide) ?_
        refine lv_topi (fun v5 ev5 => ?_)
        have wc : WAt x1_2.toInt.toNat v5 := by rw [ev5]; exact wa_34 S_2.1 g3 _ (by omega)
        have n6 : aN H_2 (fR D H_2 11 a0 1) = 2052 := len_31 S_2.1 g2
        refine q_iast C S_2 g2 (by omega) (by omega) dX12_bringsBack_20 rfl (by decide) (by decide) (fun _ _ h => wk_31 _ _ (by omega) wc h) (fun H7 L7 S7 P7 => ?_)
        obtain ⟨v8, ev8⟩ : ∃ y : Int32, y = x1_2 + (1) := ⟨_, rfl⟩
        have k_1 : (1 : Int32).toInt = 1 := by decide
        have f9 : v8.toInt = x1_2.toInt + (1) := by rw [ev8]; exact i_addc k_1 (by omega) (by omega)
        refine lv_iinc (v := v8) (lv' := [(1, .int v8), (0, .ref a0)]) hx hb dX12_bringsBack_21 hl (k := 0) rfl (by rw [ev8]; rfl) (by decide) rfl (fun ls hl => ?_)
        refine lv_goto (tgt := 2) hx hb dX12_bringsBack_24 (by decide) ?_
        exact ih2 v8 H7 L7 ls S7 (by omega) (by omega) (lv_sub hl [0, 1] rfl)
  have k_0 : (0 : Int32).toInt = 0 := by decide
  exact Lp2 355 (0 : Int32) s.heap [] ls S (by omega)  (by omega) (lv_sub hl [0, 1] rfl)

set_option maxRecDepth 100000 in
set_option maxHeartbeats 4000000 in
theorem c_X12_undo (l : Launch) (D : DD) (G : Nat → Nat) (a0 : Nat) (ga0 : G a0 = 30) : CE l D G yX12_undo cX12_undo 2 (some .boolean) 0 [.ref a0] (fun _ => True) [(30, 0), (31, 0), (30, 7)] (xI (fun H r H1 => 0 ≤ r.toInt ∧ r.toInt ≤ 1)) := by
  refine enter (by decide) (Nat.le_of_ble_eq_true rfl) ?_
  intro p e s m args below meth c ls Q hA hQ C hr hO hpre hl
  have hx := C.1
  have hb := C.2.1
  have S : Sd D G [(30, 0), (31, 0), (30, 7)] s.heap s.heap [] := Sd.start hO
  have hl : lv_has ls 2 [(0, .ref a0)] := hl
  refine lv_aload_n hx hb dX12_undo_0 rfl (lv_at hl 0 rfl) ?_
  refine lv_iconst (v := 0) hx hb dX12_undo_1 (by decide) ?_
  have k_0 : (0 : Int32).toInt = 0 := by decide
  refine q_put (T := TX12) C S ga0 0 kF_X12_3 dX12_undo_2 rfl rfl (by decide) (by decide) rfl rfl rfl rfl rfl (vok_a rfl) (by decide) (fun H1 L1 S1 P1 => ?_)
  refine lv_aload_n hx hb dX12_undo_5 rfl (lv_at hl 0 rfl) ?_
  refine q_gi (T := TX12) C S1.1 ga0 7 kF_X12_46 dX12_undo_6 rfl rfl (by decide) rfl (by decide) rfl ?_
  have r2 : 0 ≤ (fI D H1 11 a0 7).toInt ∧ (fI D H1 11 a0 7).toInt ≤ 12 := S1.1.rng ga0 rfl (by decide) rfl
  refine lv_if_ne (tgt := 14) hx hb dX12_undo_9 (by decide) (fun c3 => ?_) (fun c3 => ?_)
  · have b3 : ¬ (fI D H1 11 a0 7).toInt = (0 : Int32).toInt := fun z9 => c3 (i_eq.mpr z9)
    refine lv_aload_n hx hb dX12_undo_14 rfl (lv_at hl 0 rfl) ?_
    refine lv_dup hx hb dX12_undo_15 rfl ?_
    refine q_gi (T := TX12) C S1.1 ga0 7 kF_X12_46 dX12_undo_16 rfl rfl (by decide) rfl (by decide) rfl ?_
    refine lv_iconst (v := 1) hx hb dX12_undo_19 (by decide) ?_
    have k_1 : (1 : Int32).toInt = 1 := by decide
    refine lv_isub hx hb dX12_undo_20 ?_
    refine lv_topi (fun v4 ev4 => ?_)
    have f5 : v4.toInt = (fI D H1 11 a0 7).toInt - (1 : Int32).toInt := by rw [ev4]; exact i_sub (by omega) (by omega)
    refine q_put (T := TX12) C S1 ga0 7 kF_X12_46 dX12_undo_21 rfl rfl (by decide) (by decide) rfl rfl rfl rfl rfl (vok_i rfl (by omega) (by omega)) (by decide) (fun H6 L6 S6 P6 => ?_)
    refine lv_iconst (v := 0) hx hb dX12_undo_24 (by decide) ?_
    refine lv_istore_n (lv' := [(1, .int (0 : Int32)), (0, .ref a0)]) hx hb dX12_undo_25 rfl hl (by decide) rfl (fun ls hl => ?_)
    have Lp26 : ∀ (n : Nat) (x1_26 : Int32) (H_26 : Heap) (L_26 : List Loc) (ls : Array Slot), (Sd D G [(30, 0), (31, 0), (30, 7)] s.heap H_26 L_26) → (0 ≤ x1_26.toInt ∧ x1_26.toInt ≤ 354) → (0 ≤ (fI D H_26 11 a0 7).toInt ∧ (fI D H_26 11 a0 7).toInt ≤ 11) → 355 - x1_26.toInt ≤ (n : Int) → lv_has ls 2 [(1, .int x1_26), (0, .ref a0)] → W p l e (rmU 0 0 0) s m args below meth c H_26 L_26 0 0 Q (F0 m 26 ls []) := by
      intro n
      induction n with
      | zero =>
        intro x1_26 H_26 L_26 ls S_26 j26_0 u26_0 hn hl
        exact absurd hn (by omega)
      | succ n ih26 =>
        intro x1_26 H_26 L_26 ls S_26 j26_0 u26_0 hn hl
        refine lv_iload_n hx hb dX12_undo_26 rfl (lv_at hl 0 rfl) ?_
        refine lv_sipush (v := 354) hx hb dX12_undo_27 (by decide) ?_
        have k_354 : (354 : Int32).toInt = 354 := by decide
        refine lv_icmp_ge (tgt := 60) hx hb dX12_undo_30 (by decide) (fun c7 => ?_) (fun c7 => ?_)
        · have b7 : (354 : Int32).toInt ≤ x1_26.toInt := i_le.mp c7
          refine lv_iconst (v := 1) hx hb dX12_undo_60 (by decide) ?_
          exact retE_z hQ C S_26 hr dX12_undo_61 (z01 (by omega) (by omega)) (by omega)
        · have b7 : ¬ (354 : Int32).toInt ≤ x1_26.toInt := fun z9 => c7 (i_le.mpr z9)
          refine lv_aload_n hx hb dX12_undo_33 rfl (lv_at hl 1 rfl) ?_
          refine q_gr (T := TX12) C S_26.1 ga0 1 kF_X12_13 dX12_undo_34 rfl rfl (by decide) rfl (by decide) rfl (fun g8 => ?_)
          refine lv_iload_n hx hb dX12_undo_37 rfl (lv_at hl 0 rfl) ?_
          refine lv_aload_n hx hb dX12_undo_38 rfl (lv_at hl 1 rfl) ?_
          refine q_gr (T := TX12) C S_26.1 ga0 5 kF_X12_26 dX12_undo_39 rfl rfl (by decide) rfl (by decide) rfl (fun g9 => ?_)
          refine lv_sipush (v := 354) hx hb dX12_undo_42 (by decide) ?_
          refine lv_aload_n hx hb dX12_undo_45 rfl (lv_at hl 1 rfl) ?_
          refine q_gi (T := TX12) C S_26.1 ga0 7 kF_X12_46 dX12_undo_46 rfl rfl (by decide) rfl (by decide) rfl ?_
          have r10 : 0 ≤ (fI D H_26 11 a0 7).toInt ∧ (fI D H_26 11 a0 7).toInt ≤ 12 := S_26.1.rng ga0 rfl (by decide) rfl
          refine lv_imul hx hb dX12_undo_49 ?_
          refine lv_topi (fun v11 ev11 => ?_)
          have f12 : v11.toInt = (354) * (fI D H_26 11 a0 7).toInt := by rw [ev11]; exact i_cmul k_354 (by omega) (by omega)
          refine lv_iload_n hx hb dX12_undo_50 rfl (lv_at hl 0 rfl) ?_
          refine lv_iadd hx hb dX12_undo_51 ?_
          refine lv_topi (fun v13 ev13 => ?_)
          have f14 : v13.toInt = v11.toInt + x1_26.toInt := by rw [ev13]; exact i_add (by omega) (by omega)
          have n15 : aN H_26 (fR D H_26 11 a0 5) = 4248 := len_35 S_26.1 g9
          refine q_iald C S_26.1 g9 (by omega) (by omega) dX12_undo_52 rfl (by decide) ?_
          refine lv_topi (fun v16 ev16 => ?_)
          have wc : WAt x1_26.toInt.toNat v16 := by rw [ev16]; exact wa_35e S_26.1 g9 (fI D H_26 11 a0 7).toInt.toNat (by omega) (by omega) (by omega)
          have n17 : aN H_26 (fR D H_26 11 a0 1) = 2052 := len_31 S_26.1 g8
          refine q_iast C S_26 g8 (by omega) (by omega) dX12_undo_53 rfl (by decide) (by decide) (fun _ _ h => wk_31 _ _ (by omega) wc h) (fun H18 L18 S18 P18 => ?_)
          obtain ⟨v19, ev19⟩ : ∃ y : Int32, y = x1_26 + (1) := ⟨_, rfl⟩
          have f20 : v19.toInt = x1_26.toInt + (1) := by rw [ev19]; exact i_addc k_1 (by omega) (by omega)
          refine lv_iinc (v := v19) (lv' := [(1, .int v19), (0, .ref a0)]) hx hb dX12_undo_54 hl (k := 0) rfl (by rw [ev19]; rfl) (by decide) rfl (fun ls hl => ?_)
          refine lv_goto (tgt := 26) hx hb dX12_undo_57 (by decide) ?_
          exact ih26 v19 H18 L18 ls S18 (by omega) (by rw [Pa.f P18 (ne_role ga0 g8 (by decide))]; omega) (by omega) (lv_sub hl [0, 1] rfl)
    exact Lp26 355 (0 : Int32) H6 L6 ls S6 (by omega) (by rw [Pt.i P6]; omega)  (by omega) (lv_sub hl [0, 1] rfl)
  · have b3 : (fI D H1 11 a0 7).toInt = (0 : Int32).toInt := i_eq.mp c3
    refine lv_iconst (v := 0) hx hb dX12_undo_12 (by decide) ?_
    exact retE_z hQ C S1 hr dX12_undo_13 (z01 (by omega) (by omega)) (by omega)
