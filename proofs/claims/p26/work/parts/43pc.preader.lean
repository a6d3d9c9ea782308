set_option maxRecDepth 100000 in
set_option maxHeartbeats 4000000 in
theorem c_X6_presentKind_f (l : Launch) (D : DD) (G : Nat → Nat) (a0 : Nat) (tp : Nat) (T : Tx) (b : Nat) (ga0 : G a0 = 20) : CP l D G yX6_presentKind cX6_presentKind 1 (some .int) 5 [.ref a0] (fun H => (True) ∧ (fR D H 6 a0 0 = tp ∧ TS D H tp T b)) (pI (fun H r => (-1 ≤ r.toInt ∧ r.toInt ≤ 3) ∧ (r.toInt = kin T b))) := by
  refine enter (by decide) (Nat.le_of_ble_eq_true rfl) ?_
  intro p e s m args below meth c ls Q hA hQ C hr hO hpre hl
  have hx := C.1
  have hb := C.2.1
  have hl : lv_has ls 1 [(0, .ref a0)] := hl
  obtain ⟨hpre, hf⟩ := hpre
  obtain ⟨htp, ts0⟩ := hf
  have gtp : G tp = 2 := by rw [← htp]; exact hO.rol ga0 rfl (by decide) rfl
  have hT : T.2 ≤ 400 := ts0.le hO gtp
  refine lv_aload_n hx hb dX6_presentKind_0 rfl (lv_at hl 0 rfl) ?_
  refine q_grS (T := TX6) C hO ga0 0 kF_X6_15 dX6_presentKind_1 rfl rfl (by decide) rfl (by decide) kSF_X6_tape (fun g1 => ?_)
  rw [show fR D s.heap 6 a0 0 = tp from htp]
  refine q_lds C ks_X6_131 dX6_presentKind_4 (fun a2 ha2 wa2 => ?_)
  refine callV_Pi C hO (fun _ _ _ => rfl) (c_X9_isWord_f l D G tp a2 4 w_fire T b gtp ha2 (Wc.of wa2 kw_fire)) kV_X6_21 gtp (⟨trivial, ts0⟩) dX6_presentKind_6 hl.1 rfl rfl (by decide) cd_X9_isWord ⟨Nat.le_of_ble_eq_true rfl, Nat.le_of_ble_eq_true rfl, Nat.le_of_ble_eq_true rfl, Nat.le_of_ble_eq_true rfl, Nat.le_of_ble_eq_true rfl⟩ (fun v3 q3 => ?_)
  obtain ⟨q3, fq3⟩ := q3
  rcases fq3 with ⟨z3, y3⟩ | ⟨z3, y3⟩
  · skip
    have k_0 : (0 : Int32).toInt = 0 := by decide
    refine lv_if_eq (tgt := 14) hx hb dX6_presentKind_9 (by decide) (fun c4 => ?_) (fun c4 => ?_)
    · have b4 : v3.toInt = (0 : Int32).toInt := i_eq.mp c4
      exact absurd b4 (by omega)
    · have b4 : ¬ v3.toInt = (0 : Int32).toInt := fun z9 => c4 (i_eq.mpr z9)
      refine lv_iconst (v := 0) hx hb dX6_presentKind_12 (by decide) ?_
      exact retP_i hQ C hr dX6_presentKind_13 (⟨by omega, by rw [show kin T b = 0 by simp [kin, y3]]; omega⟩)
  · skip
    have k_0 : (0 : Int32).toInt = 0 := by decide
    refine lv_if_eq (tgt := 14) hx hb dX6_presentKind_9 (by decide) (fun c5 => ?_) (fun c5 => ?_)
    · have b5 : v3.toInt = (0 : Int32).toInt := i_eq.mp c5
      refine lv_aload_n hx hb dX6_presentKind_14 rfl (lv_at hl 0 rfl) ?_
      refine q_grS (T := TX6) C hO ga0 0 kF_X6_15 dX6_presentKind_15 rfl rfl (by decide) rfl (by decide) kSF_X6_tape (fun g6 => ?_)
      rw [show fR D s.heap 6 a0 0 = tp from htp]
      refine q_lds C ks_X6_133 dX6_presentKind_18 (fun a7 ha7 wa7 => ?_)
      refine callV_Pi C hO (fun _ _ _ => rfl) (c_X9_isWord_f l D G tp a7 4 w_oven T b gtp ha7 (Wc.of wa7 kw_oven)) kV_X6_21 gtp (⟨trivial, ts0⟩) dX6_presentKind_20 hl.1 rfl rfl (by decide) cd_X9_isWord ⟨Nat.le_of_ble_eq_true rfl, Nat.le_of_ble_eq_true rfl, Nat.le_of_ble_eq_true rfl, Nat.le_of_ble_eq_true rfl, Nat.le_of_ble_eq_true rfl⟩ (fun v8 q8 => ?_)
      obtain ⟨q8, fq8⟩ := q8
      rcases fq8 with ⟨z8, y8⟩ | ⟨z8, y8⟩
      · skip
        refine lv_if_eq (tgt := 28) hx hb dX6_presentKind_23 (by decide) (fun c9 => ?_) (fun c9 => ?_)
        · have b9 : v8.toInt = (0 : Int32).toInt := i_eq.mp c9
          exact absurd b9 (by omega)
        · have b9 : ¬ v8.toInt = (0 : Int32).toInt := fun z9 => c9 (i_eq.mpr z9)
          refine lv_iconst (v := 1) hx hb dX6_presentKind_26 (by decide) ?_
          have k_1 : (1 : Int32).toInt = 1 := by decide
          exact retP_i hQ C hr dX6_presentKind_27 (⟨by omega, by rw [show kin T b = 1 by simp [kin, y3, y8]]; omega⟩)
      · skip
        refine lv_if_eq (tgt := 28) hx hb dX6_presentKind_23 (by decide) (fun c10 => ?_) (fun c10 => ?_)
        · have b10 : v8.toInt = (0 : Int32).toInt := i_eq.mp c10
          refine lv_aload_n hx hb dX6_presentKind_28 rfl (lv_at hl 0 rfl) ?_
          refine q_grS (T := TX6) C hO ga0 0 kF_X6_15 dX6_presentKind_29 rfl rfl (by decide) rfl (by decide) kSF_X6_tape (fun g11 => ?_)
          rw [show fR D s.heap 6 a0 0 = tp from htp]
          refine q_lds C ks_X6_135 dX6_presentKind_32 (fun a12 ha12 wa12 => ?_)
          refine callV_Pi C hO (fun _ _ _ => rfl) (c_X9_isWord_f l D G tp a12 5 w_forge T b gtp ha12 (Wc.of wa12 kw_forge)) kV_X6_21 gtp (⟨trivial, ts0⟩) dX6_presentKind_34 hl.1 rfl rfl (by decide) cd_X9_isWord ⟨Nat.le_of_ble_eq_true rfl, Nat.le_of_ble_eq_true rfl, Nat.le_of_ble_eq_true rfl, Nat.le_of_ble_eq_true rfl, Nat.le_of_ble_eq_true rfl⟩ (fun v13 q13 => ?_)
          obtain ⟨q13, fq13⟩ := q13
          rcases fq13 with ⟨z13, y13⟩ | ⟨z13, y13⟩
          · skip
            refine lv_if_eq (tgt := 42) hx hb dX6_presentKind_37 (by decide) (fun c14 => ?_) (fun c14 => ?_)
            · have b14 : v13.toInt = (0 : Int32).toInt := i_eq.mp c14
              exact absurd b14 (by omega)
            · have b14 : ¬ v13.toInt = (0 : Int32).toInt := fun z9 => c14 (i_eq.mpr z9)
              refine lv_iconst (v := 2) hx hb dX6_presentKind_40 (by decide) ?_
              have k_2 : (2 : Int32).toInt = 2 := by decide
              exact retP_i hQ C hr dX6_presentKind_41 (⟨by omega, by rw [show kin T b = 2 by simp [kin, y3, y8, y13]]; omega⟩)
          · skip
            refine lv_if_eq (tgt := 42) hx hb dX6_presentKind_37 (by decide) (fun c15 => ?_) (fun c15 => ?_)
            · have b15 : v13.toInt = (0 : Int32).toInt := i_eq.mp c15
              refine lv_aload_n hx hb dX6_presentKind_42 rfl (lv_at hl 0 rfl) ?_
              refine q_grS (T := TX6) C hO ga0 0 kF_X6_15 dX6_presentKind_43 rfl rfl (by decide) rfl (by decide) kSF_X6_tape (fun g16 => ?_)
              rw [show fR D s.heap 6 a0 0 = tp from htp]
              refine q_lds C ks_X6_137 dX6_presentKind_46 (fun a17 ha17 wa17 => ?_)
              refine callV_Pi C hO (fun _ _ _ => rfl) (c_X9_isWord_f l D G tp a17 3 w_pot T b gtp ha17 (Wc.of wa17 kw_pot)) kV_X6_21 gtp (⟨trivial, ts0⟩) dX6_presentKind_48 hl.1 rfl rfl (by decide) cd_X9_isWord ⟨Nat.le_of_ble_eq_true rfl, Nat.le_of_ble_eq_true rfl, Nat.le_of_ble_eq_true rfl, Nat.le_of_ble_eq_true rfl, Nat.le_of_ble_eq_true rfl⟩ (fun v18 q18 => ?_)
              obtain ⟨q18, fq18⟩ := q18
              rcases fq18 with ⟨z18, y18⟩ | ⟨z18, y18⟩
              · skip
                refine lv_if_eq (tgt := 58) hx hb dX6_presentKind_51 (by decide) (fun c19 => ?_) (fun c19 => ?_)
                · have b19 : v18.toInt = (0 : Int32).toInt := i_eq.mp c19
                  exact absurd b19 (by omega)
                · have b19 : ¬ v18.toInt = (0 : Int32).toInt := fun z9 => c19 (i_eq.mpr z9)
                  refine lv_iconst (v := 3) hx hb dX6_presentKind_54 (by decide) ?_
                  refine lv_goto (tgt := 59) hx hb dX6_presentKind_55 (by decide) ?_
                  have k_3 : (3 : Int32).toInt = 3 := by decide
                  exact retP_i hQ C hr dX6_presentKind_59 (⟨by omega, by rw [show kin T b = 3 by simp [kin, y3, y8, y13, y18]]; omega⟩)
              · skip
                refine lv_if_eq (tgt := 58) hx hb dX6_presentKind_51 (by decide) (fun c20 => ?_) (fun c20 => ?_)
                · have b20 : v18.toInt = (0 : Int32).toInt := i_eq.mp c20
                  refine lv_iconst (v := -1) hx hb dX6_presentKind_58 (by decide) ?_
                  have k_m1 : (-1 : Int32).toInt = -1 := by decide
                  exact retP_i hQ C hr dX6_presentKind_59 (⟨by omega, by rw [show kin T b = -1 by simp [kin, y3, y8, y13, y18]]; omega⟩)
                · have b20 : ¬ v18.toInt = (0 : Int32).toInt := fun z9 => c20 (i_eq.mpr z9)
                  exact absurd b20 (by omega)
            · have b15 : ¬ v13.toInt = (0 : Int32).toInt := fun z9 => c15 (i_eq.mpr z9)
              exact absurd b15 (by omega)
        · have b10 : ¬ v8.toInt = (0 : Int32).toInt := fun z9 => c10 (i_eq.mpr z9)
          exact absurd b10 (by omega)
    · have b5 : ¬ v3.toInt = (0 : Int32).toInt := fun z9 => c5 (i_eq.mpr z9)
      exact absurd b5 (by omega)
