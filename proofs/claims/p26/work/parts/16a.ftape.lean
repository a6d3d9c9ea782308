set_option maxRecDepth 100000 in
set_option maxHeartbeats 4000000 in
theorem c_X9_next_p (l : Launch) (D : DD) (G : Nat → Nat) (a0 : Nat) (T : Tx) (b0 : Nat) (ga0 : G a0 = 2) : CE l D G yX9_next cX9_next 1 none 0 [.ref a0] (fun H => TSp D H a0 T b0) [(2, 3), (2, 4), (2, 5), (2, 6)] (xV (fun H H1 => TS D H1 a0 T (sk T b0))) := by
  refine enter (by decide) (Nat.le_of_ble_eq_true rfl) ?_
  intro p e s m args below meth c ls Q hA hQ C hr hO hpre hl
  have hx := C.1
  have hb := C.2.1
  have S : Sd D G [(2, 3), (2, 4), (2, 5), (2, 6)] s.heap s.heap [] := Sd.start hO
  have hl : lv_has ls 1 [(0, .ref a0)] := hl
  have Lp0 : ∀ (n : Nat)  (H_0 : Heap) (L_0 : List Loc) (ls : Array Slot), (Sd D G [(2, 3), (2, 4), (2, 5), (2, 6)] s.heap H_0 L_0) → ((b0 : Int) ≤ (fI D H_0 9 a0 5).toInt ∧ ∀ i : Nat, b0 ≤ i → (i : Int) < (fI D H_0 9 a0 5).toInt → tbl T i = true) → 401 - (fI D H_0 9 a0 5).toInt ≤ (n : Int) → lv_has ls 1 [(0, .ref a0)] → W p l e (rmU 0 0 0) s m args below meth c H_0 L_0 0 0 Q (F0 m 0 ls []) := by
    intro n
    induction n with
    | zero =>
      intro H_0 L_0 ls S_0 u0_0 hn hl
      have rz : 0 ≤ (fI D H_0 9 a0 5).toInt ∧ (fI D H_0 9 a0 5).toInt ≤ 400 := S_0.1.rng ga0 rfl (by decide) rfl
      exact absurd hn (by omega)
    | succ n ih0 =>
      intro H_0 L_0 ls S_0 u0_0 hn hl
      refine lv_aload_n hx hb dX9_next_0 rfl (lv_at hl 0 rfl) ?_
      refine q_gi (T := TX9) C S_0.1 ga0 5 kF_X9_28 dX9_next_1 rfl rfl (by decide) rfl (by decide) rfl ?_
      have r1 : 0 ≤ (fI D H_0 9 a0 5).toInt ∧ (fI D H_0 9 a0 5).toInt ≤ 400 := S_0.1.rng ga0 rfl (by decide) rfl
      refine lv_aload_n hx hb dX9_next_4 rfl (lv_at hl 0 rfl) ?_
      refine q_gi (T := TX9) C S_0.1 ga0 1 kF_X9_15 dX9_next_5 rfl rfl (by decide) rfl (by decide) rfl ?_
      have r2 : 0 ≤ (fI D H_0 9 a0 1).toInt ∧ (fI D H_0 9 a0 1).toInt ≤ 400 := S_0.1.rng ga0 rfl (by decide) rfl
      have tl : T.2 = (fI D H_0 9 a0 1).toInt.toNat := (congrArg Prod.snd ((tT_keep hO ga0 S_0.2.1 (by decide) (by decide) (by decide)).trans hpre.1)).symm
      refine lv_icmp_ge (tgt := 38) hx hb dX9_next_8 (by decide) (fun c3 => ?_) (fun c3 => ?_)
      · have b3 : (fI D H_0 9 a0 1).toInt ≤ (fI D H_0 9 a0 5).toInt := i_le.mp c3
        obtain ⟨bb, hbb⟩ : ∃ x : Nat, x = (fI D H_0 9 a0 5).toInt.toNat := ⟨_, rfl⟩
        have s9 : sk T b0 = bb := by rw [hbb]; exact sk_of (by omega) (fun i h1 h2 => u0_0.2 i h1 (by omega)) (tbl_f.mpr (by omega)) (by omega)
        refine lv_aload_n hx hb dX9_next_38 rfl (lv_at hl 0 rfl) ?_
        refine lv_aload_n hx hb dX9_next_39 rfl (lv_at hl 0 rfl) ?_
        refine q_gi (T := TX9) C S_0.1 ga0 5 kF_X9_28 dX9_next_40 rfl rfl (by decide) rfl (by decide) rfl ?_
        refine q_put (T := TX9) C S_0 ga0 4 kF_X9_25 dX9_next_43 rfl rfl (by decide) (by decide) rfl rfl rfl rfl rfl (vok_i rfl (by omega) (by omega)) (by decide +kernel) (fun H4 L4 S4 P4 => ?_)
        refine lv_aload_n hx hb dX9_next_46 rfl (lv_at hl 0 rfl) ?_
        refine lv_iconst (v := 0) hx hb dX9_next_47 (by decide) ?_
        have k_0 : (0 : Int32).toInt = 0 := by decide
        refine q_put (T := TX9) C S4 ga0 6 kF_X9_31 dX9_next_48 rfl rfl (by decide) (by decide) rfl rfl rfl rfl rfl (vok_a rfl) (by decide +kernel) (fun H5 L5 S5 P5 => ?_)
        refine lv_aload_n hx hb dX9_next_51 rfl (lv_at hl 0 rfl) ?_
        refine q_gi (T := TX9) C S5.1 ga0 5 kF_X9_28 dX9_next_52 rfl rfl (by decide) rfl (by decide) rfl ?_
        have c6 : (fI D H5 9 a0 5).toInt = (fI D H_0 9 a0 5).toInt := by rw [Pt.o P5 (by decide) (by decide), Pt.o P4 (by decide) (by decide)]
        have r7 : 0 ≤ (fI D H5 9 a0 5).toInt ∧ (fI D H5 9 a0 5).toInt ≤ 400 := S5.1.rng ga0 rfl (by decide) rfl
        refine lv_aload_n hx hb dX9_next_55 rfl (lv_at hl 0 rfl) ?_
        refine q_gi (T := TX9) C S5.1 ga0 1 kF_X9_15 dX9_next_56 rfl rfl (by decide) rfl (by decide) rfl ?_
        have c8 : (fI D H5 9 a0 1).toInt = (fI D H_0 9 a0 1).toInt := by rw [Pt.o P5 (by decide) (by decide), Pt.o P4 (by decide) (by decide)]
        have r9 : 0 ≤ (fI D H5 9 a0 1).toInt ∧ (fI D H5 9 a0 1).toInt ≤ 400 := S5.1.rng ga0 rfl (by decide) rfl
        have tl : T.2 = (fI D H5 9 a0 1).toInt.toNat := (congrArg Prod.snd ((tT_keep hO ga0 S5.2.1 (by decide) (by decide) (by decide)).trans hpre.1)).symm
        refine lv_icmp_lt (tgt := 70) hx hb dX9_next_59 (by decide) (fun c10 => ?_) (fun c10 => ?_)
        · have b10 : (fI D H5 9 a0 5).toInt < (fI D H5 9 a0 1).toInt := i_lt.mp c10
          refine lv_aload_n hx hb dX9_next_70 rfl (lv_at hl 0 rfl) ?_
          refine q_gr (T := TX9) C S5.1 ga0 0 kF_X9_11 dX9_next_71 rfl rfl (by decide) rfl (by decide) rfl (fun g11 => ?_)
          refine lv_aload_n hx hb dX9_next_74 rfl (lv_at hl 0 rfl) ?_
          refine q_gi (T := TX9) C S5.1 ga0 5 kF_X9_28 dX9_next_75 rfl rfl (by decide) rfl (by decide) rfl ?_
          have n12 : aN H5 (fR D H5 9 a0 0) = 400 := len_3 S5.1 g11
          refine q_iald C S5.1 g11 (by omega) (by omega) dX9_next_78 rfl (by decide) ?_
          refine lv_topi (fun v13 ev13 => ?_)
          have tav13 : v13.toInt = (eI H5 (fR D H5 9 a0 0) (fI D H5 9 a0 5).toInt.toNat).toInt := by rw [ev13]
          have tvv13 : T.1 bb = nrm (eI H5 (fR D H5 9 a0 0) (fI D H5 9 a0 5).toInt.toNat).toInt := by rw [show bb = (fI D H5 9 a0 5).toInt.toNat by omega]; exact (congrFun (congrArg Prod.fst ((tT_keep hO ga0 S5.2.1 (by decide) (by decide) (by decide)).trans hpre.1)) _).symm
          have tnv13 := nrm_d (eI H5 (fR D H5 9 a0 0) (fI D H5 9 a0 5).toInt.toNat).toInt
          refine lv_bipush (v := 97) hx hb dX9_next_79 (by decide) ?_
          have k_97 : (97 : Int32).toInt = 97 := by decide
          refine lv_icmp_lt (tgt := 155) hx hb dX9_next_81 (by decide) (fun c14 => ?_) (fun c14 => ?_)
          · have b14 : v13.toInt < (97 : Int32).toInt := i_lt.mp c14
            refine lv_aload_n hx hb dX9_next_155 rfl (lv_at hl 0 rfl) ?_
            refine q_gr (T := TX9) C S5.1 ga0 0 kF_X9_11 dX9_next_156 rfl rfl (by decide) rfl (by decide) rfl (fun g15 => ?_)
            refine lv_aload_n hx hb dX9_next_159 rfl (lv_at hl 0 rfl) ?_
            refine q_gi (T := TX9) C S5.1 ga0 5 kF_X9_28 dX9_next_160 rfl rfl (by decide) rfl (by decide) rfl ?_
            refine q_iald C S5.1 g15 (by omega) (by omega) dX9_next_163 rfl (by decide) ?_
            refine lv_topi (fun v16 ev16 => ?_)
            have tav16 : v16.toInt = (eI H5 (fR D H5 9 a0 0) (fI D H5 9 a0 5).toInt.toNat).toInt := by rw [ev16]
            have tvv16 : T.1 bb = nrm (eI H5 (fR D H5 9 a0 0) (fI D H5 9 a0 5).toInt.toNat).toInt := by rw [show bb = (fI D H5 9 a0 5).toInt.toNat by omega]; exact (congrFun (congrArg Prod.fst ((tT_keep hO ga0 S5.2.1 (by decide) (by decide) (by decide)).trans hpre.1)) _).symm
            have tnv16 := nrm_d (eI H5 (fR D H5 9 a0 0) (fI D H5 9 a0 5).toInt.toNat).toInt
            refine lv_bipush (v := 48) hx hb dX9_next_164 (by decide) ?_
            have k_48 : (48 : Int32).toInt = 48 := by decide
            refine lv_icmp_lt (tgt := 283) hx hb dX9_next_166 (by decide) (fun c17 => ?_) (fun c17 => ?_)
            · have b17 : v16.toInt < (48 : Int32).toInt := i_lt.mp c17
              refine lv_aload_n hx hb dX9_next_283 rfl (lv_at hl 0 rfl) ?_
              refine lv_iconst (v := 3) hx hb dX9_next_284 (by decide) ?_
              have k_3 : (3 : Int32).toInt = 3 := by decide
              refine q_put (T := TX9) C S5 ga0 3 kF_X9_22 dX9_next_285 rfl rfl (by decide) (by decide) rfl rfl rfl rfl rfl (vok_a rfl) (by decide +kernel) (fun H18 L18 S18 P18 => ?_)
              refine lv_aload_n hx hb dX9_next_288 rfl (lv_at hl 0 rfl) ?_
              refine lv_aload_n hx hb dX9_next_289 rfl (lv_at hl 0 rfl) ?_
              refine q_gr (T := TX9) C S18.1 ga0 0 kF_X9_11 dX9_next_290 rfl rfl (by decide) rfl (by decide) rfl (fun g19 => ?_)
              refine lv_aload_n hx hb dX9_next_293 rfl (lv_at hl 0 rfl) ?_
              refine q_gi (T := TX9) C S18.1 ga0 5 kF_X9_28 dX9_next_294 rfl rfl (by decide) rfl (by decide) rfl ?_
              have c20 : (fI D H18 9 a0 5).toInt = (fI D H5 9 a0 5).toInt := by rw [Pt.o P18 (by decide) (by decide)]
              have r21 : 0 ≤ (fI D H18 9 a0 5).toInt ∧ (fI D H18 9 a0 5).toInt ≤ 400 := S18.1.rng ga0 rfl (by decide) rfl
              have n22 : aN H18 (fR D H18 9 a0 0) = 400 := len_3 S18.1 g19
              refine q_iald C S18.1 g19 (by omega) (by omega) dX9_next_297 rfl (by decide) ?_
              refine lv_topi (fun v23 ev23 => ?_)
              have tav23 : v23.toInt = (eI H18 (fR D H18 9 a0 0) (fI D H18 9 a0 5).toInt.toNat).toInt := by rw [ev23]
              have tvv23 : T.1 bb = nrm (eI H18 (fR D H18 9 a0 0) (fI D H18 9 a0 5).toInt.toNat).toInt := by rw [show bb = (fI D H18 9 a0 5).toInt.toNat by omega]; exact (congrFun (congrArg Prod.fst ((tT_keep hO ga0 S18.2.1 (by decide) (by decide) (by decide)).trans hpre.1)) _).symm
              have tnv23 := nrm_d (eI H18 (fR D H18 9 a0 0) (fI D H18 9 a0 5).toInt.toNat).toInt
              have sg : T.1 bb = nrm v23.toInt := by rw [tav23]; exact tvv23
              refine q_put (T := TX9) C S18 ga0 6 kF_X9_31 dX9_next_298 rfl rfl (by decide) (by decide) rfl rfl rfl rfl rfl (vok_a rfl) (by decide +kernel) (fun H24 L24 S24 P24 => ?_)
              refine lv_aload_n hx hb dX9_next_301 rfl (lv_at hl 0 rfl) ?_
              refine lv_dup hx hb dX9_next_302 rfl ?_
              refine q_gi (T := TX9) C S24.1 ga0 5 kF_X9_28 dX9_next_303 rfl rfl (by decide) rfl (by decide) rfl ?_
              have c25 : (fI D H24 9 a0 5).toInt = (fI D H18 9 a0 5).toInt := by rw [Pt.o P24 (by decide) (by decide)]
              have r26 : 0 ≤ (fI D H24 9 a0 5).toInt ∧ (fI D H24 9 a0 5).toInt ≤ 400 := S24.1.rng ga0 rfl (by decide) rfl
              refine lv_iconst (v := 1) hx hb dX9_next_306 (by decide) ?_
              have k_1 : (1 : Int32).toInt = 1 := by decide
              refine lv_iadd hx hb dX9_next_307 ?_
              refine lv_topi (fun v27 ev27 => ?_)
              have f28 : v27.toInt = (fI D H24 9 a0 5).toInt + (1 : Int32).toInt := by rw [ev27]; exact i_add (by omega) (by omega)
              refine q_put (T := TX9) C S24 ga0 5 kF_X9_28 dX9_next_308 rfl rfl (by decide) (by decide) rfl rfl rfl rfl rfl (vok_i rfl (by omega) (by omega)) (by decide +kernel) (fun H29 L29 S29 P29 => ?_)
              exact retE_v hQ C S29 hr dX9_next_311 (by rw [s9]; have kw : kd T bb = 3 := kd_s.mpr ⟨by omega, tle_f.mpr (by omega), tdi_f.mpr (by omega)⟩; exact ⟨⟨((tT_keep hO ga0 S29.2.1 (by decide) (by decide) (by decide)).trans hpre.1), (by rw [S29.2.1.fI ga0 rfl (by decide) (by decide)]; exact hpre.2.1), by rw [Pt.i P29, af_s kw]; omega⟩, by rw [Pt.o P29 (by decide) (by decide), Pt.o P24 (by decide) (by decide), Pt.i P18, kw]; decide, by rw [Pt.o P29 (by decide) (by decide), Pt.o P24 (by decide) (by decide), Pt.o P18 (by decide) (by decide), Pt.o P5 (by decide) (by decide), Pt.i P4]; omega, fun h => absurd h (by rw [kw]; decide), fun _ => by rw [Pt.o P29 (by decide) (by decide), Pt.i P24]; exact sg.symm⟩)
            · have b17 : ¬ v16.toInt < (48 : Int32).toInt := fun z9 => c17 (i_lt.mpr z9)
              refine lv_aload_n hx hb dX9_next_169 rfl (lv_at hl 0 rfl) ?_
              refine q_gr (T := TX9) C S5.1 ga0 0 kF_X9_11 dX9_next_170 rfl rfl (by decide) rfl (by decide) rfl (fun g30 => ?_)
              refine lv_aload_n hx hb dX9_next_173 rfl (lv_at hl 0 rfl) ?_
              refine q_gi (T := TX9) C S5.1 ga0 5 kF_X9_28 dX9_next_174 rfl rfl (by decide) rfl (by decide) rfl ?_
              refine q_iald C S5.1 g30 (by omega) (by omega) dX9_next_177 rfl (by decide) ?_
              refine lv_topi (fun v31 ev31 => ?_)
              have tav31 : v31.toInt = (eI H5 (fR D H5 9 a0 0) (fI D H5 9 a0 5).toInt.toNat).toInt := by rw [ev31]
              have tvv31 : T.1 bb = nrm (eI H5 (fR D H5 9 a0 0) (fI D H5 9 a0 5).toInt.toNat).toInt := by rw [show bb = (fI D H5 9 a0 5).toInt.toNat by omega]; exact (congrFun (congrArg Prod.fst ((tT_keep hO ga0 S5.2.1 (by decide) (by decide) (by decide)).trans hpre.1)) _).symm
              have tnv31 := nrm_d (eI H5 (fR D H5 9 a0 0) (fI D H5 9 a0 5).toInt.toNat).toInt
              refine lv_bipush (v := 57) hx hb dX9_next_178 (by decide) ?_
              have k_57 : (57 : Int32).toInt = 57 := by decide
              refine lv_icmp_gt (tgt := 283) hx hb dX9_next_180 (by decide) (fun c32 => ?_) (fun c32 => ?_)
              · have b32 : (57 : Int32).toInt < v31.toInt := i_lt.mp c32
                refine lv_aload_n hx hb dX9_next_283 rfl (lv_at hl 0 rfl) ?_
                refine lv_iconst (v := 3) hx hb dX9_next_284 (by decide) ?_
                have k_3 : (3 : Int32).toInt = 3 := by decide
                refine q_put (T := TX9) C S5 ga0 3 kF_X9_22 dX9_next_285 rfl rfl (by decide) (by decide) rfl rfl rfl rfl rfl (vok_a rfl) (by decide +kernel) (fun H33 L33 S33 P33 => ?_)
                refine lv_aload_n hx hb dX9_next_288 rfl (lv_at hl 0 rfl) ?_
                refine lv_aload_n hx hb dX9_next_289 rfl (lv_at hl 0 rfl) ?_
                refine q_gr (T := TX9) C S33.1 ga0 0 kF_X9_11 dX9_next_290 rfl rfl (by decide) rfl (by decide) rfl (fun g34 => ?_)
                refine lv_aload_n hx hb dX9_next_293 rfl (lv_at hl 0 rfl) ?_
                refine q_gi (T := TX9) C S33.1 ga0 5 kF_X9_28 dX9_next_294 rfl rfl (by decide) rfl (by decide) rfl ?_
                have c35 : (fI D H33 9 a0 5).toInt = (fI D H5 9 a0 5).toInt := by rw [Pt.o P33 (by decide) (by decide)]
                have r36 : 0 ≤ (fI D H33 9 a0 5).toInt ∧ (fI D H33 9 a0 5).toInt ≤ 400 := S33.1.rng ga0 rfl (by decide) rfl
                have n37 : aN H33 (fR D H33 9 a0 0) = 400 := len_3 S33.1 g34
                refine q_iald C S33.1 g34 (by omega) (by omega) dX9_next_297 rfl (by decide) ?_
                refine lv_topi (fun v38 ev38 => ?_)
                have tav38 : v38.toInt = (eI H33 (fR D H33 9 a0 0) (fI D H33 9 a0 5).toInt.toNat).toInt := by rw [ev38]
                have tvv38 : T.1 bb = nrm (eI H33 (fR D H33 9 a0 0) (fI D H33 9 a0 5).toInt.toNat).toInt := by rw [show bb = (fI D H33 9 a0 5).toInt.toNat by omega]; exact (congrFun (congrArg Prod.fst ((tT_keep hO ga0 S33.2.1 (by decide) (by decide) (by decide)).trans hpre.1)) _).symm
                have tnv38 := nrm_d (eI H33 (fR D H33 9 a0 0) (fI D H33 9 a0 5).toInt.toNat).toInt
                have sg : T.1 bb = nrm v38.toInt := by rw [tav38]; exact tvv38
                refine q_put (T := TX9) C S33 ga0 6 kF_X9_31 dX9_next_298 rfl rfl (by decide) (by decide) rfl rfl rfl rfl rfl (vok_a rfl) (by decide +kernel) (fun H39 L39 S39 P39 => ?_)
                refine lv_aload_n hx hb dX9_next_301 rfl (lv_at hl 0 rfl) ?_
                refine lv_dup hx hb dX9_next_302 rfl ?_
                refine q_gi (T := TX9) C S39.1 ga0 5 kF_X9_28 dX9_next_303 rfl rfl (by decide) rfl (by decide) rfl ?_
                have c40 : (fI D H39 9 a0 5).toInt = (fI D H33 9 a0 5).toInt := by rw [Pt.o P39 (by decide) (by decide)]
                have r41 : 0 ≤ (fI D H39 9 a0 5).toInt ∧ (fI D H39 9 a0 5).toInt ≤ 400 := S39.1.rng ga0 rfl (by decide) rfl
                refine lv_iconst (v := 1) hx hb dX9_next_306 (by decide) ?_
                have k_1 : (1 : Int32).toInt = 1 := by decide
                refine lv_iadd hx hb dX9_next_307 ?_
                refine lv_topi (fun v42 ev42 => ?_)
                have f43 : v42.toInt = (fI D H39 9 a0 5).toInt + (1 : Int32).toInt := by rw [ev42]; exact i_add (by omega) (by omega)
                refine q_put (T := TX9) C S39 ga0 5 kF_X9_28 dX9_next_308 rfl rfl (by decide) (by decide) rfl rfl rfl rfl rfl (vok_i rfl (by omega) (by omega)) (by decide +kernel) (fun H44 L44 S44 P44 => ?_)
                exact retE_v hQ C S44 hr dX9_next_311 (by rw [s9]; have kw : kd T bb = 3 := kd_s.mpr ⟨by omega, tle_f.mpr (by omega), tdi_f.mpr (by omega)⟩; exact ⟨⟨((tT_keep hO ga0 S44.2.1 (by decide) (by decide) (by decide)).trans hpre.1), (by rw [S44.2.1.fI ga0 rfl (by decide) (by decide)]; exact hpre.2.1), by rw [Pt.i P44, af_s kw]; omega⟩, by rw [Pt.o P44 (by decide) (by decide), Pt.o P39 (by decide) (by decide), Pt.i P33, kw]; decide, by rw [Pt.o P44 (by decide) (by decide), Pt.o P39 (by decide) (by decide), Pt.o P33 (by decide) (by decide), Pt.o P5 (by decide) (by decide), Pt.i P4]; omega, fun h => absurd h (by rw [kw]; decide), fun _ => by rw [Pt.o P44 (by decide) (by decide), Pt.i P39]; exact sg.symm⟩)
              · have b32 : ¬ (57 : Int32).toInt < v31.toInt := fun z9 => c32 (i_lt.mpr z9)
                have tw : tdi T bb = true := tdi_t.mpr (by omega)
                refine lv_aload_n hx hb dX9_next_183 rfl (lv_at hl 0 rfl) ?_
                refine lv_iconst (v := 2) hx hb dX9_next_184 (by decide) ?_
                have k_2 : (2 : Int32).toInt = 2 := by decide
                refine q_put (T := TX9) C S5 ga0 3 kF_X9_22 dX9_next_185 rfl rfl (by decide) (by decide) rfl rfl rfl rfl rfl (vok_a rfl) (by decide +kernel) (fun H45 L45 S45 P45 => ?_)
                have Lp188 : ∀ (n : Nat)  (H_188 : Heap) (L_188 : List Loc) (ls : Array Slot), (Sd D G [(2, 3), (2, 4), (2, 5), (2, 6)] s.heap H_188 L_188) → ((fI D H_188 9 a0 4).toInt = bb ∧ (fI D H_188 9 a0 3).toInt = 2 ∧ (fI D H_188 9 a0 6).toInt = nvk T bb ((fI D H_188 9 a0 5).toInt.toNat - bb) ∧ (bb : Int) ≤ (fI D H_188 9 a0 5).toInt ∧ ∀ i : Nat, bb ≤ i → (i : Int) < (fI D H_188 9 a0 5).toInt → tdi T i = true) → 401 - (fI D H_188 9 a0 5).toInt ≤ (n : Int) → lv_has ls 1 [(0, .ref a0)] → W p l e (rmU 0 0 0) s m args below meth c H_188 L_188 0 0 Q (F0 m 188 ls []) := by
                  intro n
                  induction n with
                  | zero =>
                    intro H_188 L_188 ls S_188 u188_0 hn hl
                    have rz : 0 ≤ (fI D H_188 9 a0 5).toInt ∧ (fI D H_188 9 a0 5).toInt ≤ 400 := S_188.1.rng ga0 rfl (by decide) rfl
                    exact absurd hn (by omega)
                  | succ n ih188 =>
                    intro H_188 L_188 ls S_188 u188_0 hn hl
                    refine lv_aload_n hx hb dX9_next_188 rfl (lv_at hl 0 rfl) ?_
                    refine q_gi (T := TX9) C S_188.1 ga0 5 kF_X9_28 dX9_next_189 rfl rfl (by decide) rfl (by decide) rfl ?_
                    have r46 : 0 ≤ (fI D H_188 9 a0 5).toInt ∧ (fI D H_188 9 a0 5).toInt ≤ 400 := S_188.1.rng ga0 rfl (by decide) rfl
                    refine lv_aload_n hx hb dX9_next_192 rfl (lv_at hl 0 rfl) ?_
                    refine q_gi (T := TX9) C S_188.1 ga0 1 kF_X9_15 dX9_next_193 rfl rfl (by decide) rfl (by decide) rfl ?_
                    have r47 : 0 ≤ (fI D H_188 9 a0 1).toInt ∧ (fI D H_188 9 a0 1).toInt ≤ 400 := S_188.1.rng ga0 rfl (by decide) rfl
                    have tl : T.2 = (fI D H_188 9 a0 1).toInt.toNat := (congrArg Prod.snd ((tT_keep hO ga0 S_188.2.1 (by decide) (by decide) (by decide)).trans hpre.1)).symm
                    refine lv_icmp_ge (tgt := 311) hx hb dX9_next_196 (by decide) (fun c48 => ?_) (fun c48 => ?_)
                    · have b48 : (fI D H_188 9 a0 1).toInt ≤ (fI D H_188 9 a0 5).toInt := i_le.mp c48
                      exact retE_v hQ C S_188 hr dX9_next_311 (by rw [s9]; have kw := kd_n.mpr tw; have rf : rn (tdi T) 500 bb = (fI D H_188 9 a0 5).toInt.toNat := rn_of (tdi_f.mpr (by omega)) 500 bb (by omega) (fun i h1 h2 => u188_0.2.2.2.2 i h1 (by omega)) (by omega); exact ⟨⟨((tT_keep hO ga0 S_188.2.1 (by decide) (by decide) (by decide)).trans hpre.1), (by rw [S_188.2.1.fI ga0 rfl (by decide) (by decide)]; exact hpre.2.1), by rw [af_n kw, rf]; omega⟩, by rw [kw]; exact u188_0.2.1, u188_0.1, fun _ => by rw [nv_k ((af_n kw).trans rf)]; exact u188_0.2.2.1, fun h => absurd h (by rw [kw]; decide)⟩)
                    · have b48 : ¬ (fI D H_188 9 a0 1).toInt ≤ (fI D H_188 9 a0 5).toInt := fun z9 => c48 (i_le.mpr z9)
                      refine lv_aload_n hx hb dX9_next_199 rfl (lv_at hl 0 rfl) ?_
                      refine q_gr (T := TX9) C S_188.1 ga0 0 kF_X9_11 dX9_next_200 rfl rfl (by decide) rfl (by decide) rfl (fun g49 => ?_)
                      refine lv_aload_n hx hb dX9_next_203 rfl (lv_at hl 0 rfl) ?_
                      refine q_gi (T := TX9) C S_188.1 ga0 5 kF_X9_28 dX9_next_204 rfl rfl (by decide) rfl (by decide) rfl ?_
                      have n50 : aN H_188 (fR D H_188 9 a0 0) = 400 := len_3 S_188.1 g49
                      refine q_iald C S_188.1 g49 (by omega) (by omega) dX9_next_207 rfl (by decide) ?_
                      refine lv_topi (fun v51 ev51 => ?_)
                      have tav51 : v51.toInt = (eI H_188 (fR D H_188 9 a0 0) (fI D H_188 9 a0 5).toInt.toNat).toInt := by rw [ev51]
                      have tvv51 : T.1 (fI D H_188 9 a0 5).toInt.toNat = nrm (eI H_188 (fR D H_188 9 a0 0) (fI D H_188 9 a0 5).toInt.toNat).toInt := (congrFun (congrArg Prod.fst ((tT_keep hO ga0 S_188.2.1 (by decide) (by decide) (by decide)).trans hpre.1)) _).symm
                      have tnv51 := nrm_d (eI H_188 (fR D H_188 9 a0 0) (fI D H_188 9 a0 5).toInt.toNat).toInt
                      refine lv_bipush (v := 48) hx hb dX9_next_208 (by decide) ?_
                      refine lv_icmp_lt (tgt := 311) hx hb dX9_next_210 (by decide) (fun c52 => ?_) (fun c52 => ?_)
                      · have b52 : v51.toInt < (48 : Int32).toInt := i_lt.mp c52
                        exact retE_v hQ C S_188 hr dX9_next_311 (by rw [s9]; have kw := kd_n.mpr tw; have rf : rn (tdi T) 500 bb = (fI D H_188 9 a0 5).toInt.toNat := rn_of (tdi_f.mpr (by omega)) 500 bb (by omega) (fun i h1 h2 => u188_0.2.2.2.2 i h1 (by omega)) (by omega); exact ⟨⟨((tT_keep hO ga0 S_188.2.1 (by decide) (by decide) (by decide)).trans hpre.1), (by rw [S_188.2.1.fI ga0 rfl (by decide) (by decide)]; exact hpre.2.1), by rw [af_n kw, rf]; omega⟩, by rw [kw]; exact u188_0.2.1, u188_0.1, fun _ => by rw [nv_k ((af_n kw).trans rf)]; exact u188_0.2.2.1, fun h => absurd h (by rw [kw]; decide)⟩)
                      · have b52 : ¬ v51.toInt < (48 : Int32).toInt := fun z9 => c52 (i_lt.mpr z9)
                        refine lv_aload_n hx hb dX9_next_213 rfl (lv_at hl 0 rfl) ?_
                        refine q_gr (T := TX9) C S_188.1 ga0 0 kF_X9_11 dX9_next_214 rfl rfl (by decide) rfl (by decide) rfl (fun g53 => ?_)
                        refine lv_aload_n hx hb dX9_next_217 rfl (lv_at hl 0 rfl) ?_
                        refine q_gi (T := TX9) C S_188.1 ga0 5 kF_X9_28 dX9_next_218 rfl rfl (by decide) rfl (by decide) rfl ?_
                        refine q_iald C S_188.1 g53 (by omega) (by omega) dX9_next_221 rfl (by decide) ?_
                        refine lv_topi (fun v54 ev54 => ?_)
                        have tav54 : v54.toInt = (eI H_188 (fR D H_188 9 a0 0) (fI D H_188 9 a0 5).toInt.toNat).toInt := by rw [ev54]
                        have tvv54 : T.1 (fI D H_188 9 a0 5).toInt.toNat = nrm (eI H_188 (fR D H_188 9 a0 0) (fI D H_188 9 a0 5).toInt.toNat).toInt := (congrFun (congrArg Prod.fst ((tT_keep hO ga0 S_188.2.1 (by decide) (by decide) (by decide)).trans hpre.1)) _).symm
                        have tnv54 := nrm_d (eI H_188 (fR D H_188 9 a0 0) (fI D H_188 9 a0 5).toInt.toNat).toInt
                        refine lv_bipush (v := 57) hx hb dX9_next_222 (by decide) ?_
                        refine lv_icmp_gt (tgt := 311) hx hb dX9_next_224 (by decide) (fun c55 => ?_) (fun c55 => ?_)
                        · have b55 : (57 : Int32).toInt < v54.toInt := i_lt.mp c55
                          exact retE_v hQ C S_188 hr dX9_next_311 (by rw [s9]; have kw := kd_n.mpr tw; have rf : rn (tdi T) 500 bb = (fI D H_188 9 a0 5).toInt.toNat := rn_of (tdi_f.mpr (by omega)) 500 bb (by omega) (fun i h1 h2 => u188_0.2.2.2.2 i h1 (by omega)) (by omega); exact ⟨⟨((tT_keep hO ga0 S_188.2.1 (by decide) (by decide) (by decide)).trans hpre.1), (by rw [S_188.2.1.fI ga0 rfl (by decide) (by decide)]; exact hpre.2.1), by rw [af_n kw, rf]; omega⟩, by rw [kw]; exact u188_0.2.1, u188_0.1, fun _ => by rw [nv_k ((af_n kw).trans rf)]; exact u188_0.2.2.1, fun h => absurd h (by rw [kw]; decide)⟩)
                        · have b55 : ¬ (57 : Int32).toInt < v54.toInt := fun z9 => c55 (i_lt.mpr z9)
                          have tq : tdi T (fI D H_188 9 a0 5).toInt.toNat = true := tdi_t.mpr (by omega)
                          refine lv_aload_n hx hb dX9_next_227 rfl (lv_at hl 0 rfl) ?_
                          refine lv_aload_n hx hb dX9_next_228 rfl (lv_at hl 0 rfl) ?_
                          refine q_gi (T := TX9) C S_188.1 ga0 5 kF_X9_28 dX9_next_229 rfl rfl (by decide) rfl (by decide) rfl ?_
                          refine lv_aload_n hx hb dX9_next_232 rfl (lv_at hl 0 rfl) ?_
                          refine q_gi (T := TX9) C S_188.1 ga0 4 kF_X9_25 dX9_next_233 rfl rfl (by decide) rfl (by decide) rfl ?_
                          have r56 : 0 ≤ (fI D H_188 9 a0 4).toInt ∧ (fI D H_188 9 a0 4).toInt ≤ 400 := S_188.1.rng ga0 rfl (by decide) rfl
                          refine lv_isub hx hb dX9_next_236 ?_
                          refine lv_topi (fun v57 ev57 => ?_)
                          have f58 : v57.toInt = (fI D H_188 9 a0 5).toInt - (fI D H_188 9 a0 4).toInt := by rw [ev57]; exact i_sub (by omega) (by omega)
                          refine lv_iconst (v := 3) hx hb dX9_next_237 (by decide) ?_
                          have k_3 : (3 : Int32).toInt = 3 := by decide
                          refine lv_icmp_ge (tgt := 264) hx hb dX9_next_238 (by decide) (fun c59 => ?_) (fun c59 => ?_)
                          · have b59 : (3 : Int32).toInt ≤ v57.toInt := i_le.mp c59
                            refine lv_sipush (v := 1000) hx hb dX9_next_264 (by decide) ?_
                            have k_1000 : (1000 : Int32).toInt = 1000 := by decide
                            refine q_put (T := TX9) C S_188 ga0 6 kF_X9_31 dX9_next_267 rfl rfl (by decide) (by decide) rfl rfl rfl rfl rfl (vok_a rfl) (by decide +kernel) (fun H60 L60 S60 P60 => ?_)
                            refine lv_aload_n hx hb dX9_next_270 rfl (lv_at hl 0 rfl) ?_
                            refine lv_dup hx hb dX9_next_271 rfl ?_
                            refine q_gi (T := TX9) C S60.1 ga0 5 kF_X9_28 dX9_next_272 rfl rfl (by decide) rfl (by decide) rfl ?_
                            have c61 : (fI D H60 9 a0 5).toInt = (fI D H_188 9 a0 5).toInt := by rw [Pt.o P60 (by decide) (by decide)]
                            have r62 : 0 ≤ (fI D H60 9 a0 5).toInt ∧ (fI D H60 9 a0 5).toInt ≤ 400 := S60.1.rng ga0 rfl (by decide) rfl
                            refine lv_iconst (v := 1) hx hb dX9_next_275 (by decide) ?_
                            have k_1 : (1 : Int32).toInt = 1 := by decide
                            refine lv_iadd hx hb dX9_next_276 ?_
                            refine lv_topi (fun v63 ev63 => ?_)
                            have f64 : v63.toInt = (fI D H60 9 a0 5).toInt + (1 : Int32).toInt := by rw [ev63]; exact i_add (by omega) (by omega)
                            refine q_put (T := TX9) C S60 ga0 5 kF_X9_28 dX9_next_277 rfl rfl (by decide) (by decide) rfl rfl rfl rfl rfl (vok_i rfl (by omega) (by omega)) (by decide +kernel) (fun H65 L65 S65 P65 => ?_)
                            refine lv_goto (tgt := 188) hx hb dX9_next_280 (by decide) ?_
                            have bk : (fI D H65 9 a0 5).toInt = _ := congrArg Int32.toInt (Pt.i P65)
                            exact ih188  H65 L65 ls S65 (⟨by rw [Pt.o P65 (by decide) (by decide), Pt.o P60 (by decide) (by decide)]; exact u188_0.1, by rw [Pt.o P65 (by decide) (by decide), Pt.o P60 (by decide) (by decide)]; exact u188_0.2.1, by rw [show (fI D H65 9 a0 5).toInt.toNat - bb = ((fI D H_188 9 a0 5).toInt.toNat - bb) + 1 by omega]; rw [Pt.o P65 (by decide) (by decide), Pt.i P60]; first | exact (nvk_b (by omega)) | (rw [← nvk_s (k := (fI D H_188 9 a0 5).toInt.toNat - bb) (by omega) u188_0.2.2.1 (show T.1 (bb + ((fI D H_188 9 a0 5).toInt.toNat - bb)) = _ from (congrArg T.1 (by omega)).trans td)]; omega), by omega, fun i h1 h2 => if h9 : (i : Int) < (fI D H_188 9 a0 5).toInt then u188_0.2.2.2.2 i h1 h9 else by rw [show i = (fI D H_188 9 a0 5).toInt.toNat by omega]; exact tq⟩) (by omega) (lv_sub hl [0] rfl)
                          · have b59 : ¬ (3 : Int32).toInt ≤ v57.toInt := fun z9 => c59 (i_le.mpr z9)
                            refine lv_aload_n hx hb dX9_next_241 rfl (lv_at hl 0 rfl) ?_
                            refine q_gi (T := TX9) C S_188.1 ga0 6 kF_X9_31 dX9_next_242 rfl rfl (by decide) rfl (by decide) rfl ?_
                            have vr : 0 ≤ (fI D H_188 9 a0 6).toInt ∧ (fI D H_188 9 a0 6).toInt ≤ 99 := by rw [u188_0.2.2.1]; exact nvk_r (by omega) (fun i h1 h2 => u188_0.2.2.2.2 i h1 (by omega))
                            refine lv_bipush (v := 10) hx hb dX9_next_245 (by decide) ?_
                            have k_10 : (10 : Int32).toInt = 10 := by decide
                            refine lv_imul hx hb dX9_next_247 ?_
                            refine lv_topi (fun v66 ev66 => ?_)
                            have f67 : v66.toInt = (fI D H_188 9 a0 6).toInt * (10) := by rw [ev66]; exact i_mulc k_10 (by omega) (by omega)
                            refine lv_aload_n hx hb dX9_next_248 rfl (lv_at hl 0 rfl) ?_
                            refine q_gr (T := TX9) C S_188.1 ga0 0 kF_X9_11 dX9_next_249 rfl rfl (by decide) rfl (by decide) rfl (fun g68 => ?_)
                            refine lv_aload_n hx hb dX9_next_252 rfl (lv_at hl 0 rfl) ?_
                            refine q_gi (T := TX9) C S_188.1 ga0 5 kF_X9_28 dX9_next_253 rfl rfl (by decide) rfl (by decide) rfl ?_
                            refine q_iald C S_188.1 g68 (by omega) (by omega) dX9_next_256 rfl (by decide) ?_
                            refine lv_topi (fun v69 ev69 => ?_)
                            have tav69 : v69.toInt = (eI H_188 (fR D H_188 9 a0 0) (fI D H_188 9 a0 5).toInt.toNat).toInt := by rw [ev69]
                            have tvv69 : T.1 (fI D H_188 9 a0 5).toInt.toNat = nrm (eI H_188 (fR D H_188 9 a0 0) (fI D H_188 9 a0 5).toInt.toNat).toInt := (congrFun (congrArg Prod.fst ((tT_keep hO ga0 S_188.2.1 (by decide) (by decide) (by decide)).trans hpre.1)) _).symm
                            have tnv69 := nrm_d (eI H_188 (fR D H_188 9 a0 0) (fI D H_188 9 a0 5).toInt.toNat).toInt
                            have wv69 : 48 ≤ v69.toInt ∧ v69.toInt ≤ 57 := by omega
                            have td : T.1 (fI D H_188 9 a0 5).toInt.toNat = v69.toInt := by omega
                            refine lv_iadd hx hb dX9_next_257 ?_
                            refine lv_topi (fun v70 ev70 => ?_)
                            have f71 : v70.toInt = v66.toInt + v69.toInt := by rw [ev70]; exact i_add (by omega) (by omega)
                            refine lv_bipush (v := 48) hx hb dX9_next_258 (by decide) ?_
                            refine lv_isub hx hb dX9_next_260 ?_
                            refine lv_topi (fun v72 ev72 => ?_)
                            have f73 : v72.toInt = v70.toInt - (48 : Int32).toInt := by rw [ev72]; exact i_sub (by omega) (by omega)
                            refine lv_goto (tgt := 267) hx hb dX9_next_261 (by decide) ?_
                            refine q_put (T := TX9) C S_188 ga0 6 kF_X9_31 dX9_next_267 rfl rfl (by decide) (by decide) rfl rfl rfl rfl rfl (vok_a rfl) (by decide +kernel) (fun H74 L74 S74 P74 => ?_)
                            refine lv_aload_n hx hb dX9_next_270 rfl (lv_at hl 0 rfl) ?_
                            refine lv_dup hx hb dX9_next_271 rfl ?_
                            refine q_gi (T := TX9) C S74.1 ga0 5 kF_X9_28 dX9_next_272 rfl rfl (by decide) rfl (by decide) rfl ?_
                            have c75 : (fI D H74 9 a0 5).toInt = (fI D H_188 9 a0 5).toInt := by rw [Pt.o P74 (by decide) (by decide)]
                            have r76 : 0 ≤ (fI D H74 9 a0 5).toInt ∧ (fI D H74 9 a0 5).toInt ≤ 400 := S74.1.rng ga0 rfl (by decide) rfl
                            refine lv_iconst (v := 1) hx hb dX9_next_275 (by decide) ?_
                            have k_1 : (1 : Int32).toInt = 1 := by decide
                            refine lv_iadd hx hb dX9_next_276 ?_
                            refine lv_topi (fun v77 ev77 => ?_)
                            have f78 : v77.toInt = (fI D H74 9 a0 5).toInt + (1 : Int32).toInt := by rw [ev77]; exact i_add (by omega) (by omega)
                            refine q_put (T := TX9) C S74 ga0 5 kF_X9_28 dX9_next_277 rfl rfl (by decide) (by decide) rfl rfl rfl rfl rfl (vok_i rfl (by omega) (by omega)) (by decide +kernel) (fun H79 L79 S79 P79 => ?_)
                            refine lv_goto (tgt := 188) hx hb dX9_next_280 (by decide) ?_
                            have bk : (fI D H79 9 a0 5).toInt = _ := congrArg Int32.toInt (Pt.i P79)
                            exact ih188  H79 L79 ls S79 (⟨by rw [Pt.o P79 (by decide) (by decide), Pt.o P74 (by decide) (by decide)]; exact u188_0.1, by rw [Pt.o P79 (by decide) (by decide), Pt.o P74 (by decide) (by decide)]; exact u188_0.2.1, by rw [show (fI D H79 9 a0 5).toInt.toNat - bb = ((fI D H_188 9 a0 5).toInt.toNat - bb) + 1 by omega]; rw [Pt.o P79 (by decide) (by decide), Pt.i P74]; first | exact (nvk_b (by omega)) | (rw [← nvk_s (k := (fI D H_188 9 a0 5).toInt.toNat - bb) (by omega) u188_0.2.2.1 (show T.1 (bb + ((fI D H_188 9 a0 5).toInt.toNat - bb)) = _ from (congrArg T.1 (by omega)).trans td)]; omega), by omega, fun i h1 h2 => if h9 : (i : Int) < (fI D H_188 9 a0 5).toInt then u188_0.2.2.2.2 i h1 h9 else by rw [show i = (fI D H_188 9 a0 5).toInt.toNat by omega]; exact tq⟩) (by omega) (lv_sub hl [0] rfl)
                have rn : 0 ≤ (fI D H45 9 a0 5).toInt ∧ (fI D H45 9 a0 5).toInt ≤ 400 := S45.1.rng ga0 rfl (by decide) rfl
                exact Lp188 402  H45 L45 ls S45 (⟨by rw [Pt.o P45 (by decide) (by decide), Pt.o P5 (by decide) (by decide), Pt.i P4]; omega, by rw [Pt.i P45]; decide, by rw [Pt.o P45 (by decide) (by decide), Pt.i P5, show (fI D H45 9 a0 5).toInt.toNat - bb = 0 by rw [Pt.o P45 (by decide) (by decide), Pt.o P5 (by decide) (by decide), Pt.o P4 (by decide) (by decide)]; omega]; rfl, by rw [Pt.o P45 (by decide) (by decide), Pt.o P5 (by decide) (by decide), Pt.o P4 (by decide) (by decide)]; omega, fun i h1 h2 => by rw [Pt.o P45 (by decide) (by decide), Pt.o P5 (by decide) (by decide), Pt.o P4 (by decide) (by decide)] at h2; omega⟩)  (by omega) (lv_sub hl [0] rfl)
          · have b14 : ¬ v13.toInt < (97 : Int32).toInt := fun z9 => c14 (i_lt.mpr z9)
            refine lv_aload_n hx hb dX9_next_84 rfl (lv_at hl 0 rfl) ?_
            refine q_gr (T := TX9) C S5.1 ga0 0 kF_X9_11 dX9_next_85 rfl rfl (by decide) rfl (by decide) rfl (fun g80 => ?_)
            refine lv_aload_n hx hb dX9_next_88 rfl (lv_at hl 0 rfl) ?_
            refine q_gi (T := TX9) C S5.1 ga0 5 kF_X9_28 dX9_next_89 rfl rfl (by decide) rfl (by decide) rfl ?_
            refine q_iald C S5.1 g80 (by omega) (by omega) dX9_next_92 rfl (by decide) ?_
            refine lv_topi (fun v81 ev81 => ?_)
            have tav81 : v81.toInt = (eI H5 (fR D H5 9 a0 0) (fI D H5 9 a0 5).toInt.toNat).toInt := by rw [ev81]
            have tvv81 : T.1 bb = nrm (eI H5 (fR D H5 9 a0 0) (fI D H5 9 a0 5).toInt.toNat).toInt := by rw [show bb = (fI D H5 9 a0 5).toInt.toNat by omega]; exact (congrFun (congrArg Prod.fst ((tT_keep hO ga0 S5.2.1 (by decide) (by decide) (by decide)).trans hpre.1)) _).symm
            have tnv81 := nrm_d (eI H5 (fR D H5 9 a0 0) (fI D H5 9 a0 5).toInt.toNat).toInt
            refine lv_bipush (v := 122) hx hb dX9_next_93 (by decide) ?_
            have k_122 : (122 : Int32).toInt = 122 := by decide
            refine lv_icmp_gt (tgt := 155) hx hb dX9_next_95 (by decide) (fun c82 => ?_) (fun c82 => ?_)
            · have b82 : (122 : Int32).toInt < v81.toInt := i_lt.mp c82
              refine lv_aload_n hx hb dX9_next_155 rfl (lv_at hl 0 rfl) ?_
              refine q_gr (T := TX9) C S5.1 ga0 0 kF_X9_11 dX9_next_156 rfl rfl (by decide) rfl (by decide) rfl (fun g83 => ?_)
              refine lv_aload_n hx hb dX9_next_159 rfl (lv_at hl 0 rfl) ?_
              refine q_gi (T := TX9) C S5.1 ga0 5 kF_X9_28 dX9_next_160 rfl rfl (by decide) rfl (by decide) rfl ?_
              refine q_iald C S5.1 g83 (by omega) (by omega) dX9_next_163 rfl (by decide) ?_
              refine lv_topi (fun v84 ev84 => ?_)
              have tav84 : v84.toInt = (eI H5 (fR D H5 9 a0 0) (fI D H5 9 a0 5).toInt.toNat).toInt := by rw [ev84]
              have tvv84 : T.1 bb = nrm (eI H5 (fR D H5 9 a0 0) (fI D H5 9 a0 5).toInt.toNat).toInt := by rw [show bb = (fI D H5 9 a0 5).toInt.toNat by omega]; exact (congrFun (congrArg Prod.fst ((tT_keep hO ga0 S5.2.1 (by decide) (by decide) (by decide)).trans hpre.1)) _).symm
              have tnv84 := nrm_d (eI H5 (fR D H5 9 a0 0) (fI D H5 9 a0 5).toInt.toNat).toInt
              refine lv_bipush (v := 48) hx hb dX9_next_164 (by decide) ?_
              have k_48 : (48 : Int32).toInt = 48 := by decide
              refine lv_icmp_lt (tgt := 283) hx hb dX9_next_166 (by decide) (fun c85 => ?_) (fun c85 => ?_)
              · have b85 : v84.toInt < (48 : Int32).toInt := i_lt.mp c85
                refine lv_aload_n hx hb dX9_next_283 rfl (lv_at hl 0 rfl) ?_
                refine lv_iconst (v := 3) hx hb dX9_next_284 (by decide) ?_
                have k_3 : (3 : Int32).toInt = 3 := by decide
                refine q_put (T := TX9) C S5 ga0 3 kF_X9_22 dX9_next_285 rfl rfl (by decide) (by decide) rfl rfl rfl rfl rfl (vok_a rfl) (by decide +kernel) (fun H86 L86 S86 P86 => ?_)
                refine lv_aload_n hx hb dX9_next_288 rfl (lv_at hl 0 rfl) ?_
                refine lv_aload_n hx hb dX9_next_289 rfl (lv_at hl 0 rfl) ?_
                refine q_gr (T := TX9) C S86.1 ga0 0 kF_X9_11 dX9_next_290 rfl rfl (by decide) rfl (by decide) rfl (fun g87 => ?_)
                refine lv_aload_n hx hb dX9_next_293 rfl (lv_at hl 0 rfl) ?_
                refine q_gi (T := TX9) C S86.1 ga0 5 kF_X9_28 dX9_next_294 rfl rfl (by decide) rfl (by decide) rfl ?_
                have c88 : (fI D H86 9 a0 5).toInt = (fI D H5 9 a0 5).toInt := by rw [Pt.o P86 (by decide) (by decide)]
                have r89 : 0 ≤ (fI D H86 9 a0 5).toInt ∧ (fI D H86 9 a0 5).toInt ≤ 400 := S86.1.rng ga0 rfl (by decide) rfl
                have n90 : aN H86 (fR D H86 9 a0 0) = 400 := len_3 S86.1 g87
                refine q_iald C S86.1 g87 (by omega) (by omega) dX9_next_297 rfl (by decide) ?_
                refine lv_topi (fun v91 ev91 => ?_)
                have tav91 : v91.toInt = (eI H86 (fR D H86 9 a0 0) (fI D H86 9 a0 5).toInt.toNat).toInt := by rw [ev91]
                have tvv91 : T.1 bb = nrm (eI H86 (fR D H86 9 a0 0) (fI D H86 9 a0 5).toInt.toNat).toInt := by rw [show bb = (fI D H86 9 a0 5).toInt.toNat by omega]; exact (congrFun (congrArg Prod.fst ((tT_keep hO ga0 S86.2.1 (by decide) (by decide) (by decide)).trans hpre.1)) _).symm
                have tnv91 := nrm_d (eI H86 (fR D H86 9 a0 0) (fI D H86 9 a0 5).toInt.toNat).toInt
                have sg : T.1 bb = nrm v91.toInt := by rw [tav91]; exact tvv91
                refine q_put (T := TX9) C S86 ga0 6 kF_X9_31 dX9_next_298 rfl rfl (by decide) (by decide) rfl rfl rfl rfl rfl (vok_a rfl) (by decide +kernel) (fun H92 L92 S92 P92 => ?_)
                refine lv_aload_n hx hb dX9_next_301 rfl (lv_at hl 0 rfl) ?_
                refine lv_dup hx hb dX9_next_302 rfl ?_
                refine q_gi (T := TX9) C S92.1 ga0 5 kF_X9_28 dX9_next_303 rfl rfl (by decide) rfl (by decide) rfl ?_
                have c93 : (fI D H92 9 a0 5).toInt = (fI D H86 9 a0 5).toInt := by rw [Pt.o P92 (by decide) (by decide)]
                have r94 : 0 ≤ (fI D H92 9 a0 5).toInt ∧ (fI D H92 9 a0 5).toInt ≤ 400 := S92.1.rng ga0 rfl (by decide) rfl
                refine lv_iconst (v := 1) hx hb dX9_next_306 (by decide) ?_
                have k_1 : (1 : Int32).toInt = 1 := by decide
                refine lv_iadd hx hb dX9_next_307 ?_
                refine lv_topi (fun v95 ev95 => ?_)
                have f96 : v95.toInt = (fI D H92 9 a0 5).toInt + (1 : Int32).toInt := by rw [ev95]; exact i_add (by omega) (by omega)
                refine q_put (T := TX9) C S92 ga0 5 kF_X9_28 dX9_next_308 rfl rfl (by decide) (by decide) rfl rfl rfl rfl rfl (vok_i rfl (by omega) (by omega)) (by decide +kernel) (fun H97 L97 S97 P97 => ?_)
                exact retE_v hQ C S97 hr dX9_next_311 (by rw [s9]; have kw : kd T bb = 3 := kd_s.mpr ⟨by omega, tle_f.mpr (by omega), tdi_f.mpr (by omega)⟩; exact ⟨⟨((tT_keep hO ga0 S97.2.1 (by decide) (by decide) (by decide)).trans hpre.1), (by rw [S97.2.1.fI ga0 rfl (by decide) (by decide)]; exact hpre.2.1), by rw [Pt.i P97, af_s kw]; omega⟩, by rw [Pt.o P97 (by decide) (by decide), Pt.o P92 (by decide) (by decide), Pt.i P86, kw]; decide, by rw [Pt.o P97 (by decide) (by decide), Pt.o P92 (by decide) (by decide), Pt.o P86 (by decide) (by decide), Pt.o P5 (by decide) (by decide), Pt.i P4]; omega, fun h => absurd h (by rw [kw]; decide), fun _ => by rw [Pt.o P97 (by decide) (by decide), Pt.i P92]; exact sg.symm⟩)
              · have b85 : ¬ v84.toInt < (48 : Int32).toInt := fun z9 => c85 (i_lt.mpr z9)
                refine lv_aload_n hx hb dX9_next_169 rfl (lv_at hl 0 rfl) ?_
                refine q_gr (T := TX9) C S5.1 ga0 0 kF_X9_11 dX9_next_170 rfl rfl (by decide) rfl (by decide) rfl (fun g98 => ?_)
                refine lv_aload_n hx hb dX9_next_173 rfl (lv_at hl 0 rfl) ?_
                refine q_gi (T := TX9) C S5.1 ga0 5 kF_X9_28 dX9_next_174 rfl rfl (by decide) rfl (by decide) rfl ?_
                refine q_iald C S5.1 g98 (by omega) (by omega) dX9_next_177 rfl (by decide) ?_
                refine lv_topi (fun v99 ev99 => ?_)
                have tav99 : v99.toInt = (eI H5 (fR D H5 9 a0 0) (fI D H5 9 a0 5).toInt.toNat).toInt := by rw [ev99]
                have tvv99 : T.1 bb = nrm (eI H5 (fR D H5 9 a0 0) (fI D H5 9 a0 5).toInt.toNat).toInt := by rw [show bb = (fI D H5 9 a0 5).toInt.toNat by omega]; exact (congrFun (congrArg Prod.fst ((tT_keep hO ga0 S5.2.1 (by decide) (by decide) (by decide)).trans hpre.1)) _).symm
                have tnv99 := nrm_d (eI H5 (fR D H5 9 a0 0) (fI D H5 9 a0 5).toInt.toNat).toInt
                refine lv_bipush (v := 57) hx hb dX9_next_178 (by decide) ?_
                have k_57 : (57 : Int32).toInt = 57 := by decide
                refine lv_icmp_gt (tgt := 283) hx hb dX9_next_180 (by decide) (fun c100 => ?_) (fun c100 => ?_)
                · have b100 : (57 : Int32).toInt < v99.toInt := i_lt.mp c100
                  refine lv_aload_n hx hb dX9_next_283 rfl (lv_at hl 0 rfl) ?_
                  refine lv_iconst (v := 3) hx hb dX9_next_284 (by decide) ?_
                  have k_3 : (3 : Int32).toInt = 3 := by decide
                  refine q_put (T := TX9) C S5 ga0 3 kF_X9_22 dX9_next_285 rfl rfl (by decide) (by decide) rfl rfl rfl rfl rfl (vok_a rfl) (by decide +kernel) (fun H101 L101 S101 P101 => ?_)
                  refine lv_aload_n hx hb dX9_next_288 rfl (lv_at hl 0 rfl) ?_
                  refine lv_aload_n hx hb dX9_next_289 rfl (lv_at hl 0 rfl) ?_
                  refine q_gr (T := TX9) C S101.1 ga0 0 kF_X9_11 dX9_next_290 rfl rfl (by decide) rfl (by decide) rfl (fun g102 => ?_)
                  refine lv_aload_n hx hb dX9_next_293 rfl (lv_at hl 0 rfl) ?_
                  refine q_gi (T := TX9) C S101.1 ga0 5 kF_X9_28 dX9_next_294 rfl rfl (by decide) rfl (by decide) rfl ?_
                  have c103 : (fI D H101 9 a0 5).toInt = (fI D H5 9 a0 5).toInt := by rw [Pt.o P101 (by decide) (by decide)]
                  have r104 : 0 ≤ (fI D H101 9 a0 5).toInt ∧ (fI D H101 9 a0 5).toInt ≤ 400 := S101.1.rng ga0 rfl (by decide) rfl
                  have n105 : aN H101 (fR D H101 9 a0 0) = 400 := len_3 S101.1 g102
                  refine q_iald C S101.1 g102 (by omega) (by omega) dX9_next_297 rfl (by decide) ?_
                  refine lv_topi (fun v106 ev106 => ?_)
                  have tav106 : v106.toInt = (eI H101 (fR D H101 9 a0 0) (fI D H101 9 a0 5).toInt.toNat).toInt := by rw [ev106]
                  have tvv106 : T.1 bb = nrm (eI H101 (fR D H101 9 a0 0) (fI D H101 9 a0 5).toInt.toNat).toInt := by rw [show bb = (fI D H101 9 a0 5).toInt.toNat by omega]; exact (congrFun (congrArg Prod.fst ((tT_keep hO ga0 S101.2.1 (by decide) (by decide) (by decide)).trans hpre.1)) _).symm
                  have tnv106 := nrm_d (eI H101 (fR D H101 9 a0 0) (fI D H101 9 a0 5).toInt.toNat).toInt
                  have sg : T.1 bb = nrm v106.toInt := by rw [tav106]; exact tvv106
                  refine q_put (T := TX9) C S101 ga0 6 kF_X9_31 dX9_next_298 rfl rfl (by decide) (by decide) rfl rfl rfl rfl rfl (vok_a rfl) (by decide +kernel) (fun H107 L107 S107 P107 => ?_)
                  refine lv_aload_n hx hb dX9_next_301 rfl (lv_at hl 0 rfl) ?_
                  refine lv_dup hx hb dX9_next_302 rfl ?_
                  refine q_gi (T := TX9) C S107.1 ga0 5 kF_X9_28 dX9_next_303 rfl rfl (by decide) rfl (by decide) rfl ?_
                  have c108 : (fI D H107 9 a0 5).toInt = (fI D H101 9 a0 5).toInt := by rw [Pt.o P107 (by decide) (by decide)]
                  have r109 : 0 ≤ (fI D H107 9 a0 5).toInt ∧ (fI D H107 9 a0 5).toInt ≤ 400 := S107.1.rng ga0 rfl (by decide) rfl
                  refine lv_iconst (v := 1) hx hb dX9_next_306 (by decide) ?_
                  have k_1 : (1 : Int32).toInt = 1 := by decide
                  refine lv_iadd hx hb dX9_next_307 ?_
                  refine lv_topi (fun v110 ev110 => ?_)
                  have f111 : v110.toInt = (fI D H107 9 a0 5).toInt + (1 : Int32).toInt := by rw [ev110]; exact i_add (by omega) (by omega)
                  refine q_put (T := TX9) C S107 ga0 5 kF_X9_28 dX9_next_308 rfl rfl (by decide) (by decide) rfl rfl rfl rfl rfl (vok_i rfl (by omega) (by omega)) (by decide +kernel) (fun H112 L112 S112 P112 => ?_)
                  exact retE_v hQ C S112 hr dX9_next_311 (by rw [s9]; have kw : kd T bb = 3 := kd_s.mpr ⟨by omega, tle_f.mpr (by omega), tdi_f.mpr (by omega)⟩; exact ⟨⟨((tT_keep hO ga0 S112.2.1 (by decide) (by decide) (by decide)).trans hpre.1), (by rw [S112.2.1.fI ga0 rfl (by decide) (by decide)]; exact hpre.2.1), by rw [Pt.i P112, af_s kw]; omega⟩, by rw [Pt.o P112 (by decide) (by decide), Pt.o P107 (by decide) (by decide), Pt.i P101, kw]; decide, by rw [Pt.o P112 (by decide) (by decide), Pt.o P107 (by decide) (by decide), Pt.o P101 (by decide) (by decide), Pt.o P5 (by decide) (by decide), Pt.i P4]; omega, fun h => absurd h (by rw [kw]; decide), fun _ => by rw [Pt.o P112 (by decide) (by decide), Pt.i P107]; exact sg.symm⟩)
                · have b100 : ¬ (57 : Int32).toInt < v99.toInt := fun z9 => c100 (i_lt.mpr z9)
                  have tw : tdi T bb = true := tdi_t.mpr (by omega)
                  refine lv_aload_n hx hb dX9_next_183 rfl (lv_at hl 0 rfl) ?_
                  refine lv_iconst (v := 2) hx hb dX9_next_184 (by decide) ?_
                  have k_2 : (2 : Int32).toInt = 2 := by decide
                  refine q_put (T := TX9) C S5 ga0 3 kF_X9_22 dX9_next_185 rfl rfl (by decide) (by decide) rfl rfl rfl rfl rfl (vok_a rfl) (by decide +kernel) (fun H113 L113 S113 P113 => ?_)
                  have Lp188 : ∀ (n : Nat)  (H_188 : Heap) (L_188 : List Loc) (ls : Array Slot), (Sd D G [(2, 3), (2, 4), (2, 5), (2, 6)] s.heap H_188 L_188) → ((fI D H_188 9 a0 4).toInt = bb ∧ (fI D H_188 9 a0 3).toInt = 2 ∧ (fI D H_188 9 a0 6).toInt = nvk T bb ((fI D H_188 9 a0 5).toInt.toNat - bb) ∧ (bb : Int) ≤ (fI D H_188 9 a0 5).toInt ∧ ∀ i : Nat, bb ≤ i → (i : Int) < (fI D H_188 9 a0 5).toInt → tdi T i = true) → 401 - (fI D H_188 9 a0 5).toInt ≤ (n : Int) → lv_has ls 1 [(0, .ref a0)] → W p l e (rmU 0 0 0) s m args below meth c H_188 L_188 0 0 Q (F0 m 188 ls []) := by
                    intro n
                    induction n with
                    | zero =>
                      intro H_188 L_188 ls S_188 u188_0 hn hl
                      have rz : 0 ≤ (fI D H_188 9 a0 5).toInt ∧ (fI D H_188 9 a0 5).toInt ≤ 400 := S_188.1.rng ga0 rfl (by decide) rfl
                      exact absurd hn (by omega)
                    | succ n ih188 =>
                      intro H_188 L_188 ls S_188 u188_0 hn hl
                      refine lv_aload_n hx hb dX9_next_188 rfl (lv_at hl 0 rfl) ?_
                      refine q_gi (T := TX9) C S_188.1 ga0 5 kF_X9_28 dX9_next_189 rfl rfl (by decide) rfl (by decide) rfl ?_
                      have r114 : 0 ≤ (fI D H_188 9 a0 5).toInt ∧ (fI D H_188 9 a0 5).toInt ≤ 400 := S_188.1.rng ga0 rfl (by decide) rfl
                      refine lv_aload_n hx hb dX9_next_192 rfl (lv_at hl 0 rfl) ?_
                      refine q_gi (T := TX9) C S_188.1 ga0 1 kF_X9_15 dX9_next_193 rfl rfl (by decide) rfl (by decide) rfl ?_
                      have r115 : 0 ≤ (fI D H_188 9 a0 1).toInt ∧ (fI D H_188 9 a0 1).toInt ≤ 400 := S_188.1.rng ga0 rfl (by decide) rfl
                      have tl : T.2 = (fI D H_188 9 a0 1).toInt.toNat := (congrArg Prod.snd ((tT_keep hO ga0 S_188.2.1 (by decide) (by decide) (by decide)).trans hpre.1)).symm
                      refine lv_icmp_ge (tgt := 311) hx hb dX9_next_196 (by decide) (fun c116 => ?_) (fun c116 => ?_)
                      · have b116 : (fI D H_188 9 a0 1).toInt ≤ (fI D H_188 9 a0 5).toInt := i_le.mp c116
                        exact retE_v hQ C S_188 hr dX9_next_311 (by rw [s9]; have kw := kd_n.mpr tw; have rf : rn (tdi T) 500 bb = (fI D H_188 9 a0 5).toInt.toNat := rn_of (tdi_f.mpr (by omega)) 500 bb (by omega) (fun i h1 h2 => u188_0.2.2.2.2 i h1 (by omega)) (by omega); exact ⟨⟨((tT_keep hO ga0 S_188.2.1 (by decide) (by decide) (by decide)).trans hpre.1), (by rw [S_188.2.1.fI ga0 rfl (by decide) (by decide)]; exact hpre.2.1), by rw [af_n kw, rf]; omega⟩, by rw [kw]; exact u188_0.2.1, u188_0.1, fun _ => by rw [nv_k ((af_n kw).trans rf)]; exact u188_0.2.2.1, fun h => absurd h (by rw [kw]; decide)⟩)
                      · have b116 : ¬ (fI D H_188 9 a0 1).toInt ≤ (fI D H_188 9 a0 5).toInt := fun z9 => c116 (i_le.mpr z9)
                        refine lv_aload_n hx hb dX9_next_199 rfl (lv_at hl 0 rfl) ?_
                        refine q_gr (T := TX9) C S_188.1 ga0 0 kF_X9_11 dX9_next_200 rfl rfl (by decide) rfl (by decide) rfl (fun g117 => ?_)
                        refine lv_aload_n hx hb dX9_next_203 rfl (lv_at hl 0 rfl) ?_
                        refine q_gi (T := TX9) C S_188.1 ga0 5 kF_X9_28 dX9_next_204 rfl rfl (by decide) rfl (by decide) rfl ?_
                        have n118 : aN H_188 (fR D H_188 9 a0 0) = 400 := len_3 S_188.1 g117
                        refine q_iald C S_188.1 g117 (by omega) (by omega) dX9_next_207 rfl (by decide) ?_
                        refine lv_topi (fun v119 ev119 => ?_)
                        have tav119 : v119.toInt = (eI H_188 (fR D H_188 9 a0 0) (fI D H_188 9 a0 5).toInt.toNat).toInt := by rw [ev119]
                        have tvv119 : T.1 (fI D H_188 9 a0 5).toInt.toNat = nrm (eI H_188 (fR D H_188 9 a0 0) (fI D H_188 9 a0 5).toInt.toNat).toInt := (congrFun (congrArg Prod.fst ((tT_keep hO ga0 S_188.2.1 (by decide) (by decide) (by decide)).trans hpre.1)) _).symm
                        have tnv119 := nrm_d (eI H_188 (fR D H_188 9 a0 0) (fI D H_188 9 a0 5).toInt.toNat).toInt
                        refine lv_bipush (v := 48) hx hb dX9_next_208 (by decide) ?_
                        refine lv_icmp_lt (tgt := 311) hx hb dX9_next_210 (by decide) (fun c120 => ?_) (fun c120 => ?_)
                        · have b120 : v119.toInt < (48 : Int32).toInt := i_lt.mp c120
                          exact retE_v hQ C S_188 hr dX9_next_311 (by rw [s9]; have kw := kd_n.mpr tw; have rf : rn (tdi T) 500 bb = (fI D H_188 9 a0 5).toInt.toNat := rn_of (tdi_f.mpr (by omega)) 500 bb (by omega) (fun i h1 h2 => u188_0.2.2.2.2 i h1 (by omega)) (by omega); exact ⟨⟨((tT_keep hO ga0 S_188.2.1 (by decide) (by decide) (by decide)).trans hpre.1), (by rw [S_188.2.1.fI ga0 rfl (by decide) (by decide)]; exact hpre.2.1), by rw [af_n kw, rf]; omega⟩, by rw [kw]; exact u188_0.2.1, u188_0.1, fun _ => by rw [nv_k ((af_n kw).trans rf)]; exact u188_0.2.2.1, fun h => absurd h (by rw [kw]; decide)⟩)
                        · have b120 : ¬ v119.toInt < (48 : Int32).toInt := fun z9 => c120 (i_lt.mpr z9)
                          refine lv_aload_n hx hb dX9_next_213 rfl (lv_at hl 0 rfl) ?_
                          refine q_gr (T := TX9) C S_188.1 ga0 0 kF_X9_11 dX9_next_214 rfl rfl (by decide) rfl (by decide) rfl (fun g121 => ?_)
                          refine lv_aload_n hx hb dX9_next_217 rfl (lv_at hl 0 rfl) ?_
                          refine q_gi (T := TX9) C S_188.1 ga0 5 kF_X9_28 dX9_next_218 rfl rfl (by decide) rfl (by decide) rfl ?_
                          refine q_iald C S_188.1 g121 (by omega) (by omega) dX9_next_221 rfl (by decide) ?_
                          refine lv_topi (fun v122 ev122 => ?_)
                          have tav122 : v122.toInt = (eI H_188 (fR D H_188 9 a0 0) (fI D H_188 9 a0 5).toInt.toNat).toInt := by rw [ev122]
                          have tvv122 : T.1 (fI D H_188 9 a0 5).toInt.toNat = nrm (eI H_188 (fR D H_188 9 a0 0) (fI D H_188 9 a0 5).toInt.toNat).toInt := (congrFun (congrArg Prod.fst ((tT_keep hO ga0 S_188.2.1 (by decide) (by decide) (by decide)).trans hpre.1)) _).symm
                          have tnv122 := nrm_d (eI H_188 (fR D H_188 9 a0 0) (fI D H_188 9 a0 5).toInt.toNat).toInt
                          refine lv_bipush (v := 57) hx hb dX9_next_222 (by decide) ?_
                          refine lv_icmp_gt (tgt := 311) hx hb dX9_next_224 (by decide) (fun c123 => ?_) (fun c123 => ?_)
                          · have b123 : (57 : Int32).toInt < v122.toInt := i_lt.mp c123
                            exact retE_v hQ C S_188 hr dX9_next_311 (by rw [s9]; have kw := kd_n.mpr tw; have rf : rn (tdi T) 500 bb = (fI D H_188 9 a0 5).toInt.toNat := rn_of (tdi_f.mpr (by omega)) 500 bb (by omega) (fun i h1 h2 => u188_0.2.2.2.2 i h1 (by omega)) (by omega); exact ⟨⟨((tT_keep hO ga0 S_188.2.1 (by decide) (by decide) (by decide)).trans hpre.1), (by rw [S_188.2.1.fI ga0 rfl (by decide) (by decide)]; exact hpre.2.1), by rw [af_n kw, rf]; omega⟩, by rw [kw]; exact u188_0.2.1, u188_0.1, fun _ => by rw [nv_k ((af_n kw).trans rf)]; exact u188_0.2.2.1, fun h => absurd h (by rw [kw]; decide)⟩)
                          · have b123 : ¬ (57 : Int32).toInt < v122.toInt := fun z9 => c123 (i_lt.mpr z9)
                            have tq : tdi T (fI D H_188 9 a0 5).toInt.toNat = true := tdi_t.mpr (by omega)
                            refine lv_aload_n hx hb dX9_next_227 rfl (lv_at hl 0 rfl) ?_
                            refine lv_aload_n hx hb dX9_next_228 rfl (lv_at hl 0 rfl) ?_
                            refine q_gi (T := TX9) C S_188.1 ga0 5 kF_X9_28 dX9_next_229 rfl rfl (by decide) rfl (by decide) rfl ?_
                            refine lv_aload_n hx hb dX9_next_232 rfl (lv_at hl 0 rfl) ?_
                            refine q_gi (T := TX9) C S_188.1 ga0 4 kF_X9_25 dX9_next_233 rfl rfl (by decide) rfl (by decide) rfl ?_
                            have r124 : 0 ≤ (fI D H_188 9 a0 4).toInt ∧ (fI D H_188 9 a0 4).toInt ≤ 400 := S_188.1.rng ga0 rfl (by decide) rfl
                            refine lv_isub hx hb dX9_next_236 ?_
                            refine lv_topi (fun v125 ev125 => ?_)
                            have f126 : v125.toInt = (fI D H_188 9 a0 5).toInt - (fI D H_188 9 a0 4).toInt := by rw [ev125]; exact i_sub (by omega) (by omega)
                            refine lv_iconst (v := 3) hx hb dX9_next_237 (by decide) ?_
                            have k_3 : (3 : Int32).toInt = 3 := by decide
                            refine lv_icmp_ge (tgt := 264) hx hb dX9_next_238 (by decide) (fun c127 => ?_) (fun c127 => ?_)
                            · have b127 : (3 : Int32).toInt ≤ v125.toInt := i_le.mp c127
                              refine lv_sipush (v := 1000) hx hb dX9_next_264 (by decide) ?_
                              have k_1000 : (1000 : Int32).toInt = 1000 := by decide
                              refine q_put (T := TX9) C S_188 ga0 6 kF_X9_31 dX9_next_267 rfl rfl (by decide) (by decide) rfl rfl rfl rfl rfl (vok_a rfl) (by decide +kernel) (fun H128 L128 S128 P128 => ?_)
                              refine lv_aload_n hx hb dX9_next_270 rfl (lv_at hl 0 rfl) ?_
                              refine lv_dup hx hb dX9_next_271 rfl ?_
                              refine q_gi (T := TX9) C S128.1 ga0 5 kF_X9_28 dX9_next_272 rfl rfl (by decide) rfl (by decide) rfl ?_
                              have c129 : (fI D H128 9 a0 5).toInt = (fI D H_188 9 a0 5).toInt := by rw [Pt.o P128 (by decide) (by decide)]
                              have r130 : 0 ≤ (fI D H128 9 a0 5).toInt ∧ (fI D H128 9 a0 5).toInt ≤ 400 := S128.1.rng ga0 rfl (by decide) rfl
                              refine lv_iconst (v := 1) hx hb dX9_next_275 (by decide) ?_
                              have k_1 : (1 : Int32).toInt = 1 := by decide
                              refine lv_iadd hx hb dX9_next_276 ?_
                              refine lv_topi (fun v131 ev131 => ?_)
                              have f132 : v131.toInt = (fI D H128 9 a0 5).toInt + (1 : Int32).toInt := by rw [ev131]; exact i_add (by omega) (by omega)
                              refine q_put (T := TX9) C S128 ga0 5 kF_X9_28 dX9_next_277 rfl rfl (by decide) (by decide) rfl rfl rfl rfl rfl (vok_i rfl (by omega) (by omega)) (by decide +kernel) (fun H133 L133 S133 P133 => ?_)
                              refine lv_goto (tgt := 188) hx hb dX9_next_280 (by decide) ?_
                              have bk : (fI D H133 9 a0 5).toInt = _ := congrArg Int32.toInt (Pt.i P133)
                              exact ih188  H133 L133 ls S133 (⟨by rw [Pt.o P133 (by decide) (by decide), Pt.o P128 (by decide) (by decide)]; exact u188_0.1, by rw [Pt.o P133 (by decide) (by decide), Pt.o P128 (by decide) (by decide)]; exact u188_0.2.1, by rw [show (fI D H133 9 a0 5).toInt.toNat - bb = ((fI D H_188 9 a0 5).toInt.toNat - bb) + 1 by omega]; rw [Pt.o P133 (by decide) (by decide), Pt.i P128]; first | exact (nvk_b (by omega)) | (rw [← nvk_s (k := (fI D H_188 9 a0 5).toInt.toNat - bb) (by omega) u188_0.2.2.1 (show T.1 (bb + ((fI D H_188 9 a0 5).toInt.toNat - bb)) = _ from (congrArg T.1 (by omega)).trans td)]; omega), by omega, fun i h1 h2 => if h9 : (i : Int) < (fI D H_188 9 a0 5).toInt then u188_0.2.2.2.2 i h1 h9 else by rw [show i = (fI D H_188 9 a0 5).toInt.toNat by omega]; exact tq⟩) (by omega) (lv_sub hl [0] rfl)
                            · have b127 : ¬ (3 : Int32).toInt ≤ v125.toInt := fun z9 => c127 (i_le.mpr z9)
                              refine lv_aload_n hx hb dX9_next_241 rfl (lv_at hl 0 rfl) ?_
                              refine q_gi (T := TX9) C S_188.1 ga0 6 kF_X9_31 dX9_next_242 rfl rfl (by decide) rfl (by decide) rfl ?_
                              have vr : 0 ≤ (fI D H_188 9 a0 6).toInt ∧ (fI D H_188 9 a0 6).toInt ≤ 99 := by rw [u188_0.2.2.1]; exact nvk_r (by omega) (fun i h1 h2 => u188_0.2.2.2.2 i h1 (by omega))
                              refine lv_bipush (v := 10) hx hb dX9_next_245 (by decide) ?_
                              have k_10 : (10 : Int32).toInt = 10 := by decide
                              refine lv_imul hx hb dX9_next_247 ?_
                              refine lv_topi (fun v134 ev134 => ?_)
                              have f135 : v134.toInt = (fI D H_188 9 a0 6).toInt * (10) := by rw [ev134]; exact i_mulc k_10 (by omega) (by omega)
                              refine lv_aload_n hx hb dX9_next_248 rfl (lv_at hl 0 rfl) ?_
                              refine q_gr (T := TX9) C S_188.1 ga0 0 kF_X9_11 dX9_next_249 rfl rfl (by decide) rfl (by decide) rfl (fun g136 => ?_)
                              refine lv_aload_n hx hb dX9_next_252 rfl (lv_at hl 0 rfl) ?_
                              refine q_gi (T := TX9) C S_188.1 ga0 5 kF_X9_28 dX9_next_253 rfl rfl (by decide) rfl (by decide) rfl ?_
                              refine q_iald C S_188.1 g136 (by omega) (by omega) dX9_next_256 rfl (by decide) ?_
                              refine lv_topi (fun v137 ev137 => ?_)
                              have tav137 : v137.toInt = (eI H_188 (fR D H_188 9 a0 0) (fI D H_188 9 a0 5).toInt.toNat).toInt := by rw [ev137]
                              have tvv137 : T.1 (fI D H_188 9 a0 5).toInt.toNat = nrm (eI H_188 (fR D H_188 9 a0 0) (fI D H_188 9 a0 5).toInt.toNat).toInt := (congrFun (congrArg Prod.fst ((tT_keep hO ga0 S_188.2.1 (by decide) (by decide) (by decide)).trans hpre.1)) _).symm
                              have tnv137 := nrm_d (eI H_188 (fR D H_188 9 a0 0) (fI D H_188 9 a0 5).toInt.toNat).toInt
                              have wv137 : 48 ≤ v137.toInt ∧ v137.toInt ≤ 57 := by omega
                              have td : T.1 (fI D H_188 9 a0 5).toInt.toNat = v137.toInt := by omega
                              refine lv_iadd hx hb dX9_next_257 ?_
                              refine lv_topi (fun v138 ev138 => ?_)
                              have f139 : v138.toInt = v134.toInt + v137.toInt := by rw [ev138]; exact i_add (by omega) (by omega)
                              refine lv_bipush (v := 48) hx hb dX9_next_258 (by decide) ?_
                              refine lv_isub hx hb dX9_next_260 ?_
                              refine lv_topi (fun v140 ev140 => ?_)
                              have f141 : v140.toInt = v138.toInt - (48 : Int32).toInt := by rw [ev140]; exact i_sub (by omega) (by omega)
                              refine lv_goto (tgt := 267) hx hb dX9_next_261 (by decide) ?_
                              refine q_put (T := TX9) C S_188 ga0 6 kF_X9_31 dX9_next_267 rfl rfl (by decide) (by decide) rfl rfl rfl rfl rfl (vok_a rfl) (by decide +kernel) (fun H142 L142 S142 P142 => ?_)
                              refine lv_aload_n hx hb dX9_next_270 rfl (lv_at hl 0 rfl) ?_
                              refine lv_dup hx hb dX9_next_271 rfl ?_
                              refine q_gi (T := TX9) C S142.1 ga0 5 kF_X9_28 dX9_next_272 rfl rfl (by decide) rfl (by decide) rfl ?_
                              have c143 : (fI D H142 9 a0 5).toInt = (fI D H_188 9 a0 5).toInt := by rw [Pt.o P142 (by decide) (by decide)]
                              have r144 : 0 ≤ (fI D H142 9 a0 5).toInt ∧ (fI D H142 9 a0 5).toInt ≤ 400 := S142.1.rng ga0 rfl (by decide) rfl
                              refine lv_iconst (v := 1) hx hb dX9_next_275 (by decide) ?_
                              have k_1 : (1 : Int32).toInt = 1 := by decide
                              refine lv_iadd hx hb dX9_next_276 ?_
                              refine lv_topi (fun v145 ev145 => ?_)
                              have f146 : v145.toInt = (fI D H142 9 a0 5).toInt + (1 : Int32).toInt := by rw [ev145]; exact i_add (by omega) (by omega)
                              refine q_put (T := TX9) C S142 ga0 5 kF_X9_28 dX9_next_277 rfl rfl (by decide) (by decide) rfl rfl rfl rfl rfl (vok_i rfl (by omega) (by omega)) (by decide +kernel) (fun H147 L147 S147 P147 => ?_)
                              refine lv_goto (tgt := 188) hx hb dX9_next_280 (by decide) ?_
                              have bk : (fI D H147 9 a0 5).toInt = _ := congrArg Int32.toInt (Pt.i P147)
                              exact ih188  H147 L147 ls S147 (⟨by rw [Pt.o P147 (by decide) (by decide), Pt.o P142 (by decide) (by decide)]; exact u188_0.1, by rw [Pt.o P147 (by decide) (by decide), Pt.o P142 (by decide) (by decide)]; exact u188_0.2.1, by rw [show (fI D H147 9 a0 5).toInt.toNat - bb = ((fI D H_188 9 a0 5).toInt.toNat - bb) + 1 by omega]; rw [Pt.o P147 (by decide) (by decide), Pt.i P142]; first | exact (nvk_b (by omega)) | (rw [← nvk_s (k := (fI D H_188 9 a0 5).toInt.toNat - bb) (by omega) u188_0.2.2.1 (show T.1 (bb + ((fI D H_188 9 a0 5).toInt.toNat - bb)) = _ from (congrArg T.1 (by omega)).trans td)]; omega), by omega, fun i h1 h2 => if h9 : (i : Int) < (fI D H_188 9 a0 5).toInt then u188_0.2.2.2.2 i h1 h9 else by rw [show i = (fI D H_188 9 a0 5).toInt.toNat by omega]; exact tq⟩) (by omega) (lv_sub hl [0] rfl)
                  have rn : 0 ≤ (fI D H113 9 a0 5).toInt ∧ (fI D H113 9 a0 5).toInt ≤ 400 := S113.1.rng ga0 rfl (by decide) rfl
                  exact Lp188 402  H113 L113 ls S113 (⟨by rw [Pt.o P113 (by decide) (by decide), Pt.o P5 (by decide) (by decide), Pt.i P4]; omega, by rw [Pt.i P113]; decide, by rw [Pt.o P113 (by decide) (by decide), Pt.i P5, show (fI D H113 9 a0 5).toInt.toNat - bb = 0 by rw [Pt.o P113 (by decide) (by decide), Pt.o P5 (by decide) (by decide), Pt.o P4 (by decide) (by decide)]; omega]; rfl, by rw [Pt.o P113 (by decide) (by decide), Pt.o P5 (by decide) (by decide), Pt.o P4 (by decide) (by decide)]; omega, fun i h1 h2 => by rw [Pt.o P113 (by decide) (by decide), Pt.o P5 (by decide) (by decide), Pt.o P4 (by decide) (by decide)] at h2; omega⟩)  (by omega) (lv_sub hl [0] rfl)
            · have b82 : ¬ (122 : Int32).toInt < v81.toInt := fun z9 => c82 (i_lt.mpr z9)
              have tw : tle T bb = true := tle_t.mpr (by omega)
              refine lv_aload_n hx hb dX9_next_98 rfl (lv_at hl 0 rfl) ?_
              refine lv_iconst (v := 1) hx hb dX9_next_99 (by decide) ?_
              have k_1 : (1 : Int32).toInt = 1 := by decide
              refine q_put (T := TX9) C S5 ga0 3 kF_X9_22 dX9_next_100 rfl rfl (by decide) (by decide) rfl rfl rfl rfl rfl (vok_a rfl) (by decide +kernel) (fun H148 L148 S148 P148 => ?_)
              have Lp103 : ∀ (n : Nat)  (H_103 : Heap) (L_103 : List Loc) (ls : Array Slot), (Sd D G [(2, 3), (2, 4), (2, 5), (2, 6)] s.heap H_103 L_103) → ((fI D H_103 9 a0 4).toInt = bb ∧ (fI D H_103 9 a0 3).toInt = 1 ∧ (bb : Int) ≤ (fI D H_103 9 a0 5).toInt ∧ ∀ i : Nat, bb ≤ i → (i : Int) < (fI D H_103 9 a0 5).toInt → tle T i = true) → 401 - (fI D H_103 9 a0 5).toInt ≤ (n : Int) → lv_has ls 1 [(0, .ref a0)] → W p l e (rmU 0 0 0) s m args below meth c H_103 L_103 0 0 Q (F0 m 103 ls []) := by
                intro n
                induction n with
                | zero =>
                  intro H_103 L_103 ls S_103 u103_0 hn hl
                  have rz : 0 ≤ (fI D H_103 9 a0 5).toInt ∧ (fI D H_103 9 a0 5).toInt ≤ 400 := S_103.1.rng ga0 rfl (by decide) rfl
                  exact absurd hn (by omega)
                | succ n ih103 =>
                  intro H_103 L_103 ls S_103 u103_0 hn hl
                  refine lv_aload_n hx hb dX9_next_103 rfl (lv_at hl 0 rfl) ?_
                  refine q_gi (T := TX9) C S_103.1 ga0 5 kF_X9_28 dX9_next_104 rfl rfl (by decide) rfl (by decide) rfl ?_
                  have r149 : 0 ≤ (fI D H_103 9 a0 5).toInt ∧ (fI D H_103 9 a0 5).toInt ≤ 400 := S_103.1.rng ga0 rfl (by decide) rfl
                  refine lv_aload_n hx hb dX9_next_107 rfl (lv_at hl 0 rfl) ?_
                  refine q_gi (T := TX9) C S_103.1 ga0 1 kF_X9_15 dX9_next_108 rfl rfl (by decide) rfl (by decide) rfl ?_
                  have r150 : 0 ≤ (fI D H_103 9 a0 1).toInt ∧ (fI D H_103 9 a0 1).toInt ≤ 400 := S_103.1.rng ga0 rfl (by decide) rfl
                  have tl : T.2 = (fI D H_103 9 a0 1).toInt.toNat := (congrArg Prod.snd ((tT_keep hO ga0 S_103.2.1 (by decide) (by decide) (by decide)).trans hpre.1)).symm
                  refine lv_icmp_ge (tgt := 311) hx hb dX9_next_111 (by decide) (fun c151 => ?_) (fun c151 => ?_)
                  · have b151 : (fI D H_103 9 a0 1).toInt ≤ (fI D H_103 9 a0 5).toInt := i_le.mp c151
                    exact retE_v hQ C S_103 hr dX9_next_311 (by rw [s9]; have kw := kd_w.mpr tw; have rf : rn (tle T) 500 bb = (fI D H_103 9 a0 5).toInt.toNat := rn_of (tle_f.mpr (by omega)) 500 bb (by omega) (fun i h1 h2 => u103_0.2.2.2 i h1 (by omega)) (by omega); exact ⟨⟨((tT_keep hO ga0 S_103.2.1 (by decide) (by decide) (by decide)).trans hpre.1), (by rw [S_103.2.1.fI ga0 rfl (by decide) (by decide)]; exact hpre.2.1), by rw [af_w kw, rf]; omega⟩, by rw [kw]; exact u103_0.2.1, u103_0.1, fun h => absurd h (by rw [kw]; decide), fun h => absurd h (by rw [kw]; decide)⟩)
                  · have b151 : ¬ (fI D H_103 9 a0 1).toInt ≤ (fI D H_103 9 a0 5).toInt := fun z9 => c151 (i_le.mpr z9)
                    refine lv_aload_n hx hb dX9_next_114 rfl (lv_at hl 0 rfl) ?_
                    refine q_gr (T := TX9) C S_103.1 ga0 0 kF_X9_11 dX9_next_115 rfl rfl (by decide) rfl (by decide) rfl (fun g152 => ?_)
                    refine lv_aload_n hx hb dX9_next_118 rfl (lv_at hl 0 rfl) ?_
                    refine q_gi (T := TX9) C S_103.1 ga0 5 kF_X9_28 dX9_next_119 rfl rfl (by decide) rfl (by decide) rfl ?_
                    have n153 : aN H_103 (fR D H_103 9 a0 0) = 400 := len_3 S_103.1 g152
                    refine q_iald C S_103.1 g152 (by omega) (by omega) dX9_next_122 rfl (by decide) ?_
                    refine lv_topi (fun v154 ev154 => ?_)
                    have tav154 : v154.toInt = (eI H_103 (fR D H_103 9 a0 0) (fI D H_103 9 a0 5).toInt.toNat).toInt := by rw [ev154]
                    have tvv154 : T.1 (fI D H_103 9 a0 5).toInt.toNat = nrm (eI H_103 (fR D H_103 9 a0 0) (fI D H_103 9 a0 5).toInt.toNat).toInt := (congrFun (congrArg Prod.fst ((tT_keep hO ga0 S_103.2.1 (by decide) (by decide) (by decide)).trans hpre.1)) _).symm
                    have tnv154 := nrm_d (eI H_103 (fR D H_103 9 a0 0) (fI D H_103 9 a0 5).toInt.toNat).toInt
                    refine lv_bipush (v := 97) hx hb dX9_next_123 (by decide) ?_
                    refine lv_icmp_lt (tgt := 311) hx hb dX9_next_125 (by decide) (fun c155 => ?_) (fun c155 => ?_)
                    · have b155 : v154.toInt < (97 : Int32).toInt := i_lt.mp c155
                      exact retE_v hQ C S_103 hr dX9_next_311 (by rw [s9]; have kw := kd_w.mpr tw; have rf : rn (tle T) 500 bb = (fI D H_103 9 a0 5).toInt.toNat := rn_of (tle_f.mpr (by omega)) 500 bb (by omega) (fun i h1 h2 => u103_0.2.2.2 i h1 (by omega)) (by omega); exact ⟨⟨((tT_keep hO ga0 S_103.2.1 (by decide) (by decide) (by decide)).trans hpre.1), (by rw [S_103.2.1.fI ga0 rfl (by decide) (by decide)]; exact hpre.2.1), by rw [af_w kw, rf]; omega⟩, by rw [kw]; exact u103_0.2.1, u103_0.1, fun h => absurd h (by rw [kw]; decide), fun h => absurd h (by rw [kw]; decide)⟩)
                    · have b155 : ¬ v154.toInt < (97 : Int32).toInt := fun z9 => c155 (i_lt.mpr z9)
                      refine lv_aload_n hx hb dX9_next_128 rfl (lv_at hl 0 rfl) ?_
                      refine q_gr (T := TX9) C S_103.1 ga0 0 kF_X9_11 dX9_next_129 rfl rfl (by decide) rfl (by decide) rfl (fun g156 => ?_)
                      refine lv_aload_n hx hb dX9_next_132 rfl (lv_at hl 0 rfl) ?_
                      refine q_gi (T := TX9) C S_103.1 ga0 5 kF_X9_28 dX9_next_133 rfl rfl (by decide) rfl (by decide) rfl ?_
                      refine q_iald C S_103.1 g156 (by omega) (by omega) dX9_next_136 rfl (by decide) ?_
                      refine lv_topi (fun v157 ev157 => ?_)
                      have tav157 : v157.toInt = (eI H_103 (fR D H_103 9 a0 0) (fI D H_103 9 a0 5).toInt.toNat).toInt := by rw [ev157]
                      have tvv157 : T.1 (fI D H_103 9 a0 5).toInt.toNat = nrm (eI H_103 (fR D H_103 9 a0 0) (fI D H_103 9 a0 5).toInt.toNat).toInt := (congrFun (congrArg Prod.fst ((tT_keep hO ga0 S_103.2.1 (by decide) (by decide) (by decide)).trans hpre.1)) _).symm
                      have tnv157 := nrm_d (eI H_103 (fR D H_103 9 a0 0) (fI D H_103 9 a0 5).toInt.toNat).toInt
                      refine lv_bipush (v := 122) hx hb dX9_next_137 (by decide) ?_
                      refine lv_icmp_gt (tgt := 311) hx hb dX9_next_139 (by decide) (fun c158 => ?_) (fun c158 => ?_)
                      · have b158 : (122 : Int32).toInt < v157.toInt := i_lt.mp c158
                        exact retE_v hQ C S_103 hr dX9_next_311 (by rw [s9]; have kw := kd_w.mpr tw; have rf : rn (tle T) 500 bb = (fI D H_103 9 a0 5).toInt.toNat := rn_of (tle_f.mpr (by omega)) 500 bb (by omega) (fun i h1 h2 => u103_0.2.2.2 i h1 (by omega)) (by omega); exact ⟨⟨((tT_keep hO ga0 S_103.2.1 (by decide) (by decide) (by decide)).trans hpre.1), (by rw [S_103.2.1.fI ga0 rfl (by decide) (by decide)]; exact hpre.2.1), by rw [af_w kw, rf]; omega⟩, by rw [kw]; exact u103_0.2.1, u103_0.1, fun h => absurd h (by rw [kw]; decide), fun h => absurd h (by rw [kw]; decide)⟩)
                      · have b158 : ¬ (122 : Int32).toInt < v157.toInt := fun z9 => c158 (i_lt.mpr z9)
                        have tq : tle T (fI D H_103 9 a0 5).toInt.toNat = true := tle_t.mpr (by omega)
                        refine lv_aload_n hx hb dX9_next_142 rfl (lv_at hl 0 rfl) ?_
                        refine lv_dup hx hb dX9_next_143 rfl ?_
                        refine q_gi (T := TX9) C S_103.1 ga0 5 kF_X9_28 dX9_next_144 rfl rfl (by decide) rfl (by decide) rfl ?_
                        refine lv_iconst (v := 1) hx hb dX9_next_147 (by decide) ?_
                        refine lv_iadd hx hb dX9_next_148 ?_
                        refine lv_topi (fun v159 ev159 => ?_)
                        have f160 : v159.toInt = (fI D H_103 9 a0 5).toInt + (1 : Int32).toInt := by rw [ev159]; exact i_add (by omega) (by omega)
                        refine q_put (T := TX9) C S_103 ga0 5 kF_X9_28 dX9_next_149 rfl rfl (by decide) (by decide) rfl rfl rfl rfl rfl (vok_i rfl (by omega) (by omega)) (by decide +kernel) (fun H161 L161 S161 P161 => ?_)
                        refine lv_goto (tgt := 103) hx hb dX9_next_152 (by decide) ?_
                        have bk : (fI D H161 9 a0 5).toInt = _ := congrArg Int32.toInt (Pt.i P161)
                        exact ih103  H161 L161 ls S161 (⟨by rw [Pt.o P161 (by decide) (by decide)]; exact u103_0.1, by rw [Pt.o P161 (by decide) (by decide)]; exact u103_0.2.1, by omega, fun i h1 h2 => if h9 : (i : Int) < (fI D H_103 9 a0 5).toInt then u103_0.2.2.2 i h1 h9 else by rw [show i = (fI D H_103 9 a0 5).toInt.toNat by omega]; exact tq⟩) (by omega) (lv_sub hl [0] rfl)
              have rn : 0 ≤ (fI D H148 9 a0 5).toInt ∧ (fI D H148 9 a0 5).toInt ≤ 400 := S148.1.rng ga0 rfl (by decide) rfl
              exact Lp103 402  H148 L148 ls S148 (⟨by rw [Pt.o P148 (by decide) (by decide), Pt.o P5 (by decide) (by decide), Pt.i P4]; omega, by rw [Pt.i P148]; decide, by rw [Pt.o P148 (by decide) (by decide), Pt.o P5 (by decide) (by decide), Pt.o P4 (by decide) (by decide)]; omega, fun i h1 h2 => by rw [Pt.o P148 (by decide) (by decide), Pt.o P5 (by decide) (by decide), Pt.o P4 (by decide) (by decide)] at h2; omega⟩)  (by omega) (lv_sub hl [0] rfl)
        · have b10 : ¬ (fI D H5 9 a0 5).toInt < (fI D H5 9 a0 1).toInt := fun z9 => c10 (i_lt.mpr z9)
          refine lv_aload_n hx hb dX9_next_62 rfl (lv_at hl 0 rfl) ?_
          refine lv_iconst (v := 0) hx hb dX9_next_63 (by decide) ?_
          refine q_put (T := TX9) C S5 ga0 3 kF_X9_22 dX9_next_64 rfl rfl (by decide) (by decide) rfl rfl rfl rfl rfl (vok_a rfl) (by decide +kernel) (fun H162 L162 S162 P162 => ?_)
          refine lv_goto (tgt := 311) hx hb dX9_next_67 (by decide) ?_
          exact retE_v hQ C S162 hr dX9_next_311 (by rw [s9]; have kw : kd T bb = 0 := kd_e.mpr (by omega); exact ⟨⟨((tT_keep hO ga0 S162.2.1 (by decide) (by decide) (by decide)).trans hpre.1), (by rw [S162.2.1.fI ga0 rfl (by decide) (by decide)]; exact hpre.2.1), by rw [Pt.o P162 (by decide) (by decide), Pt.o P5 (by decide) (by decide), Pt.o P4 (by decide) (by decide), af_e kw]; omega⟩, by rw [Pt.i P162, kw]; decide, by rw [Pt.o P162 (by decide) (by decide), Pt.o P5 (by decide) (by decide), Pt.i P4]; omega, fun h => absurd h (by rw [kw]; decide), fun h => absurd h (by rw [kw]; decide)⟩)
      · have b3 : ¬ (fI D H_0 9 a0 1).toInt ≤ (fI D H_0 9 a0 5).toInt := fun z9 => c3 (i_le.mpr z9)
        refine lv_aload_n hx hb dX9_next_11 rfl (lv_at hl 0 rfl) ?_
        refine q_gr (T := TX9) C S_0.1 ga0 0 kF_X9_11 dX9_next_12 rfl rfl (by decide) rfl (by decide) rfl (fun g163 => ?_)
        refine lv_aload_n hx hb dX9_next_15 rfl (lv_at hl 0 rfl) ?_
        refine q_gi (T := TX9) C S_0.1 ga0 5 kF_X9_28 dX9_next_16 rfl rfl (by decide) rfl (by decide) rfl ?_
        have n164 : aN H_0 (fR D H_0 9 a0 0) = 400 := len_3 S_0.1 g163
        refine q_iald C S_0.1 g163 (by omega) (by omega) dX9_next_19 rfl (by decide) ?_
        refine lv_topi (fun v165 ev165 => ?_)
        have tav165 : v165.toInt = (eI H_0 (fR D H_0 9 a0 0) (fI D H_0 9 a0 5).toInt.toNat).toInt := by rw [ev165]
        have tvv165 : T.1 (fI D H_0 9 a0 5).toInt.toNat = nrm (eI H_0 (fR D H_0 9 a0 0) (fI D H_0 9 a0 5).toInt.toNat).toInt := (congrFun (congrArg Prod.fst ((tT_keep hO ga0 S_0.2.1 (by decide) (by decide) (by decide)).trans hpre.1)) _).symm
        have tnv165 := nrm_d (eI H_0 (fR D H_0 9 a0 0) (fI D H_0 9 a0 5).toInt.toNat).toInt
        refine lv_bipush (v := 32) hx hb dX9_next_20 (by decide) ?_
        have k_32 : (32 : Int32).toInt = 32 := by decide
        refine lv_icmp_ne (tgt := 38) hx hb dX9_next_22 (by decide) (fun c166 => ?_) (fun c166 => ?_)
        · have b166 : ¬ v165.toInt = (32 : Int32).toInt := fun z9 => c166 (i_eq.mpr z9)
          obtain ⟨bb, hbb⟩ : ∃ x : Nat, x = (fI D H_0 9 a0 5).toInt.toNat := ⟨_, rfl⟩
          have s9 : sk T b0 = bb := by rw [hbb]; exact sk_of (by omega) (fun i h1 h2 => u0_0.2 i h1 (by omega)) (tbl_f.mpr (by omega)) (by omega)
          refine lv_aload_n hx hb dX9_next_38 rfl (lv_at hl 0 rfl) ?_
          refine lv_aload_n hx hb dX9_next_39 rfl (lv_at hl 0 rfl) ?_
          refine q_gi (T := TX9) C S_0.1 ga0 5 kF_X9_28 dX9_next_40 rfl rfl (by decide) rfl (by decide) rfl ?_
          refine q_put (T := TX9) C S_0 ga0 4 kF_X9_25 dX9_next_43 rfl rfl (by decide) (by decide) rfl rfl rfl rfl rfl (vok_i rfl (by omega) (by omega)) (by decide +kernel) (fun H167 L167 S167 P167 => ?_)
          refine lv_aload_n hx hb dX9_next_46 rfl (lv_at hl 0 rfl) ?_
          refine lv_iconst (v := 0) hx hb dX9_next_47 (by decide) ?_
          have k_0 : (0 : Int32).toInt = 0 := by decide
          refine q_put (T := TX9) C S167 ga0 6 kF_X9_31 dX9_next_48 rfl rfl (by decide) (by decide) rfl rfl rfl rfl rfl (vok_a rfl) (by decide +kernel) (fun H168 L168 S168 P168 => ?_)
          refine lv_aload_n hx hb dX9_next_51 rfl (lv_at hl 0 rfl) ?_
          refine q_gi (T := TX9) C S168.1 ga0 5 kF_X9_28 dX9_next_52 rfl rfl (by decide) rfl (by decide) rfl ?_
          have c169 : (fI D H168 9 a0 5).toInt = (fI D H_0 9 a0 5).toInt := by rw [Pt.o P168 (by decide) (by decide), Pt.o P167 (by decide) (by decide)]
          have r170 : 0 ≤ (fI D H168 9 a0 5).toInt ∧ (fI D H168 9 a0 5).toInt ≤ 400 := S168.1.rng ga0 rfl (by decide) rfl
          refine lv_aload_n hx hb dX9_next_55 rfl (lv_at hl 0 rfl) ?_
          refine q_gi (T := TX9) C S168.1 ga0 1 kF_X9_15 dX9_next_56 rfl rfl (by decide) rfl (by decide) rfl ?_
          have c171 : (fI D H168 9 a0 1).toInt = (fI D H_0 9 a0 1).toInt := by rw [Pt.o P168 (by decide) (by decide), Pt.o P167 (by decide) (by decide)]
          have r172 : 0 ≤ (fI D H168 9 a0 1).toInt ∧ (fI D H168 9 a0 1).toInt ≤ 400 := S168.1.rng ga0 rfl (by decide) rfl
          have tl : T.2 = (fI D H168 9 a0 1).toInt.toNat := (congrArg Prod.snd ((tT_keep hO ga0 S168.2.1 (by decide) (by decide) (by decide)).trans hpre.1)).symm
          refine lv_icmp_lt (tgt := 70) hx hb dX9_next_59 (by decide) (fun c173 => ?_) (fun c173 => ?_)
          · have b173 : (fI D H168 9 a0 5).toInt < (fI D H168 9 a0 1).toInt := i_lt.mp c173
            refine lv_aload_n hx hb dX9_next_70 rfl (lv_at hl 0 rfl) ?_
            refine q_gr (T := TX9) C S168.1 ga0 0 kF_X9_11 dX9_next_71 rfl rfl (by decide) rfl (by decide) rfl (fun g174 => ?_)
            refine lv_aload_n hx hb dX9_next_74 rfl (lv_at hl 0 rfl) ?_
            refine q_gi (T := TX9) C S168.1 ga0 5 kF_X9_28 dX9_next_75 rfl rfl (by decide) rfl (by decide) rfl ?_
            have n175 : aN H168 (fR D H168 9 a0 0) = 400 := len_3 S168.1 g174
            refine q_iald C S168.1 g174 (by omega) (by omega) dX9_next_78 rfl (by decide) ?_
            refine lv_topi (fun v176 ev176 => ?_)
            have tav176 : v176.toInt = (eI H168 (fR D H168 9 a0 0) (fI D H168 9 a0 5).toInt.toNat).toInt := by rw [ev176]
            have tvv176 : T.1 bb = nrm (eI H168 (fR D H168 9 a0 0) (fI D H168 9 a0 5).toInt.toNat).toInt := by rw [show bb = (fI D H168 9 a0 5).toInt.toNat by omega]; exact (congrFun (congrArg Prod.fst ((tT_keep hO ga0 S168.2.1 (by decide) (by decide) (by decide)).trans hpre.1)) _).symm
            have tnv176 := nrm_d (eI H168 (fR D H168 9 a0 0) (fI D H168 9 a0 5).toInt.toNat).toInt
            refine lv_bipush (v := 97) hx hb dX9_next_79 (by decide) ?_
            have k_97 : (97 : Int32).toInt = 97 := by decide
            refine lv_icmp_lt (tgt := 155) hx hb dX9_next_81 (by decide) (fun c177 => ?_) (fun c177 => ?_)
            · have b177 : v176.toInt < (97 : Int32).toInt := i_lt.mp c177
              refine lv_aload_n hx hb dX9_next_155 rfl (lv_at hl 0 rfl) ?_
              refine q_gr (T := TX9) C S168.1 ga0 0 kF_X9_11 dX9_next_156 rfl rfl (by decide) rfl (by decide) rfl (fun g178 => ?_)
              refine lv_aload_n hx hb dX9_next_159 rfl (lv_at hl 0 rfl) ?_
              refine q_gi (T := TX9) C S168.1 ga0 5 kF_X9_28 dX9_next_160 rfl rfl (by decide) rfl (by decide) rfl ?_
              refine q_iald C S168.1 g178 (by omega) (by omega) dX9_next_163 rfl (by decide) ?_
              refine lv_topi (fun v179 ev179 => ?_)
              have tav179 : v179.toInt = (eI H168 (fR D H168 9 a0 0) (fI D H168 9 a0 5).toInt.toNat).toInt := by rw [ev179]
              have tvv179 : T.1 bb = nrm (eI H168 (fR D H168 9 a0 0) (fI D H168 9 a0 5).toInt.toNat).toInt := by rw [show bb = (fI D H168 9 a0 5).toInt.toNat by omega]; exact (congrFun (congrArg Prod.fst ((tT_keep hO ga0 S168.2.1 (by decide) (by decide) (by decide)).trans hpre.1)) _).symm
              have tnv179 := nrm_d (eI H168 (fR D H168 9 a0 0) (fI D H168 9 a0 5).toInt.toNat).toInt
              refine lv_bipush (v := 48) hx hb dX9_next_164 (by decide) ?_
              have k_48 : (48 : Int32).toInt = 48 := by decide
              refine lv_icmp_lt (tgt := 283) hx hb dX9_next_166 (by decide) (fun c180 => ?_) (fun c180 => ?_)
              · have b180 : v179.toInt < (48 : Int32).toInt := i_lt.mp c180
                refine lv_aload_n hx hb dX9_next_283 rfl (lv_at hl 0 rfl) ?_
                refine lv_iconst (v := 3) hx hb dX9_next_284 (by decide) ?_
                have k_3 : (3 : Int32).toInt = 3 := by decide
                refine q_put (T := TX9) C S168 ga0 3 kF_X9_22 dX9_next_285 rfl rfl (by decide) (by decide) rfl rfl rfl rfl rfl (vok_a rfl) (by decide +kernel) (fun H181 L181 S181 P181 => ?_)
                refine lv_aload_n hx hb dX9_next_288 rfl (lv_at hl 0 rfl) ?_
                refine lv_aload_n hx hb dX9_next_289 rfl (lv_at hl 0 rfl) ?_
                refine q_gr (T := TX9) C S181.1 ga0 0 kF_X9_11 dX9_next_290 rfl rfl (by decide) rfl (by decide) rfl (fun g182 => ?_)
                refine lv_aload_n hx hb dX9_next_293 rfl (lv_at hl 0 rfl) ?_
                refine q_gi (T := TX9) C S181.1 ga0 5 kF_X9_28 dX9_next_294 rfl rfl (by decide) rfl (by decide) rfl ?_
                have c183 : (fI D H181 9 a0 5).toInt = (fI D H168 9 a0 5).toInt := by rw [Pt.o P181 (by decide) (by decide)]
                have r184 : 0 ≤ (fI D H181 9 a0 5).toInt ∧ (fI D H181 9 a0 5).toInt ≤ 400 := S181.1.rng ga0 rfl (by decide) rfl
                have n185 : aN H181 (fR D H181 9 a0 0) = 400 := len_3 S181.1 g182
                refine q_iald C S181.1 g182 (by omega) (by omega) dX9_next_297 rfl (by decide) ?_
                refine lv_topi (fun v186 ev186 => ?_)
                have tav186 : v186.toInt = (eI H181 (fR D H181 9 a0 0) (fI D H181 9 a0 5).toInt.toNat).toInt := by rw [ev186]
                have tvv186 : T.1 bb = nrm (eI H181 (fR D H181 9 a0 0) (fI D H181 9 a0 5).toInt.toNat).toInt := by rw [show bb = (fI D H181 9 a0 5).toInt.toNat by omega]; exact (congrFun (congrArg Prod.fst ((tT_keep hO ga0 S181.2.1 (by decide) (by decide) (by decide)).trans hpre.1)) _).symm
                have tnv186 := nrm_d (eI H181 (fR D H181 9 a0 0) (fI D H181 9 a0 5).toInt.toNat).toInt
                have sg : T.1 bb = nrm v186.toInt := by rw [tav186]; exact tvv186
                refine q_put (T := TX9) C S181 ga0 6 kF_X9_31 dX9_next_298 rfl rfl (by decide) (by decide) rfl rfl rfl rfl rfl (vok_a rfl) (by decide +kernel) (fun H187 L187 S187 P187 => ?_)
                refine lv_aload_n hx hb dX9_next_301 rfl (lv_at hl 0 rfl) ?_
                refine lv_dup hx hb dX9_next_302 rfl ?_
                refine q_gi (T := TX9) C S187.1 ga0 5 kF_X9_28 dX9_next_303 rfl rfl (by decide) rfl (by decide) rfl ?_
                have c188 : (fI D H187 9 a0 5).toInt = (fI D H181 9 a0 5).toInt := by rw [Pt.o P187 (by decide) (by decide)]
                have r189 : 0 ≤ (fI D H187 9 a0 5).toInt ∧ (fI D H187 9 a0 5).toInt ≤ 400 := S187.1.rng ga0 rfl (by decide) rfl
                refine lv_iconst (v := 1) hx hb dX9_next_306 (by decide) ?_
                have k_1 : (1 : Int32).toInt = 1 := by decide
                refine lv_iadd hx hb dX9_next_307 ?_
                refine lv_topi (fun v190 ev190 => ?_)
                have f191 : v190.toInt = (fI D H187 9 a0 5).toInt + (1 : Int32).toInt := by rw [ev190]; exact i_add (by omega) (by omega)
                refine q_put (T := TX9) C S187 ga0 5 kF_X9_28 dX9_next_308 rfl rfl (by decide) (by decide) rfl rfl rfl rfl rfl (vok_i rfl (by omega) (by omega)) (by decide +kernel) (fun H192 L192 S192 P192 => ?_)
                exact retE_v hQ C S192 hr dX9_next_311 (by rw [s9]; have kw : kd T bb = 3 := kd_s.mpr ⟨by omega, tle_f.mpr (by omega), tdi_f.mpr (by omega)⟩; exact ⟨⟨((tT_keep hO ga0 S192.2.1 (by decide) (by decide) (by decide)).trans hpre.1), (by rw [S192.2.1.fI ga0 rfl (by decide) (by decide)]; exact hpre.2.1), by rw [Pt.i P192, af_s kw]; omega⟩, by rw [Pt.o P192 (by decide) (by decide), Pt.o P187 (by decide) (by decide), Pt.i P181, kw]; decide, by rw [Pt.o P192 (by decide) (by decide), Pt.o P187 (by decide) (by decide), Pt.o P181 (by decide) (by decide), Pt.o P168 (by decide) (by decide), Pt.i P167]; omega, fun h => absurd h (by rw [kw]; decide), fun _ => by rw [Pt.o P192 (by decide) (by decide), Pt.i P187]; exact sg.symm⟩)
              · have b180 : ¬ v179.toInt < (48 : Int32).toInt := fun z9 => c180 (i_lt.mpr z9)
                refine lv_aload_n hx hb dX9_next_169 rfl (lv_at hl 0 rfl) ?_
                refine q_gr (T := TX9) C S168.1 ga0 0 kF_X9_11 dX9_next_170 rfl rfl (by decide) rfl (by decide) rfl (fun g193 => ?_)
                refine lv_aload_n hx hb dX9_next_173 rfl (lv_at hl 0 rfl) ?_
                refine q_gi (T := TX9) C S168.1 ga0 5 kF_X9_28 dX9_next_174 rfl rfl (by decide) rfl (by decide) rfl ?_
                refine q_iald C S168.1 g193 (by omega) (by omega) dX9_next_177 rfl (by decide) ?_
                refine lv_topi (fun v194 ev194 => ?_)
                have tav194 : v194.toInt = (eI H168 (fR D H168 9 a0 0) (fI D H168 9 a0 5).toInt.toNat).toInt := by rw [ev194]
                have tvv194 : T.1 bb = nrm (eI H168 (fR D H168 9 a0 0) (fI D H168 9 a0 5).toInt.toNat).toInt := by rw [show bb = (fI D H168 9 a0 5).toInt.toNat by omega]; exact (congrFun (congrArg Prod.fst ((tT_keep hO ga0 S168.2.1 (by decide) (by decide) (by decide)).trans hpre.1)) _).symm
                have tnv194 := nrm_d (eI H168 (fR D H168 9 a0 0) (fI D H168 9 a0 5).toInt.toNat).toInt
                refine lv_bipush (v := 57) hx hb dX9_next_178 (by decide) ?_
                have k_57 : (57 : Int32).toInt = 57 := by decide
                refine lv_icmp_gt (tgt := 283) hx hb dX9_next_180 (by decide) (fun c195 => ?_) (fun c195 => ?_)
                · have b195 : (57 : Int32).toInt < v194.toInt := i_lt.mp c195
                  refine lv_aload_n hx hb dX9_next_283 rfl (lv_at hl 0 rfl) ?_
                  refine lv_iconst (v := 3) hx hb dX9_next_284 (by decide) ?_
                  have k_3 : (3 : Int32).toInt = 3 := by decide
                  refine q_put (T := TX9) C S168 ga0 3 kF_X9_22 dX9_next_285 rfl rfl (by decide) (by decide) rfl rfl rfl rfl rfl (vok_a rfl) (by decide +kernel) (fun H196 L196 S196 P196 => ?_)
                  refine lv_aload_n hx hb dX9_next_288 rfl (lv_at hl 0 rfl) ?_
                  refine lv_aload_n hx hb dX9_next_289 rfl (lv_at hl 0 rfl) ?_
                  refine q_gr (T := TX9) C S196.1 ga0 0 kF_X9_11 dX9_next_290 rfl rfl (by decide) rfl (by decide) rfl (fun g197 => ?_)
                  refine lv_aload_n hx hb dX9_next_293 rfl (lv_at hl 0 rfl) ?_
                  refine q_gi (T := TX9) C S196.1 ga0 5 kF_X9_28 dX9_next_294 rfl rfl (by decide) rfl (by decide) rfl ?_
                  have c198 : (fI D H196 9 a0 5).toInt = (fI D H168 9 a0 5).toInt := by rw [Pt.o P196 (by decide) (by decide)]
                  have r199 : 0 ≤ (fI D H196 9 a0 5).toInt ∧ (fI D H196 9 a0 5).toInt ≤ 400 := S196.1.rng ga0 rfl (by decide) rfl
                  have n200 : aN H196 (fR D H196 9 a0 0) = 400 := len_3 S196.1 g197
                  refine q_iald C S196.1 g197 (by omega) (by omega) dX9_next_297 rfl (by decide) ?_
                  refine lv_topi (fun v201 ev201 => ?_)
                  have tav201 : v201.toInt = (eI H196 (fR D H196 9 a0 0) (fI D H196 9 a0 5).toInt.toNat).toInt := by rw [ev201]
                  have tvv201 : T.1 bb = nrm (eI H196 (fR D H196 9 a0 0) (fI D H196 9 a0 5).toInt.toNat).toInt := by rw [show bb = (fI D H196 9 a0 5).toInt.toNat by omega]; exact (congrFun (congrArg Prod.fst ((tT_keep hO ga0 S196.2.1 (by decide) (by decide) (by decide)).trans hpre.1)) _).symm
                  have tnv201 := nrm_d (eI H196 (fR D H196 9 a0 0) (fI D H196 9 a0 5).toInt.toNat).toInt
                  have sg : T.1 bb = nrm v201.toInt := by rw [tav201]; exact tvv201
                  refine q_put (T := TX9) C S196 ga0 6 kF_X9_31 dX9_next_298 rfl rfl (by decide) (by decide) rfl rfl rfl rfl rfl (vok_a rfl) (by decide +kernel) (fun H202 L202 S202 P202 => ?_)
                  refine lv_aload_n hx hb dX9_next_301 rfl (lv_at hl 0 rfl) ?_
                  refine lv_dup hx hb dX9_next_302 rfl ?_
                  refine q_gi (T := TX9) C S202.1 ga0 5 kF_X9_28 dX9_next_303 rfl rfl (by decide) rfl (by decide) rfl ?_
                  have c203 : (fI D H202 9 a0 5).toInt = (fI D H196 9 a0 5).toInt := by rw [Pt.o P202 (by decide) (by decide)]
                  have r204 : 0 ≤ (fI D H202 9 a0 5).toInt ∧ (fI D H202 9 a0 5).toInt ≤ 400 := S202.1.rng ga0 rfl (by decide) rfl
                  refine lv_iconst (v := 1) hx hb dX9_next_306 (by decide) ?_
                  have k_1 : (1 : Int32).toInt = 1 := by decide
                  refine lv_iadd hx hb dX9_next_307 ?_
                  refine lv_topi (fun v205 ev205 => ?_)
                  have f206 : v205.toInt = (fI D H202 9 a0 5).toInt + (1 : Int32).toInt := by rw [ev205]; exact i_add (by omega) (by omega)
                  refine q_put (T := TX9) C S202 ga0 5 kF_X9_28 dX9_next_308 rfl rfl (by decide) (by decide) rfl rfl rfl rfl rfl (vok_i rfl (by omega) (by omega)) (by decide +kernel) (fun H207 L207 S207 P207 => ?_)
                  exact retE_v hQ C S207 hr dX9_next_311 (by rw [s9]; have kw : kd T bb = 3 := kd_s.mpr ⟨by omega, tle_f.mpr (by omega), tdi_f.mpr (by omega)⟩; exact ⟨⟨((tT_keep hO ga0 S207.2.1 (by decide) (by decide) (by decide)).trans hpre.1), (by rw [S207.2.1.fI ga0 rfl (by decide) (by decide)]; exact hpre.2.1), by rw [Pt.i P207, af_s kw]; omega⟩, by rw [Pt.o P207 (by decide) (by decide), Pt.o P202 (by decide) (by decide), Pt.i P196, kw]; decide, by rw [Pt.o P207 (by decide) (by decide), Pt.o P202 (by decide) (by decide), Pt.o P196 (by decide) (by decide), Pt.o P168 (by decide) (by decide), Pt.i P167]; omega, fun h => absurd h (by rw [kw]; decide), fun _ => by rw [Pt.o P207 (by decide) (by decide), Pt.i P202]; exact sg.symm⟩)
                · have b195 : ¬ (57 : Int32).toInt < v194.toInt := fun z9 => c195 (i_lt.mpr z9)
                  have tw : tdi T bb = true := tdi_t.mpr (by omega)
                  refine lv_aload_n hx hb dX9_next_183 rfl (lv_at hl 0 rfl) ?_
                  refine lv_iconst (v := 2) hx hb dX9_next_184 (by decide) ?_
                  have k_2 : (2 : Int32).toInt = 2 := by decide
                  refine q_put (T := TX9) C S168 ga0 3 kF_X9_22 dX9_next_185 rfl rfl (by decide) (by decide) rfl rfl rfl rfl rfl (vok_a rfl) (by decide +kernel) (fun H208 L208 S208 P208 => ?_)
                  have Lp188 : ∀ (n : Nat)  (H_188 : Heap) (L_188 : List Loc) (ls : Array Slot), (Sd D G [(2, 3), (2, 4), (2, 5), (2, 6)] s.heap H_188 L_188) → ((fI D H_188 9 a0 4).toInt = bb ∧ (fI D H_188 9 a0 3).toInt = 2 ∧ (fI D H_188 9 a0 6).toInt = nvk T bb ((fI D H_188 9 a0 5).toInt.toNat - bb) ∧ (bb : Int) ≤ (fI D H_188 9 a0 5).toInt ∧ ∀ i : Nat, bb ≤ i → (i : Int) < (fI D H_188 9 a0 5).toInt → tdi T i = true) → 401 - (fI D H_188 9 a0 5).toInt ≤ (n : Int) → lv_has ls 1 [(0, .ref a0)] → W p l e (rmU 0 0 0) s m args below meth c H_188 L_188 0 0 Q (F0 m 188 ls []) := by
                    intro n
                    induction n with
                    | zero =>
                      intro H_188 L_188 ls S_188 u188_0 hn hl
                      have rz : 0 ≤ (fI D H_188 9 a0 5).toInt ∧ (fI D H_188 9 a0 5).toInt ≤ 400 := S_188.1.rng ga0 rfl (by decide) rfl
                      exact absurd hn (by omega)
                    | succ n ih188 =>
                      intro H_188 L_188 ls S_188 u188_0 hn hl
                      refine lv_aload_n hx hb dX9_next_188 rfl (lv_at hl 0 rfl) ?_
                      refine q_gi (T := TX9) C S_188.1 ga0 5 kF_X9_28 dX9_next_189 rfl rfl (by decide) rfl (by decide) rfl ?_
                      have r209 : 0 ≤ (fI D H_188 9 a0 5).toInt ∧ (fI D H_188 9 a0 5).toInt ≤ 400 := S_188.1.rng ga0 rfl (by decide) rfl
                      refine lv_aload_n hx hb dX9_next_192 rfl (lv_at hl 0 rfl) ?_
                      refine q_gi (T := TX9) C S_188.1 ga0 1 kF_X9_15 dX9_next_193 rfl rfl (by decide) rfl (by decide) rfl ?_
                      have r210 : 0 ≤ (fI D H_188 9 a0 1).toInt ∧ (fI D H_188 9 a0 1).toInt ≤ 400 := S_188.1.rng ga0 rfl (by decide) rfl
                      have tl : T.2 = (fI D H_188 9 a0 1).toInt.toNat := (congrArg Prod.snd ((tT_keep hO ga0 S_188.2.1 (by decide) (by decide) (by decide)).trans hpre.1)).symm
                      refine lv_icmp_ge (tgt := 311) hx hb dX9_next_196 (by decide) (fun c211 => ?_) (fun c211 => ?_)
                      · have b211 : (fI D H_188 9 a0 1).toInt ≤ (fI D H_188 9 a0 5).toInt := i_le.mp c211
                        exact retE_v hQ C S_188 hr dX9_next_311 (by rw [s9]; have kw := kd_n.mpr tw; have rf : rn (tdi T) 500 bb = (fI D H_188 9 a0 5).toInt.toNat := rn_of (tdi_f.mpr (by omega)) 500 bb (by omega) (fun i h1 h2 => u188_0.2.2.2.2 i h1 (by omega)) (by omega); exact ⟨⟨((tT_keep hO ga0 S_188.2.1 (by decide) (by decide) (by decide)).trans hpre.1), (by rw [S_188.2.1.fI ga0 rfl (by decide) (by decide)]; exact hpre.2.1), by rw [af_n kw, rf]; omega⟩, by rw [kw]; exact u188_0.2.1, u188_0.1, fun _ => by rw [nv_k ((af_n kw).trans rf)]; exact u188_0.2.2.1, fun h => absurd h (by rw [kw]; decide)⟩)
                      · have b211 : ¬ (fI D H_188 9 a0 1).toInt ≤ (fI D H_188 9 a0 5).toInt := fun z9 => c211 (i_le.mpr z9)
                        refine lv_aload_n hx hb dX9_next_199 rfl (lv_at hl 0 rfl) ?_
                        refine q_gr (T := TX9) C S_188.1 ga0 0 kF_X9_11 dX9_next_200 rfl rfl (by decide) rfl (by decide) rfl (fun g212 => ?_)
                        refine lv_aload_n hx hb dX9_next_203 rfl (lv_at hl 0 rfl) ?_
                        refine q_gi (T := TX9) C S_188.1 ga0 5 kF_X9_28 dX9_next_204 rfl rfl (by decide) rfl (by decide) rfl ?_
                        have n213 : aN H_188 (fR D H_188 9 a0 0) = 400 := len_3 S_188.1 g212
                        refine q_iald C S_188.1 g212 (by omega) (by omega) dX9_next_207 rfl (by decide) ?_
                        refine lv_topi (fun v214 ev214 => ?_)
                        have tav214 : v214.toInt = (eI H_188 (fR D H_188 9 a0 0) (fI D H_188 9 a0 5).toInt.toNat).toInt := by rw [ev214]
                        have tvv214 : T.1 (fI D H_188 9 a0 5).toInt.toNat = nrm (eI H_188 (fR D H_188 9 a0 0) (fI D H_188 9 a0 5).toInt.toNat).toInt := (congrFun (congrArg Prod.fst ((tT_keep hO ga0 S_188.2.1 (by decide) (by decide) (by decide)).trans hpre.1)) _).symm
                        have tnv214 := nrm_d (eI H_188 (fR D H_188 9 a0 0) (fI D H_188 9 a0 5).toInt.toNat).toInt
                        refine lv_bipush (v := 48) hx hb dX9_next_208 (by decide) ?_
                        refine lv_icmp_lt (tgt := 311) hx hb dX9_next_210 (by decide) (fun c215 => ?_) (fun c215 => ?_)
                        · have b215 : v214.toInt < (48 : Int32).toInt := i_lt.mp c215
                          exact retE_v hQ C S_188 hr dX9_next_311 (by rw [s9]; have kw := kd_n.mpr tw; have rf : rn (tdi T) 500 bb = (fI D H_188 9 a0 5).toInt.toNat := rn_of (tdi_f.mpr (by omega)) 500 bb (by omega) (fun i h1 h2 => u188_0.2.2.2.2 i h1 (by omega)) (by omega); exact ⟨⟨((tT_keep hO ga0 S_188.2.1 (by decide) (by decide) (by decide)).trans hpre.1), (by rw [S_188.2.1.fI ga0 rfl (by decide) (by decide)]; exact hpre.2.1), by rw [af_n kw, rf]; omega⟩, by rw [kw]; exact u188_0.2.1, u188_0.1, fun _ => by rw [nv_k ((af_n kw).trans rf)]; exact u188_0.2.2.1, fun h => absurd h (by rw [kw]; decide)⟩)
                        · have b215 : ¬ v214.toInt < (48 : Int32).toInt := fun z9 => c215 (i_lt.mpr z9)
                          refine lv_aload_n hx hb dX9_next_213 rfl (lv_at hl 0 rfl) ?_
                          refine q_gr (T := TX9) C S_188.1 ga0 0 kF_X9_11 dX9_next_214 rfl rfl (by decide) rfl (by decide) rfl (fun g216 => ?_)
                          refine lv_aload_n hx hb dX9_next_217 rfl (lv_at hl 0 rfl) ?_
                          refine q_gi (T := TX9) C S_188.1 ga0 5 kF_X9_28 dX9_next_218 rfl rfl (by decide) rfl (by decide) rfl ?_
                          refine q_iald C S_188.1 g216 (by omega) (by omega) dX9_next_221 rfl (by decide) ?_
                          refine lv_topi (fun v217 ev217 => ?_)
                          have tav217 : v217.toInt = (eI H_188 (fR D H_188 9 a0 0) (fI D H_188 9 a0 5).toInt.toNat).toInt := by rw [ev217]
                          have tvv217 : T.1 (fI D H_188 9 a0 5).toInt.toNat = nrm (eI H_188 (fR D H_188 9 a0 0) (fI D H_188 9 a0 5).toInt.toNat).toInt := (congrFun (congrArg Prod.fst ((tT_keep hO ga0 S_188.2.1 (by decide) (by decide) (by decide)).trans hpre.1)) _).symm
                          have tnv217 := nrm_d (eI H_188 (fR D H_188 9 a0 0) (fI D H_188 9 a0 5).toInt.toNat).toInt
                          refine lv_bipush (v := 57) hx hb dX9_next_222 (by decide) ?_
                          refine lv_icmp_gt (tgt := 311) hx hb dX9_next_224 (by decide) (fun c218 => ?_) (fun c218 => ?_)
                          · have b218 : (57 : Int32).toInt < v217.toInt := i_lt.mp c218
                            exact retE_v hQ C S_188 hr dX9_next_311 (by rw [s9]; have kw := kd_n.mpr tw; have rf : rn (tdi T) 500 bb = (fI D H_188 9 a0 5).toInt.toNat := rn_of (tdi_f.mpr (by omega)) 500 bb (by omega) (fun i h1 h2 => u188_0.2.2.2.2 i h1 (by omega)) (by omega); exact ⟨⟨((tT_keep hO ga0 S_188.2.1 (by decide) (by decide) (by decide)).trans hpre.1), (by rw [S_188.2.1.fI ga0 rfl (by decide) (by decide)]; exact hpre.2.1), by rw [af_n kw, rf]; omega⟩, by rw [kw]; exact u188_0.2.1, u188_0.1, fun _ => by rw [nv_k ((af_n kw).trans rf)]; exact u188_0.2.2.1, fun h => absurd h (by rw [kw]; decide)⟩)
                          · have b218 : ¬ (57 : Int32).toInt < v217.toInt := fun z9 => c218 (i_lt.mpr z9)
                            have tq : tdi T (fI D H_188 9 a0 5).toInt.toNat = true := tdi_t.mpr (by omega)
                            refine lv_aload_n hx hb dX9_next_227 rfl (lv_at hl 0 rfl) ?_
                            refine lv_aload_n hx hb dX9_next_228 rfl (lv_at hl 0 rfl) ?_
                            refine q_gi (T := TX9) C S_188.1 ga0 5 kF_X9_28 dX9_next_229 rfl rfl (by decide) rfl (by decide) rfl ?_
                            refine lv_aload_n hx hb dX9_next_232 rfl (lv_at hl 0 rfl) ?_
                            refine q_gi (T := TX9) C S_188.1 ga0 4 kF_X9_25 dX9_next_233 rfl rfl (by decide) rfl (by decide) rfl ?_
                            have r219 : 0 ≤ (fI D H_188 9 a0 4).toInt ∧ (fI D H_188 9 a0 4).toInt ≤ 400 := S_188.1.rng ga0 rfl (by decide) rfl
                            refine lv_isub hx hb dX9_next_236 ?_
                            refine lv_topi (fun v220 ev220 => ?_)
                            have f221 : v220.toInt = (fI D H_188 9 a0 5).toInt - (fI D H_188 9 a0 4).toInt := by rw [ev220]; exact i_sub (by omega) (by omega)
                            refine lv_iconst (v := 3) hx hb dX9_next_237 (by decide) ?_
                            have k_3 : (3 : Int32).toInt = 3 := by decide
                            refine lv_icmp_ge (tgt := 264) hx hb dX9_next_238 (by decide) (fun c222 => ?_) (fun c222 => ?_)
                            · have b222 : (3 : Int32).toInt ≤ v220.toInt := i_le.mp c222
                              refine lv_sipush (v := 1000) hx hb dX9_next_264 (by decide) ?_
                              have k_1000 : (1000 : Int32).toInt = 1000 := by decide
                              refine q_put (T := TX9) C S_188 ga0 6 kF_X9_31 dX9_next_267 rfl rfl (by decide) (by decide) rfl rfl rfl rfl rfl (vok_a rfl) (by decide +kernel) (fun H223 L223 S223 P223 => ?_)
                              refine lv_aload_n hx hb dX9_next_270 rfl (lv_at hl 0 rfl) ?_
                              refine lv_dup hx hb dX9_next_271 rfl ?_
                              refine q_gi (T := TX9) C S223.1 ga0 5 kF_X9_28 dX9_next_272 rfl rfl (by decide) rfl (by decide) rfl ?_
                              have c224 : (fI D H223 9 a0 5).toInt = (fI D H_188 9 a0 5).toInt := by rw [Pt.o P223 (by decide) (by decide)]
                              have r225 : 0 ≤ (fI D H223 9 a0 5).toInt ∧ (fI D H223 9 a0 5).toInt ≤ 400 := S223.1.rng ga0 rfl (by decide) rfl
                              refine lv_iconst (v := 1) hx hb dX9_next_275 (by decide) ?_
                              have k_1 : (1 : Int32).toInt = 1 := by decide
                              refine lv_iadd hx hb dX9_next_276 ?_
                              refine lv_topi (fun v226 ev226 => ?_)
                              have f227 : v226.toInt = (fI D H223 9 a0 5).toInt + (1 : Int32).toInt := by rw [ev226]; exact i_add (by omega) (by omega)
                              refine q_put (T := TX9) C S223 ga0 5 kF_X9_28 dX9_next_277 rfl rfl (by decide) (by decide) rfl rfl rfl rfl rfl (vok_i rfl (by omega) (by omega)) (by decide +kernel) (fun H228 L228 S228 P228 => ?_)
                              refine lv_goto (tgt := 188) hx hb dX9_next_280 (by decide) ?_
                              have bk : (fI D H228 9 a0 5).toInt = _ := congrArg Int32.toInt (Pt.i P228)
                              exact ih188  H228 L228 ls S228 (⟨by rw [Pt.o P228 (by decide) (by decide), Pt.o P223 (by decide) (by decide)]; exact u188_0.1, by rw [Pt.o P228 (by decide) (by decide), Pt.o P223 (by decide) (by decide)]; exact u188_0.2.1, by rw [show (fI D H228 9 a0 5).toInt.toNat - bb = ((fI D H_188 9 a0 5).toInt.toNat - bb) + 1 by omega]; rw [Pt.o P228 (by decide) (by decide), Pt.i P223]; first | exact (nvk_b (by omega)) | (rw [← nvk_s (k := (fI D H_188 9 a0 5).toInt.toNat - bb) (by omega) u188_0.2.2.1 (show T.1 (bb + ((fI D H_188 9 a0 5).toInt.toNat - bb)) = _ from (congrArg T.1 (by omega)).trans td)]; omega), by omega, fun i h1 h2 => if h9 : (i : Int) < (fI D H_188 9 a0 5).toInt then u188_0.2.2.2.2 i h1 h9 else by rw [show i = (fI D H_188 9 a0 5).toInt.toNat by omega]; exact tq⟩) (by omega) (lv_sub hl [0] rfl)
                            · have b222 : ¬ (3 : Int32).toInt ≤ v220.toInt := fun z9 => c222 (i_le.mpr z9)
                              refine lv_aload_n hx hb dX9_next_241 rfl (lv_at hl 0 rfl) ?_
                              refine q_gi (T := TX9) C S_188.1 ga0 6 kF_X9_31 dX9_next_242 rfl rfl (by decide) rfl (by decide) rfl ?_
                              have vr : 0 ≤ (fI D H_188 9 a0 6).toInt ∧ (fI D H_188 9 a0 6).toInt ≤ 99 := by rw [u188_0.2.2.1]; exact nvk_r (by omega) (fun i h1 h2 => u188_0.2.2.2.2 i h1 (by omega))
                              refine lv_bipush (v := 10) hx hb dX9_next_245 (by decide) ?_
                              have k_10 : (10 : Int32).toInt = 10 := by decide
                              refine lv_imul hx hb dX9_next_247 ?_
                              refine lv_topi (fun v229 ev229 => ?_)
                              have f230 : v229.toInt = (fI D H_188 9 a0 6).toInt * (10) := by rw [ev229]; exact i_mulc k_10 (by omega) (by omega)
                              refine lv_aload_n hx hb dX9_next_248 rfl (lv_at hl 0 rfl) ?_
                              refine q_gr (T := TX9) C S_188.1 ga0 0 kF_X9_11 dX9_next_249 rfl rfl (by decide) rfl (by decide) rfl (fun g231 => ?_)
                              refine lv_aload_n hx hb dX9_next_252 rfl (lv_at hl 0 rfl) ?_
                              refine q_gi (T := TX9) C S_188.1 ga0 5 kF_X9_28 dX9_next_253 rfl rfl (by decide) rfl (by decide) rfl ?_
                              refine q_iald C S_188.1 g231 (by omega) (by omega) dX9_next_256 rfl (by decide) ?_
                              refine lv_topi (fun v232 ev232 => ?_)
                              have tav232 : v232.toInt = (eI H_188 (fR D H_188 9 a0 0) (fI D H_188 9 a0 5).toInt.toNat).toInt := by rw [ev232]
                              have tvv232 : T.1 (fI D H_188 9 a0 5).toInt.toNat = nrm (eI H_188 (fR D H_188 9 a0 0) (fI D H_188 9 a0 5).toInt.toNat).toInt := (congrFun (congrArg Prod.fst ((tT_keep hO ga0 S_188.2.1 (by decide) (by decide) (by decide)).trans hpre.1)) _).symm
                              have tnv232 := nrm_d (eI H_188 (fR D H_188 9 a0 0) (fI D H_188 9 a0 5).toInt.toNat).toInt
                              have wv232 : 48 ≤ v232.toInt ∧ v232.toInt ≤ 57 := by omega
                              have td : T.1 (fI D H_188 9 a0 5).toInt.toNat = v232.toInt := by omega
                              refine lv_iadd hx hb dX9_next_257 ?_
                              refine lv_topi (fun v233 ev233 => ?_)
                              have f234 : v233.toInt = v229.toInt + v232.toInt := by rw [ev233]; exact i_add (by omega) (by omega)
                              refine lv_bipush (v := 48) hx hb dX9_next_258 (by decide) ?_
                              refine lv_isub hx hb dX9_next_260 ?_
                              refine lv_topi (fun v235 ev235 => ?_)
                              have f236 : v235.toInt = v233.toInt - (48 : Int32).toInt := by rw [ev235]; exact i_sub (by omega) (by omega)
                              refine lv_goto (tgt := 267) hx hb dX9_next_261 (by decide) ?_
                              refine q_put (T := TX9) C S_188 ga0 6 kF_X9_31 dX9_next_267 rfl rfl (by decide) (by decide) rfl rfl rfl rfl rfl (vok_a rfl) (by decide +kernel) (fun H237 L237 S237 P237 => ?_)
                              refine lv_aload_n hx hb dX9_next_270 rfl (lv_at hl 0 rfl) ?_
                              refine lv_dup hx hb dX9_next_271 rfl ?_
                              refine q_gi (T := TX9) C S237.1 ga0 5 kF_X9_28 dX9_next_272 rfl rfl (by decide) rfl (by decide) rfl ?_
                              have c238 : (fI D H237 9 a0 5).toInt = (fI D H_188 9 a0 5).toInt := by rw [Pt.o P237 (by decide) (by decide)]
                              have r239 : 0 ≤ (fI D H237 9 a0 5).toInt ∧ (fI D H237 9 a0 5).toInt ≤ 400 := S237.1.rng ga0 rfl (by decide) rfl
                              refine lv_iconst (v := 1) hx hb dX9_next_275 (by decide) ?_
                              have k_1 : (1 : Int32).toInt = 1 := by decide
                              refine lv_iadd hx hb dX9_next_276 ?_
                              refine lv_topi (fun v240 ev240 => ?_)
                              have f241 : v240.toInt = (fI D H237 9 a0 5).toInt + (1 : Int32).toInt := by rw [ev240]; exact i_add (by omega) (by omega)
                              refine q_put (T := TX9) C S237 ga0 5 kF_X9_28 dX9_next_277 rfl rfl (by decide) (by decide) rfl rfl rfl rfl rfl (vok_i rfl (by omega) (by omega)) (by decide +kernel) (fun H242 L242 S242 P242 => ?_)
                              refine lv_goto (tgt := 188) hx hb dX9_next_280 (by decide) ?_
                              have bk : (fI D H242 9 a0 5).toInt = _ := congrArg Int32.toInt (Pt.i P242)
                              exact ih188  H242 L242 ls S242 (⟨by rw [Pt.o P242 (by decide) (by decide), Pt.o P237 (by decide) (by decide)]; exact u188_0.1, by rw [Pt.o P242 (by decide) (by decide), Pt.o P237 (by decide) (by decide)]; exact u188_0.2.1, by rw [show (fI D H242 9 a0 5).toInt.toNat - bb = ((fI D H_188 9 a0 5).toInt.toNat - bb) + 1 by omega]; rw [Pt.o P242 (by decide) (by decide), Pt.i P237]; first | exact (nvk_b (by omega)) | (rw [← nvk_s (k := (fI D H_188 9 a0 5).toInt.toNat - bb) (by omega) u188_0.2.2.1 (show T.1 (bb + ((fI D H_188 9 a0 5).toInt.toNat - bb)) = _ from (congrArg T.1 (by omega)).trans td)]; omega), by omega, fun i h1 h2 => if h9 : (i : Int) < (fI D H_188 9 a0 5).toInt then u188_0.2.2.2.2 i h1 h9 else by rw [show i = (fI D H_188 9 a0 5).toInt.toNat by omega]; exact tq⟩) (by omega) (lv_sub hl [0] rfl)
                  have rn : 0 ≤ (fI D H208 9 a0 5).toInt ∧ (fI D H208 9 a0 5).toInt ≤ 400 := S208.1.rng ga0 rfl (by decide) rfl
                  exact Lp188 402  H208 L208 ls S208 (⟨by rw [Pt.o P208 (by decide) (by decide), Pt.o P168 (by decide) (by decide), Pt.i P167]; omega, by rw [Pt.i P208]; decide, by rw [Pt.o P208 (by decide) (by decide), Pt.i P168, show (fI D H208 9 a0 5).toInt.toNat - bb = 0 by rw [Pt.o P208 (by decide) (by decide), Pt.o P168 (by decide) (by decide), Pt.o P167 (by decide) (by decide)]; omega]; rfl, by rw [Pt.o P208 (by decide) (by decide), Pt.o P168 (by decide) (by decide), Pt.o P167 (by decide) (by decide)]; omega, fun i h1 h2 => by rw [Pt.o P208 (by decide) (by decide), Pt.o P168 (by decide) (by decide), Pt.o P167 (by decide) (by decide)] at h2; omega⟩)  (by omega) (lv_sub hl [0] rfl)
            · have b177 : ¬ v176.toInt < (97 : Int32).toInt := fun z9 => c177 (i_lt.mpr z9)
              refine lv_aload_n hx hb dX9_next_84 rfl (lv_at hl 0 rfl) ?_
              refine q_gr (T := TX9) C S168.1 ga0 0 kF_X9_11 dX9_next_85 rfl rfl (by decide) rfl (by decide) rfl (fun g243 => ?_)
              refine lv_aload_n hx hb dX9_next_88 rfl (lv_at hl 0 rfl) ?_
              refine q_gi (T := TX9) C S168.1 ga0 5 kF_X9_28 dX9_next_89 rfl rfl (by decide) rfl (by decide) rfl ?_
              refine q_iald C S168.1 g243 (by omega) (by omega) dX9_next_92 rfl (by decide) ?_
              refine lv_topi (fun v244 ev244 => ?_)
              have tav244 : v244.toInt = (eI H168 (fR D H168 9 a0 0) (fI D H168 9 a0 5).toInt.toNat).toInt := by rw [ev244]
              have tvv244 : T.1 bb = nrm (eI H168 (fR D H168 9 a0 0) (fI D H168 9 a0 5).toInt.toNat).toInt := by rw [show bb = (fI D H168 9 a0 5).toInt.toNat by omega]; exact (congrFun (congrArg Prod.fst ((tT_keep hO ga0 S168.2.1 (by decide) (by decide) (by decide)).trans hpre.1)) _).symm
              have tnv244 := nrm_d (eI H168 (fR D H168 9 a0 0) (fI D H168 9 a0 5).toInt.toNat).toInt
              refine lv_bipush (v := 122) hx hb dX9_next_93 (by decide) ?_
              have k_122 : (122 : Int32).toInt = 122 := by decide
              refine lv_icmp_gt (tgt := 155) hx hb dX9_next_95 (by decide) (fun c245 => ?_) (fun c245 => ?_)
              · have b245 : (122 : Int32).toInt < v244.toInt := i_lt.mp c245
                refine lv_aload_n hx hb dX9_next_155 rfl (lv_at hl 0 rfl) ?_
                refine q_gr (T := TX9) C S168.1 ga0 0 kF_X9_11 dX9_next_156 rfl rfl (by decide) rfl (by decide) rfl (fun g246 => ?_)
                refine lv_aload_n hx hb dX9_next_159 rfl (lv_at hl 0 rfl) ?_
                refine q_gi (T := TX9) C S168.1 ga0 5 kF_X9_28 dX9_next_160 rfl rfl (by decide) rfl (by decide) rfl ?_
                refine q_iald C S168.1 g246 (by omega) (by omega) dX9_next_163 rfl (by decide) ?_
                refine lv_topi (fun v247 ev247 => ?_)
                have tav247 : v247.toInt = (eI H168 (fR D H168 9 a0 0) (fI D H168 9 a0 5).toInt.toNat).toInt := by rw [ev247]
                have tvv247 : T.1 bb = nrm (eI H168 (fR D H168 9 a0 0) (fI D H168 9 a0 5).toInt.toNat).toInt := by rw [show bb = (fI D H168 9 a0 5).toInt.toNat by omega]; exact (congrFun (congrArg Prod.fst ((tT_keep hO ga0 S168.2.1 (by decide) (by decide) (by decide)).trans hpre.1)) _).symm
                have tnv247 := nrm_d (eI H168 (fR D H168 9 a0 0) (fI D H168 9 a0 5).toInt.toNat).toInt
                refine lv_bipush (v := 48) hx hb dX9_next_164 (by decide) ?_
                have k_48 : (48 : Int32).toInt = 48 := by decide
                refine lv_icmp_lt (tgt := 283) hx hb dX9_next_166 (by decide) (fun c248 => ?_) (fun c248 => ?_)
                · have b248 : v247.toInt < (48 : Int32).toInt := i_lt.mp c248
                  refine lv_aload_n hx hb dX9_next_283 rfl (lv_at hl 0 rfl) ?_
                  refine lv_iconst (v := 3) hx hb dX9_next_284 (by decide) ?_
                  have k_3 : (3 : Int32).toInt = 3 := by decide
                  refine q_put (T := TX9) C S168 ga0 3 kF_X9_22 dX9_next_285 rfl rfl (by decide) (by decide) rfl rfl rfl rfl rfl (vok_a rfl) (by decide +kernel) (fun H249 L249 S249 P249 => ?_)
                  refine lv_aload_n hx hb dX9_next_288 rfl (lv_at hl 0 rfl) ?_
                  refine lv_aload_n hx hb dX9_next_289 rfl (lv_at hl 0 rfl) ?_
                  refine q_gr (T := TX9) C S249.1 ga0 0 kF_X9_11 dX9_next_290 rfl rfl (by decide) rfl (by decide) rfl (fun g250 => ?_)
                  refine lv_aload_n hx hb dX9_next_293 rfl (lv_at hl 0 rfl) ?_
                  refine q_gi (T := TX9) C S249.1 ga0 5 kF_X9_28 dX9_next_294 rfl rfl (by decide) rfl (by decide) rfl ?_
                  have c251 : (fI D H249 9 a0 5).toInt = (fI D H168 9 a0 5).toInt := by rw [Pt.o P249 (by decide) (by decide)]
                  have r252 : 0 ≤ (fI D H249 9 a0 5).toInt ∧ (fI D H249 9 a0 5).toInt ≤ 400 := S249.1.rng ga0 rfl (by decide) rfl
                  have n253 : aN H249 (fR D H249 9 a0 0) = 400 := len_3 S249.1 g250
                  refine q_iald C S249.1 g250 (by omega) (by omega) dX9_next_297 rfl (by decide) ?_
                  refine lv_topi (fun v254 ev254 => ?_)
                  have tav254 : v254.toInt = (eI H249 (fR D H249 9 a0 0) (fI D H249 9 a0 5).toInt.toNat).toInt := by rw [ev254]
                  have tvv254 : T.1 bb = nrm (eI H249 (fR D H249 9 a0 0) (fI D H249 9 a0 5).toInt.toNat).toInt := by rw [show bb = (fI D H249 9 a0 5).toInt.toNat by omega]; exact (congrFun (congrArg Prod.fst ((tT_keep hO ga0 S249.2.1 (by decide) (by decide) (by decide)).trans hpre.1)) _).symm
                  have tnv254 := nrm_d (eI H249 (fR D H249 9 a0 0) (fI D H249 9 a0 5).toInt.toNat).toInt
                  have sg : T.1 bb = nrm v254.toInt := by rw [tav254]; exact tvv254
                  refine q_put (T := TX9) C S249 ga0 6 kF_X9_31 dX9_next_298 rfl rfl (by decide) (by decide) rfl rfl rfl rfl rfl (vok_a rfl) (by decide +kernel) (fun H255 L255 S255 P255 => ?_)
                  refine lv_aload_n hx hb dX9_next_301 rfl (lv_at hl 0 rfl) ?_
                  refine lv_dup hx hb dX9_next_302 rfl ?_
                  refine q_gi (T := TX9) C S255.1 ga0 5 kF_X9_28 dX9_next_303 rfl rfl (by decide) rfl (by decide) rfl ?_
                  have c256 : (fI D H255 9 a0 5).toInt = (fI D H249 9 a0 5).toInt := by rw [Pt.o P255 (by decide) (by decide)]
                  have r257 : 0 ≤ (fI D H255 9 a0 5).toInt ∧ (fI D H255 9 a0 5).toInt ≤ 400 := S255.1.rng ga0 rfl (by decide) rfl
                  refine lv_iconst (v := 1) hx hb dX9_next_306 (by decide) ?_
                  have k_1 : (1 : Int32).toInt = 1 := by decide
                  refine lv_iadd hx hb dX9_next_307 ?_
                  refine lv_topi (fun v258 ev258 => ?_)
                  have f259 : v258.toInt = (fI D H255 9 a0 5).toInt + (1 : Int32).toInt := by rw [ev258]; exact i_add (by omega) (by omega)
                  refine q_put (T := TX9) C S255 ga0 5 kF_X9_28 dX9_next_308 rfl rfl (by decide) (by decide) rfl rfl rfl rfl rfl (vok_i rfl (by omega) (by omega)) (by decide +kernel) (fun H260 L260 S260 P260 => ?_)
                  exact retE_v hQ C S260 hr dX9_next_311 (by rw [s9]; have kw : kd T bb = 3 := kd_s.mpr ⟨by omega, tle_f.mpr (by omega), tdi_f.mpr (by omega)⟩; exact ⟨⟨((tT_keep hO ga0 S260.2.1 (by decide) (by decide) (by decide)).trans hpre.1), (by rw [S260.2.1.fI ga0 rfl (by decide) (by decide)]; exact hpre.2.1), by rw [Pt.i P260, af_s kw]; omega⟩, by rw [Pt.o P260 (by decide) (by decide), Pt.o P255 (by decide) (by decide), Pt.i P249, kw]; decide, by rw [Pt.o P260 (by decide) (by decide), Pt.o P255 (by decide) (by decide), Pt.o P249 (by decide) (by decide), Pt.o P168 (by decide) (by decide), Pt.i P167]; omega, fun h => absurd h (by rw [kw]; decide), fun _ => by rw [Pt.o P260 (by decide) (by decide), Pt.i P255]; exact sg.symm⟩)
                · have b248 : ¬ v247.toInt < (48 : Int32).toInt := fun z9 => c248 (i_lt.mpr z9)
                  refine lv_aload_n hx hb dX9_next_169 rfl (lv_at hl 0 rfl) ?_
                  refine q_gr (T := TX9) C S168.1 ga0 0 kF_X9_11 dX9_next_170 rfl rfl (by decide) rfl (by decide) rfl (fun g261 => ?_)
                  refine lv_aload_n hx hb dX9_next_173 rfl (lv_at hl 0 rfl) ?_
                  refine q_gi (T := TX9) C S168.1 ga0 5 kF_X9_28 dX9_next_174 rfl rfl (by decide) rfl (by decide) rfl ?_
                  refine q_iald C S168.1 g261 (by omega) (by omega) dX9_next_177 rfl (by decide) ?_
                  refine lv_topi (fun v262 ev262 => ?_)
                  have tav262 : v262.toInt = (eI H168 (fR D H168 9 a0 0) (fI D H168 9 a0 5).toInt.toNat).toInt := by rw [ev262]
                  have tvv262 : T.1 bb = nrm (eI H168 (fR D H168 9 a0 0) (fI D H168 9 a0 5).toInt.toNat).toInt := by rw [show bb = (fI D H168 9 a0 5).toInt.toNat by omega]; exact (congrFun (congrArg Prod.fst ((tT_keep hO ga0 S168.2.1 (by decide) (by decide) (by decide)).trans hpre.1)) _).symm
                  have tnv262 := nrm_d (eI H168 (fR D H168 9 a0 0) (fI D H168 9 a0 5).toInt.toNat).toInt
                  refine lv_bipush (v := 57) hx hb dX9_next_178 (by decide) ?_
                  have k_57 : (57 : Int32).toInt = 57 := by decide
                  refine lv_icmp_gt (tgt := 283) hx hb dX9_next_180 (by decide) (fun c263 => ?_) (fun c263 => ?_)
                  · have b263 : (57 : Int32).toInt < v262.toInt := i_lt.mp c263
                    refine lv_aload_n hx hb dX9_next_283 rfl (lv_at hl 0 rfl) ?_
                    refine lv_iconst (v := 3) hx hb dX9_next_284 (by decide) ?_
                    have k_3 : (3 : Int32).toInt = 3 := by decide
                    refine q_put (T := TX9) C S168 ga0 3 kF_X9_22 dX9_next_285 rfl rfl (by decide) (by decide) rfl rfl rfl rfl rfl (vok_a rfl) (by decide +kernel) (fun H264 L264 S264 P264 => ?_)
                    refine lv_aload_n hx hb dX9_next_288 rfl (lv_at hl 0 rfl) ?_
                    refine lv_aload_n hx hb dX9_next_289 rfl (lv_at hl 0 rfl) ?_
                    refine q_gr (T := TX9) C S264.1 ga0 0 kF_X9_11 dX9_next_290 rfl rfl (by decide) rfl (by decide) rfl (fun g265 => ?_)
                    refine lv_aload_n hx hb dX9_next_293 rfl (lv_at hl 0 rfl) ?_
                    refine q_gi (T := TX9) C S264.1 ga0 5 kF_X9_28 dX9_next_294 rfl rfl (by decide) rfl (by decide) rfl ?_
                    have c266 : (fI D H264 9 a0 5).toInt = (fI D H168 9 a0 5).toInt := by rw [Pt.o P264 (by decide) (by decide)]
                    have r267 : 0 ≤ (fI D H264 9 a0 5).toInt ∧ (fI D H264 9 a0 5).toInt ≤ 400 := S264.1.rng ga0 rfl (by decide) rfl
                    have n268 : aN H264 (fR D H264 9 a0 0) = 400 := len_3 S264.1 g265
                    refine q_iald C S264.1 g265 (by omega) (by omega) dX9_next_297 rfl (by decide) ?_
                    refine lv_topi (fun v269 ev269 => ?_)
                    have tav269 : v269.toInt = (eI H264 (fR D H264 9 a0 0) (fI D H264 9 a0 5).toInt.toNat).toInt := by rw [ev269]
                    have tvv269 : T.1 bb = nrm (eI H264 (fR D H264 9 a0 0) (fI D H264 9 a0 5).toInt.toNat).toInt := by rw [show bb = (fI D H264 9 a0 5).toInt.toNat by omega]; exact (congrFun (congrArg Prod.fst ((tT_keep hO ga0 S264.2.1 (by decide) (by decide) (by decide)).trans hpre.1)) _).symm
                    have tnv269 := nrm_d (eI H264 (fR D H264 9 a0 0) (fI D H264 9 a0 5).toInt.toNat).toInt
                    have sg : T.1 bb = nrm v269.toInt := by rw [tav269]; exact tvv269
                    refine q_put (T := TX9) C S264 ga0 6 kF_X9_31 dX9_next_298 rfl rfl (by decide) (by decide) rfl rfl rfl rfl rfl (vok_a rfl) (by decide +kernel) (fun H270 L270 S270 P270 => ?_)
                    refine lv_aload_n hx hb dX9_next_301 rfl (lv_at hl 0 rfl) ?_
                    refine lv_dup hx hb dX9_next_302 rfl ?_
                    refine q_gi (T := TX9) C S270.1 ga0 5 kF_X9_28 dX9_next_303 rfl rfl (by decide) rfl (by decide) rfl ?_
                    have c271 : (fI D H270 9 a0 5).toInt = (fI D H264 9 a0 5).toInt := by rw [Pt.o P270 (by decide) (by decide)]
                    have r272 : 0 ≤ (fI D H270 9 a0 5).toInt ∧ (fI D H270 9 a0 5).toInt ≤ 400 := S270.1.rng ga0 rfl (by decide) rfl
                    refine lv_iconst (v := 1) hx hb dX9_next_306 (by decide) ?_
                    have k_1 : (1 : Int32).toInt = 1 := by decide
                    refine lv_iadd hx hb dX9_next_307 ?_
                    refine lv_topi (fun v273 ev273 => ?_)
                    have f274 : v273.toInt = (fI D H270 9 a0 5).toInt + (1 : Int32).toInt := by rw [ev273]; exact i_add (by omega) (by omega)
                    refine q_put (T := TX9) C S270 ga0 5 kF_X9_28 dX9_next_308 rfl rfl (by decide) (by decide) rfl rfl rfl rfl rfl (vok_i rfl (by omega) (by omega)) (by decide +kernel) (fun H275 L275 S275 P275 => ?_)
                    exact retE_v hQ C S275 hr dX9_next_311 (by rw [s9]; have kw : kd T bb = 3 := kd_s.mpr ⟨by omega, tle_f.mpr (by omega), tdi_f.mpr (by omega)⟩; exact ⟨⟨((tT_keep hO ga0 S275.2.1 (by decide) (by decide) (by decide)).trans hpre.1), (by rw [S275.2.1.fI ga0 rfl (by decide) (by decide)]; exact hpre.2.1), by rw [Pt.i P275, af_s kw]; omega⟩, by rw [Pt.o P275 (by decide) (by decide), Pt.o P270 (by decide) (by decide), Pt.i P264, kw]; decide, by rw [Pt.o P275 (by decide) (by decide), Pt.o P270 (by decide) (by decide), Pt.o P264 (by decide) (by decide), Pt.o P168 (by decide) (by decide), Pt.i P167]; omega, fun h => absurd h (by rw [kw]; decide), fun _ => by rw [Pt.o P275 (by decide) (by decide), Pt.i P270]; exact sg.symm⟩)
                  · have b263 : ¬ (57 : Int32).toInt < v262.toInt := fun z9 => c263 (i_lt.mpr z9)
                    have tw : tdi T bb = true := tdi_t.mpr (by omega)
                    refine lv_aload_n hx hb dX9_next_183 rfl (lv_at hl 0 rfl) ?_
                    refine lv_iconst (v := 2) hx hb dX9_next_184 (by decide) ?_
                    have k_2 : (2 : Int32).toInt = 2 := by decide
                    refine q_put (T := TX9) C S168 ga0 3 kF_X9_22 dX9_next_185 rfl rfl (by decide) (by decide) rfl rfl rfl rfl rfl (vok_a rfl) (by decide +kernel) (fun H276 L276 S276 P276 => ?_)
                    have Lp188 : ∀ (n : Nat)  (H_188 : Heap) (L_188 : List Loc) (ls : Array Slot), (Sd D G [(2, 3), (2, 4), (2, 5), (2, 6)] s.heap H_188 L_188) → ((fI D H_188 9 a0 4).toInt = bb ∧ (fI D H_188 9 a0 3).toInt = 2 ∧ (fI D H_188 9 a0 6).toInt = nvk T bb ((fI D H_188 9 a0 5).toInt.toNat - bb) ∧ (bb : Int) ≤ (fI D H_188 9 a0 5).toInt ∧ ∀ i : Nat, bb ≤ i → (i : Int) < (fI D H_188 9 a0 5).toInt → tdi T i = true) → 401 - (fI D H_188 9 a0 5).toInt ≤ (n : Int) → lv_has ls 1 [(0, .ref a0)] → W p l e (rmU 0 0 0) s m args below meth c H_188 L_188 0 0 Q (F0 m 188 ls []) := by
                      intro n
                      induction n with
                      | zero =>
                        intro H_188 L_188 ls S_188 u188_0 hn hl
                        have rz : 0 ≤ (fI D H_188 9 a0 5).toInt ∧ (fI D H_188 9 a0 5).toInt ≤ 400 := S_188.1.rng ga0 rfl (by decide) rfl
                        exact absurd hn (by omega)
                      | succ n ih188 =>
                        intro H_188 L_188 ls S_188 u188_0 hn hl
                        refine lv_aload_n hx hb dX9_next_188 rfl (lv_at hl 0 rfl) ?_
                        refine q_gi (T := TX9) C S_188.1 ga0 5 kF_X9_28 dX9_next_189 rfl rfl (by decide) rfl (by decide) rfl ?_
                        have r277 : 0 ≤ (fI D H_188 9 a0 5).toInt ∧ (fI D H_188 9 a0 5).toInt ≤ 400 := S_188.1.rng ga0 rfl (by decide) rfl
                        refine lv_aload_n hx hb dX9_next_192 rfl (lv_at hl 0 rfl) ?_
                        refine q_gi (T := TX9) C S_188.1 ga0 1 kF_X9_15 dX9_next_193 rfl rfl (by decide) rfl (by decide) rfl ?_
                        have r278 : 0 ≤ (fI D H_188 9 a0 1).toInt ∧ (fI D H_188 9 a0 1).toInt ≤ 400 := S_188.1.rng ga0 rfl (by decide) rfl
                        have tl : T.2 = (fI D H_188 9 a0 1).toInt.toNat := (congrArg Prod.snd ((tT_keep hO ga0 S_188.2.1 (by decide) (by decide) (by decide)).trans hpre.1)).symm
                        refine lv_icmp_ge (tgt := 311) hx hb dX9_next_196 (by decide) (fun c279 => ?_) (fun c279 => ?_)
                        · have b279 : (fI D H_188 9 a0 1).toInt ≤ (fI D H_188 9 a0 5).toInt := i_le.mp c279
                          exact retE_v hQ C S_188 hr dX9_next_311 (by rw [s9]; have kw := kd_n.mpr tw; have rf : rn (tdi T) 500 bb = (fI D H_188 9 a0 5).toInt.toNat := rn_of (tdi_f.mpr (by omega)) 500 bb (by omega) (fun i h1 h2 => u188_0.2.2.2.2 i h1 (by omega)) (by omega); exact ⟨⟨((tT_keep hO ga0 S_188.2.1 (by decide) (by decide) (by decide)).trans hpre.1), (by rw [S_188.2.1.fI ga0 rfl (by decide) (by decide)]; exact hpre.2.1), by rw [af_n kw, rf]; omega⟩, by rw [kw]; exact u188_0.2.1, u188_0.1, fun _ => by rw [nv_k ((af_n kw).trans rf)]; exact u188_0.2.2.1, fun h => absurd h (by rw [kw]; decide)⟩)
                        · have b279 : ¬ (fI D H_188 9 a0 1).toInt ≤ (fI D H_188 9 a0 5).toInt := fun z9 => c279 (i_le.mpr z9)
                          refine lv_aload_n hx hb dX9_next_199 rfl (lv_at hl 0 rfl) ?_
                          refine q_gr (T := TX9) C S_188.1 ga0 0 kF_X9_11 dX9_next_200 rfl rfl (by decide) rfl (by decide) rfl (fun g280 => ?_)
                          refine lv_aload_n hx hb dX9_next_203 rfl (lv_at hl 0 rfl) ?_
                          refine q_gi (T := TX9) C S_188.1 ga0 5 kF_X9_28 dX9_next_204 rfl rfl (by decide) rfl (by decide) rfl ?_
                          have n281 : aN H_188 (fR D H_188 9 a0 0) = 400 := len_3 S_188.1 g280
                          refine q_iald C S_188.1 g280 (by omega) (by omega) dX9_next_207 rfl (by decide) ?_
                          refine lv_topi (fun v282 ev282 => ?_)
                          have tav282 : v282.toInt = (eI H_188 (fR D H_188 9 a0 0) (fI D H_188 9 a0 5).toInt.toNat).toInt := by rw [ev282]
                          have tvv282 : T.1 (fI D H_188 9 a0 5).toInt.toNat = nrm (eI H_188 (fR D H_188 9 a0 0) (fI D H_188 9 a0 5).toInt.toNat).toInt := (congrFun (congrArg Prod.fst ((tT_keep hO ga0 S_188.2.1 (by decide) (by decide) (by decide)).trans hpre.1)) _).symm
                          have tnv282 := nrm_d (eI H_188 (fR D H_188 9 a0 0) (fI D H_188 9 a0 5).toInt.toNat).toInt
                          refine lv_bipush (v := 48) hx hb dX9_next_208 (by decide) ?_
                          refine lv_icmp_lt (tgt := 311) hx hb dX9_next_210 (by decide) (fun c283 => ?_) (fun c283 => ?_)
                          · have b283 : v282.toInt < (48 : Int32).toInt := i_lt.mp c283
                            exact retE_v hQ C S_188 hr dX9_next_311 (by rw [s9]; have kw := kd_n.mpr tw; have rf : rn (tdi T) 500 bb = (fI D H_188 9 a0 5).toInt.toNat := rn_of (tdi_f.mpr (by omega)) 500 bb (by omega) (fun i h1 h2 => u188_0.2.2.2.2 i h1 (by omega)) (by omega); exact ⟨⟨((tT_keep hO ga0 S_188.2.1 (by decide) (by decide) (by decide)).trans hpre.1), (by rw [S_188.2.1.fI ga0 rfl (by decide) (by decide)]; exact hpre.2.1), by rw [af_n kw, rf]; omega⟩, by rw [kw]; exact u188_0.2.1, u188_0.1, fun _ => by rw [nv_k ((af_n kw).trans rf)]; exact u188_0.2.2.1, fun h => absurd h (by rw [kw]; decide)⟩)
                          · have b283 : ¬ v282.toInt < (48 : Int32).toInt := fun z9 => c283 (i_lt.mpr z9)
                            refine lv_aload_n hx hb dX9_next_213 rfl (lv_at hl 0 rfl) ?_
                            refine q_gr (T := TX9) C S_188.1 ga0 0 kF_X9_11 dX9_next_214 rfl rfl (by decide) rfl (by decide) rfl (fun g284 => ?_)
                            refine lv_aload_n hx hb dX9_next_217 rfl (lv_at hl 0 rfl) ?_
                            refine q_gi (T := TX9) C S_188.1 ga0 5 kF_X9_28 dX9_next_218 rfl rfl (by decide) rfl (by decide) rfl ?_
                            refine q_iald C S_188.1 g284 (by omega) (by omega) dX9_next_221 rfl (by decide) ?_
                            refine lv_topi (fun v285 ev285 => ?_)
                            have tav285 : v285.toInt = (eI H_188 (fR D H_188 9 a0 0) (fI D H_188 9 a0 5).toInt.toNat).toInt := by rw [ev285]
                            have tvv285 : T.1 (fI D H_188 9 a0 5).toInt.toNat = nrm (eI H_188 (fR D H_188 9 a0 0) (fI D H_188 9 a0 5).toInt.toNat).toInt := (congrFun (congrArg Prod.fst ((tT_keep hO ga0 S_188.2.1 (by decide) (by decide) (by decide)).trans hpre.1)) _).symm
                            have tnv285 := nrm_d (eI H_188 (fR D H_188 9 a0 0) (fI D H_188 9 a0 5).toInt.toNat).toInt
                            refine lv_bipush (v := 57) hx hb dX9_next_222 (by decide) ?_
                            refine lv_icmp_gt (tgt := 311) hx hb dX9_next_224 (by decide) (fun c286 => ?_) (fun c286 => ?_)
                            · have b286 : (57 : Int32).toInt < v285.toInt := i_lt.mp c286
                              exact retE_v hQ C S_188 hr dX9_next_311 (by rw [s9]; have kw := kd_n.mpr tw; have rf : rn (tdi T) 500 bb = (fI D H_188 9 a0 5).toInt.toNat := rn_of (tdi_f.mpr (by omega)) 500 bb (by omega) (fun i h1 h2 => u188_0.2.2.2.2 i h1 (by omega)) (by omega); exact ⟨⟨((tT_keep hO ga0 S_188.2.1 (by decide) (by decide) (by decide)).trans hpre.1), (by rw [S_188.2.1.fI ga0 rfl (by decide) (by decide)]; exact hpre.2.1), by rw [af_n kw, rf]; omega⟩, by rw [kw]; exact u188_0.2.1, u188_0.1, fun _ => by rw [nv_k ((af_n kw).trans rf)]; exact u188_0.2.2.1, fun h => absurd h (by rw [kw]; decide)⟩)
                            · have b286 : ¬ (57 : Int32).toInt < v285.toInt := fun z9 => c286 (i_lt.mpr z9)
                              have tq : tdi T (fI D H_188 9 a0 5).toInt.toNat = true := tdi_t.mpr (by omega)
                              refine lv_aload_n hx hb dX9_next_227 rfl (lv_at hl 0 rfl) ?_
                              refine lv_aload_n hx hb dX9_next_228 rfl (lv_at hl 0 rfl) ?_
                              refine q_gi (T := TX9) C S_188.1 ga0 5 kF_X9_28 dX9_next_229 rfl rfl (by decide) rfl (by decide) rfl ?_
                              refine lv_aload_n hx hb dX9_next_232 rfl (lv_at hl 0 rfl) ?_
                              refine q_gi (T := TX9) C S_188.1 ga0 4 kF_X9_25 dX9_next_233 rfl rfl (by decide) rfl (by decide) rfl ?_
                              have r287 : 0 ≤ (fI D H_188 9 a0 4).toInt ∧ (fI D H_188 9 a0 4).toInt ≤ 400 := S_188.1.rng ga0 rfl (by decide) rfl
                              refine lv_isub hx hb dX9_next_236 ?_
                              refine lv_topi (fun v288 ev288 => ?_)
                              have f289 : v288.toInt = (fI D H_188 9 a0 5).toInt - (fI D H_188 9 a0 4).toInt := by rw [ev288]; exact i_sub (by omega) (by omega)
                              refine lv_iconst (v := 3) hx hb dX9_next_237 (by decide) ?_
                              have k_3 : (3 : Int32).toInt = 3 := by decide
                              refine lv_icmp_ge (tgt := 264) hx hb dX9_next_238 (by decide) (fun c290 => ?_) (fun c290 => ?_)
                              · have b290 : (3 : Int32).toInt ≤ v288.toInt := i_le.mp c290
                                refine lv_sipush (v := 1000) hx hb dX9_next_264 (by decide) ?_
                                have k_1000 : (1000 : Int32).toInt = 1000 := by decide
                                refine q_put (T := TX9) C S_188 ga0 6 kF_X9_31 dX9_next_267 rfl rfl (by decide) (by decide) rfl rfl rfl rfl rfl (vok_a rfl) (by decide +kernel) (fun H291 L291 S291 P291 => ?_)
                                refine lv_aload_n hx hb dX9_next_270 rfl (lv_at hl 0 rfl) ?_
                                refine lv_dup hx hb dX9_next_271 rfl ?_
                                refine q_gi (T := TX9) C S291.1 ga0 5 kF_X9_28 dX9_next_272 rfl rfl (by decide) rfl (by decide) rfl ?_
                                have c292 : (fI D H291 9 a0 5).toInt = (fI D H_188 9 a0 5).toInt := by rw [Pt.o P291 (by decide) (by decide)]
                                have r293 : 0 ≤ (fI D H291 9 a0 5).toInt ∧ (fI D H291 9 a0 5).toInt ≤ 400 := S291.1.rng ga0 rfl (by decide) rfl
                                refine lv_iconst (v := 1) hx hb dX9_next_275 (by decide) ?_
                                have k_1 : (1 : Int32).toInt = 1 := by decide
                                refine lv_iadd hx hb dX9_next_276 ?_
                                refine lv_topi (fun v294 ev294 => ?_)
                                have f295 : v294.toInt = (fI D H291 9 a0 5).toInt + (1 : Int32).toInt := by rw [ev294]; exact i_add (by omega) (by omega)
                                refine q_put (T := TX9) C S291 ga0 5 kF_X9_28 dX9_next_277 rfl rfl (by decide) (by decide) rfl rfl rfl rfl rfl (vok_i rfl (by omega) (by omega)) (by decide +kernel) (fun H296 L296 S296 P296 => ?_)
                                refine lv_goto (tgt := 188) hx hb dX9_next_280 (by decide) ?_
                                have bk : (fI D H296 9 a0 5).toInt = _ := congrArg Int32.toInt (Pt.i P296)
                                exact ih188  H296 L296 ls S296 (⟨by rw [Pt.o P296 (by decide) (by decide), Pt.o P291 (by decide) (by decide)]; exact u188_0.1, by rw [Pt.o P296 (by decide) (by decide), Pt.o P291 (by decide) (by decide)]; exact u188_0.2.1, by rw [show (fI D H296 9 a0 5).toInt.toNat - bb = ((fI D H_188 9 a0 5).toInt.toNat - bb) + 1 by omega]; rw [Pt.o P296 (by decide) (by decide), Pt.i P291]; first | exact (nvk_b (by omega)) | (rw [← nvk_s (k := (fI D H_188 9 a0 5).toInt.toNat - bb) (by omega) u188_0.2.2.1 (show T.1 (bb + ((fI D H_188 9 a0 5).toInt.toNat - bb)) = _ from (congrArg T.1 (by omega)).trans td)]; omega), by omega, fun i h1 h2 => if h9 : (i : Int) < (fI D H_188 9 a0 5).toInt then u188_0.2.2.2.2 i h1 h9 else by rw [show i = (fI D H_188 9 a0 5).toInt.toNat by omega]; exact tq⟩) (by omega) (lv_sub hl [0] rfl)
                              · have b290 : ¬ (3 : Int32).toInt ≤ v288.toInt := fun z9 => c290 (i_le.mpr z9)
                                refine lv_aload_n hx hb dX9_next_241 rfl (lv_at hl 0 rfl) ?_
                                refine q_gi (T := TX9) C S_188.1 ga0 6 kF_X9_31 dX9_next_242 rfl rfl (by decide) rfl (by decide) rfl ?_
                                have vr : 0 ≤ (fI D H_188 9 a0 6).toInt ∧ (fI D H_188 9 a0 6).toInt ≤ 99 := by rw [u188_0.2.2.1]; exact nvk_r (by omega) (fun i h1 h2 => u188_0.2.2.2.2 i h1 (by omega))
                                refine lv_bipush (v := 10) hx hb dX9_next_245 (by decide) ?_
                                have k_10 : (10 : Int32).toInt = 10 := by decide
                                refine lv_imul hx hb dX9_next_247 ?_
                                refine lv_topi (fun v297 ev297 => ?_)
                                have f298 : v297.toInt = (fI D H_188 9 a0 6).toInt * (10) := by rw [ev297]; exact i_mulc k_10 (by omega) (by omega)
                                refine lv_aload_n hx hb dX9_next_248 rfl (lv_at hl 0 rfl) ?_
                                refine q_gr (T := TX9) C S_188.1 ga0 0 kF_X9_11 dX9_next_249 rfl rfl (by decide) rfl (by decide) rfl (fun g299 => ?_)
                                refine lv_aload_n hx hb dX9_next_252 rfl (lv_at hl 0 rfl) ?_
                                refine q_gi (T := TX9) C S_188.1 ga0 5 kF_X9_28 dX9_next_253 rfl rfl (by decide) rfl (by decide) rfl ?_
                                refine q_iald C S_188.1 g299 (by omega) (by omega) dX9_next_256 rfl (by decide) ?_
                                refine lv_topi (fun v300 ev300 => ?_)
                                have tav300 : v300.toInt = (eI H_188 (fR D H_188 9 a0 0) (fI D H_188 9 a0 5).toInt.toNat).toInt := by rw [ev300]
                                have tvv300 : T.1 (fI D H_188 9 a0 5).toInt.toNat = nrm (eI H_188 (fR D H_188 9 a0 0) (fI D H_188 9 a0 5).toInt.toNat).toInt := (congrFun (congrArg Prod.fst ((tT_keep hO ga0 S_188.2.1 (by decide) (by decide) (by decide)).trans hpre.1)) _).symm
                                have tnv300 := nrm_d (eI H_188 (fR D H_188 9 a0 0) (fI D H_188 9 a0 5).toInt.toNat).toInt
                                have wv300 : 48 ≤ v300.toInt ∧ v300.toInt ≤ 57 := by omega
                                have td : T.1 (fI D H_188 9 a0 5).toInt.toNat = v300.toInt := by omega
                                refine lv_iadd hx hb dX9_next_257 ?_
                                refine lv_topi (fun v301 ev301 => ?_)
                                have f302 : v301.toInt = v297.toInt + v300.toInt := by rw [ev301]; exact i_add (by omega) (by omega)
                                refine lv_bipush (v := 48) hx hb dX9_next_258 (by decide) ?_
                                refine lv_isub hx hb dX9_next_260 ?_
                                refine lv_topi (fun v303 ev303 => ?_)
                                have f304 : v303.toInt = v301.toInt - (48 : Int32).toInt := by rw [ev303]; exact i_sub (by omega) (by omega)
                                refine lv_goto (tgt := 267) hx hb dX9_next_261 (by decide) ?_
                                refine q_put (T := TX9) C S_188 ga0 6 kF_X9_31 dX9_next_267 rfl rfl (by decide) (by decide) rfl rfl rfl rfl rfl (vok_a rfl) (by decide +kernel) (fun H305 L305 S305 P305 => ?_)
                                refine lv_aload_n hx hb dX9_next_270 rfl (lv_at hl 0 rfl) ?_
                                refine lv_dup hx hb dX9_next_271 rfl ?_
                                refine q_gi (T := TX9) C S305.1 ga0 5 kF_X9_28 dX9_next_272 rfl rfl (by decide) rfl (by decide) rfl ?_
                                have c306 : (fI D H305 9 a0 5).toInt = (fI D H_188 9 a0 5).toInt := by rw [Pt.o P305 (by decide) (by decide)]
                                have r307 : 0 ≤ (fI D H305 9 a0 5).toInt ∧ (fI D H305 9 a0 5).toInt ≤ 400 := S305.1.rng ga0 rfl (by decide) rfl
                                refine lv_iconst (v := 1) hx hb dX9_next_275 (by decide) ?_
                                have k_1 : (1 : Int32).toInt = 1 := by decide
                                refine lv_iadd hx hb dX9_next_276 ?_
                                refine lv_topi (fun v308 ev308 => ?_)
                                have f309 : v308.toInt = (fI D H305 9 a0 5).toInt + (1 : Int32).toInt := by rw [ev308]; exact i_add (by omega) (by omega)
                                refine q_put (T := TX9) C S305 ga0 5 kF_X9_28 dX9_next_277 rfl rfl (by decide) (by decide) rfl rfl rfl rfl rfl (vok_i rfl (by omega) (by omega)) (by decide +kernel) (fun H310 L310 S310 P310 => ?_)
                                refine lv_goto (tgt := 188) hx hb dX9_next_280 (by decide) ?_
                                have bk : (fI D H310 9 a0 5).toInt = _ := congrArg Int32.toInt (Pt.i P310)
                                exact ih188  H310 L310 ls S310 (⟨by rw [Pt.o P310 (by decide) (by decide), Pt.o P305 (by decide) (by decide)]; exact u188_0.1, by rw [Pt.o P310 (by decide) (by decide), Pt.o P305 (by decide) (by decide)]; exact u188_0.2.1, by rw [show (fI D H310 9 a0 5).toInt.toNat - bb = ((fI D H_188 9 a0 5).toInt.toNat - bb) + 1 by omega]; rw [Pt.o P310 (by decide) (by decide), Pt.i P305]; first | exact (nvk_b (by omega)) | (rw [← nvk_s (k := (fI D H_188 9 a0 5).toInt.toNat - bb) (by omega) u188_0.2.2.1 (show T.1 (bb + ((fI D H_188 9 a0 5).toInt.toNat - bb)) = _ from (congrArg T.1 (by omega)).trans td)]; omega), by omega, fun i h1 h2 => if h9 : (i : Int) < (fI D H_188 9 a0 5).toInt then u188_0.2.2.2.2 i h1 h9 else by rw [show i = (fI D H_188 9 a0 5).toInt.toNat by omega]; exact tq⟩) (by omega) (lv_sub hl [0] rfl)
                    have rn : 0 ≤ (fI D H276 9 a0 5).toInt ∧ (fI D H276 9 a0 5).toInt ≤ 400 := S276.1.rng ga0 rfl (by decide) rfl
                    exact Lp188 402  H276 L276 ls S276 (⟨by rw [Pt.o P276 (by decide) (by decide), Pt.o P168 (by decide) (by decide), Pt.i P167]; omega, by rw [Pt.i P276]; decide, by rw [Pt.o P276 (by decide) (by decide), Pt.i P168, show (fI D H276 9 a0 5).toInt.toNat - bb = 0 by rw [Pt.o P276 (by decide) (by decide), Pt.o P168 (by decide) (by decide), Pt.o P167 (by decide) (by decide)]; omega]; rfl, by rw [Pt.o P276 (by decide) (by decide), Pt.o P168 (by decide) (by decide), Pt.o P167 (by decide) (by decide)]; omega, fun i h1 h2 => by rw [Pt.o P276 (by decide) (by decide), Pt.o P168 (by decide) (by decide), Pt.o P167 (by decide) (by decide)] at h2; omega⟩)  (by omega) (lv_sub hl [0] rfl)
              · have b245 : ¬ (122 : Int32).toInt < v244.toInt := fun z9 => c245 (i_lt.mpr z9)
                have tw : tle T bb = true := tle_t.mpr (by omega)
                refine lv_aload_n hx hb dX9_next_98 rfl (lv_at hl 0 rfl) ?_
                refine lv_iconst (v := 1) hx hb dX9_next_99 (by decide) ?_
                have k_1 : (1 : Int32).toInt = 1 := by decide
                refine q_put (T := TX9) C S168 ga0 3 kF_X9_22 dX9_next_100 rfl rfl (by decide) (by decide) rfl rfl rfl rfl rfl (vok_a rfl) (by decide +kernel) (fun H311 L311 S311 P311 => ?_)
                have Lp103 : ∀ (n : Nat)  (H_103 : Heap) (L_103 : List Loc) (ls : Array Slot), (Sd D G [(2, 3), (2, 4), (2, 5), (2, 6)] s.heap H_103 L_103) → ((fI D H_103 9 a0 4).toInt = bb ∧ (fI D H_103 9 a0 3).toInt = 1 ∧ (bb : Int) ≤ (fI D H_103 9 a0 5).toInt ∧ ∀ i : Nat, bb ≤ i → (i : Int) < (fI D H_103 9 a0 5).toInt → tle T i = true) → 401 - (fI D H_103 9 a0 5).toInt ≤ (n : Int) → lv_has ls 1 [(0, .ref a0)] → W p l e (rmU 0 0 0) s m args below meth c H_103 L_103 0 0 Q (F0 m 103 ls []) := by
                  intro n
                  induction n with
                  | zero =>
                    intro H_103 L_103 ls S_103 u103_0 hn hl
                    have rz : 0 ≤ (fI D H_103 9 a0 5).toInt ∧ (fI D H_103 9 a0 5).toInt ≤ 400 := S_103.1.rng ga0 rfl (by decide) rfl
                    exact absurd hn (by omega)
                  | succ n ih103 =>
                    intro H_103 L_103 ls S_103 u103_0 hn hl
                    refine lv_aload_n hx hb dX9_next_103 rfl (lv_at hl 0 rfl) ?_
                    refine q_gi (T := TX9) C S_103.1 ga0 5 kF_X9_28 dX9_next_104 rfl rfl (by decide) rfl (by decide) rfl ?_
                    have r312 : 0 ≤ (fI D H_103 9 a0 5).toInt ∧ (fI D H_103 9 a0 5).toInt ≤ 400 := S_103.1.rng ga0 rfl (by decide) rfl
                    refine lv_aload_n hx hb dX9_next_107 rfl (lv_at hl 0 rfl) ?_
                    refine q_gi (T := TX9) C S_103.1 ga0 1 kF_X9_15 dX9_next_108 rfl rfl (by decide) rfl (by decide) rfl ?_
                    have r313 : 0 ≤ (fI D H_103 9 a0 1).toInt ∧ (fI D H_103 9 a0 1).toInt ≤ 400 := S_103.1.rng ga0 rfl (by decide) rfl
                    have tl : T.2 = (fI D H_103 9 a0 1).toInt.toNat := (congrArg Prod.snd ((tT_keep hO ga0 S_103.2.1 (by decide) (by decide) (by decide)).trans hpre.1)).symm
                    refine lv_icmp_ge (tgt := 311) hx hb dX9_next_111 (by decide) (fun c314 => ?_) (fun c314 => ?_)
                    · have b314 : (fI D H_103 9 a0 1).toInt ≤ (fI D H_103 9 a0 5).toInt := i_le.mp c314
                      exact retE_v hQ C S_103 hr dX9_next_311 (by rw [s9]; have kw := kd_w.mpr tw; have rf : rn (tle T) 500 bb = (fI D H_103 9 a0 5).toInt.toNat := rn_of (tle_f.mpr (by omega)) 500 bb (by omega) (fun i h1 h2 => u103_0.2.2.2 i h1 (by omega)) (by omega); exact ⟨⟨((tT_keep hO ga0 S_103.2.1 (by decide) (by decide) (by decide)).trans hpre.1), (by rw [S_103.2.1.fI ga0 rfl (by decide) (by decide)]; exact hpre.2.1), by rw [af_w kw, rf]; omega⟩, by rw [kw]; exact u103_0.2.1, u103_0.1, fun h => absurd h (by rw [kw]; decide), fun h => absurd h (by rw [kw]; decide)⟩)
                    · have b314 : ¬ (fI D H_103 9 a0 1).toInt ≤ (fI D H_103 9 a0 5).toInt := fun z9 => c314 (i_le.mpr z9)
                      refine lv_aload_n hx hb dX9_next_114 rfl (lv_at hl 0 rfl) ?_
                      refine q_gr (T := TX9) C S_103.1 ga0 0 kF_X9_11 dX9_next_115 rfl rfl (by decide) rfl (by decide) rfl (fun g315 => ?_)
                      refine lv_aload_n hx hb dX9_next_118 rfl (lv_at hl 0 rfl) ?_
                      refine q_gi (T := TX9) C S_103.1 ga0 5 kF_X9_28 dX9_next_119 rfl rfl (by decide) rfl (by decide) rfl ?_
                      have n316 : aN H_103 (fR D H_103 9 a0 0) = 400 := len_3 S_103.1 g315
                      refine q_iald C S_103.1 g315 (by omega) (by omega) dX9_next_122 rfl (by decide) ?_
                      refine lv_topi (fun v317 ev317 => ?_)
                      have tav317 : v317.toInt = (eI H_103 (fR D H_103 9 a0 0) (fI D H_103 9 a0 5).toInt.toNat).toInt := by rw [ev317]
                      have tvv317 : T.1 (fI D H_103 9 a0 5).toInt.toNat = nrm (eI H_103 (fR D H_103 9 a0 0) (fI D H_103 9 a0 5).toInt.toNat).toInt := (congrFun (congrArg Prod.fst ((tT_keep hO ga0 S_103.2.1 (by decide) (by decide) (by decide)).trans hpre.1)) _).symm
                      have tnv317 := nrm_d (eI H_103 (fR D H_103 9 a0 0) (fI D H_103 9 a0 5).toInt.toNat).toInt
                      refine lv_bipush (v := 97) hx hb dX9_next_123 (by decide) ?_
                      refine lv_icmp_lt (tgt := 311) hx hb dX9_next_125 (by decide) (fun c318 => ?_) (fun c318 => ?_)
                      · have b318 : v317.toInt < (97 : Int32).toInt := i_lt.mp c318
                        exact retE_v hQ C S_103 hr dX9_next_311 (by rw [s9]; have kw := kd_w.mpr tw; have rf : rn (tle T) 500 bb = (fI D H_103 9 a0 5).toInt.toNat := rn_of (tle_f.mpr (by omega)) 500 bb (by omega) (fun i h1 h2 => u103_0.2.2.2 i h1 (by omega)) (by omega); exact ⟨⟨((tT_keep hO ga0 S_103.2.1 (by decide) (by decide) (by decide)).trans hpre.1), (by rw [S_103.2.1.fI ga0 rfl (by decide) (by decide)]; exact hpre.2.1), by rw [af_w kw, rf]; omega⟩, by rw [kw]; exact u103_0.2.1, u103_0.1, fun h => absurd h (by rw [kw]; decide), fun h => absurd h (by rw [kw]; decide)⟩)
                      · have b318 : ¬ v317.toInt < (97 : Int32).toInt := fun z9 => c318 (i_lt.mpr z9)
                        refine lv_aload_n hx hb dX9_next_128 rfl (lv_at hl 0 rfl) ?_
                        refine q_gr (T := TX9) C S_103.1 ga0 0 kF_X9_11 dX9_next_129 rfl rfl (by decide) rfl (by decide) rfl (fun g319 => ?_)
                        refine lv_aload_n hx hb dX9_next_132 rfl (lv_at hl 0 rfl) ?_
                        refine q_gi (T := TX9) C S_103.1 ga0 5 kF_X9_28 dX9_next_133 rfl rfl (by decide) rfl (by decide) rfl ?_
                        refine q_iald C S_103.1 g319 (by omega) (by omega) dX9_next_136 rfl (by decide) ?_
                        refine lv_topi (fun v320 ev320 => ?_)
                        have tav320 : v320.toInt = (eI H_103 (fR D H_103 9 a0 0) (fI D H_103 9 a0 5).toInt.toNat).toInt := by rw [ev320]
                        have tvv320 : T.1 (fI D H_103 9 a0 5).toInt.toNat = nrm (eI H_103 (fR D H_103 9 a0 0) (fI D H_103 9 a0 5).toInt.toNat).toInt := (congrFun (congrArg Prod.fst ((tT_keep hO ga0 S_103.2.1 (by decide) (by decide) (by decide)).trans hpre.1)) _).symm
                        have tnv320 := nrm_d (eI H_103 (fR D H_103 9 a0 0) (fI D H_103 9 a0 5).toInt.toNat).toInt
                        refine lv_bipush (v := 122) hx hb dX9_next_137 (by decide) ?_
                        refine lv_icmp_gt (tgt := 311) hx hb dX9_next_139 (by decide) (fun c321 => ?_) (fun c321 => ?_)
                        · have b321 : (122 : Int32).toInt < v320.toInt := i_lt.mp c321
                          exact retE_v hQ C S_103 hr dX9_next_311 (by rw [s9]; have kw := kd_w.mpr tw; have rf : rn (tle T) 500 bb = (fI D H_103 9 a0 5).toInt.toNat := rn_of (tle_f.mpr (by omega)) 500 bb (by omega) (fun i h1 h2 => u103_0.2.2.2 i h1 (by omega)) (by omega); exact ⟨⟨((tT_keep hO ga0 S_103.2.1 (by decide) (by decide) (by decide)).trans hpre.1), (by rw [S_103.2.1.fI ga0 rfl (by decide) (by decide)]; exact hpre.2.1), by rw [af_w kw, rf]; omega⟩, by rw [kw]; exact u103_0.2.1, u103_0.1, fun h => absurd h (by rw [kw]; decide), fun h => absurd h (by rw [kw]; decide)⟩)
                        · have b321 : ¬ (122 : Int32).toInt < v320.toInt := fun z9 => c321 (i_lt.mpr z9)
                          have tq : tle T (fI D H_103 9 a0 5).toInt.toNat = true := tle_t.mpr (by omega)
                          refine lv_aload_n hx hb dX9_next_142 rfl (lv_at hl 0 rfl) ?_
                          refine lv_dup hx hb dX9_next_143 rfl ?_
                          refine q_gi (T := TX9) C S_103.1 ga0 5 kF_X9_28 dX9_next_144 rfl rfl (by decide) rfl (by decide) rfl ?_
                          refine lv_iconst (v := 1) hx hb dX9_next_147 (by decide) ?_
                          refine lv_iadd hx hb dX9_next_148 ?_
                          refine lv_topi (fun v322 ev322 => ?_)
                          have f323 : v322.toInt = (fI D H_103 9 a0 5).toInt + (1 : Int32).toInt := by rw [ev322]; exact i_add (by omega) (by omega)
                          refine q_put (T := TX9) C S_103 ga0 5 kF_X9_28 dX9_next_149 rfl rfl (by decide) (by decide) rfl rfl rfl rfl rfl (vok_i rfl (by omega) (by omega)) (by decide +kernel) (fun H324 L324 S324 P324 => ?_)
                          refine lv_goto (tgt := 103) hx hb dX9_next_152 (by decide) ?_
                          have bk : (fI D H324 9 a0 5).toInt = _ := congrArg Int32.toInt (Pt.i P324)
                          exact ih103  H324 L324 ls S324 (⟨by rw [Pt.o P324 (by decide) (by decide)]; exact u103_0.1, by rw [Pt.o P324 (by decide) (by decide)]; exact u103_0.2.1, by omega, fun i h1 h2 => if h9 : (i : Int) < (fI D H_103 9 a0 5).toInt then u103_0.2.2.2 i h1 h9 else by rw [show i = (fI D H_103 9 a0 5).toInt.toNat by omega]; exact tq⟩) (by omega) (lv_sub hl [0] rfl)
                have rn : 0 ≤ (fI D H311 9 a0 5).toInt ∧ (fI D H311 9 a0 5).toInt ≤ 400 := S311.1.rng ga0 rfl (by decide) rfl
                exact Lp103 402  H311 L311 ls S311 (⟨by rw [Pt.o P311 (by decide) (by decide), Pt.o P168 (by decide) (by decide), Pt.i P167]; omega, by rw [Pt.i P311]; decide, by rw [Pt.o P311 (by decide) (by decide), Pt.o P168 (by decide) (by decide), Pt.o P167 (by decide) (by decide)]; omega, fun i h1 h2 => by rw [Pt.o P311 (by decide) (by decide), Pt.o P168 (by decide) (by decide), Pt.o P167 (by decide) (by decide)] at h2; omega⟩)  (by omega) (lv_sub hl [0] rfl)
          · have b173 : ¬ (fI D H168 9 a0 5).toInt < (fI D H168 9 a0 1).toInt := fun z9 => c173 (i_lt.mpr z9)
            refine lv_aload_n hx hb dX9_next_62 rfl (lv_at hl 0 rfl) ?_
            refine lv_iconst (v := 0) hx hb dX9_next_63 (by decide) ?_
            refine q_put (T := TX9) C S168 ga0 3 kF_X9_22 dX9_next_64 rfl rfl (by decide) (by decide) rfl rfl rfl rfl rfl (vok_a rfl) (by decide +kernel) (fun H325 L325 S325 P325 => ?_)
            refine lv_goto (tgt := 311) hx hb dX9_next_67 (by decide) ?_
            exact retE_v hQ C S325 hr dX9_next_311 (by rw [s9]; have kw : kd T bb = 0 := kd_e.mpr (by omega); exact ⟨⟨((tT_keep hO ga0 S325.2.1 (by decide) (by decide) (by decide)).trans hpre.1), (by rw [S325.2.1.fI ga0 rfl (by decide) (by decide)]; exact hpre.2.1), by rw [Pt.o P325 (by decide) (by decide), Pt.o P168 (by decide) (by decide), Pt.o P167 (by decide) (by decide), af_e kw]; omega⟩, by rw [Pt.i P325, kw]; decide, by rw [Pt.o P325 (by decide) (by decide), Pt.o P168 (by decide) (by decide), Pt.i P167]; omega, fun h => absurd h (by rw [kw]; decide), fun h => absurd h (by rw [kw]; decide)⟩)
        · have b166 : v165.toInt = (32 : Int32).toInt := i_eq.mp c166
          have tq : tbl T (fI D H_0 9 a0 5).toInt.toNat = true := tbl_t.mpr (by omega)
          refine lv_aload_n hx hb dX9_next_25 rfl (lv_at hl 0 rfl) ?_
          refine lv_dup hx hb dX9_next_26 rfl ?_
          refine q_gi (T := TX9) C S_0.1 ga0 5 kF_X9_28 dX9_next_27 rfl rfl (by decide) rfl (by decide) rfl ?_
          refine lv_iconst (v := 1) hx hb dX9_next_30 (by decide) ?_
          have k_1 : (1 : Int32).toInt = 1 := by decide
          refine lv_iadd hx hb dX9_next_31 ?_
          refine lv_topi (fun v326 ev326 => ?_)
          have f327 : v326.toInt = (fI D H_0 9 a0 5).toInt + (1 : Int32).toInt := by rw [ev326]; exact i_add (by omega) (by omega)
          refine q_put (T := TX9) C S_0 ga0 5 kF_X9_28 dX9_next_32 rfl rfl (by decide) (by decide) rfl rfl rfl rfl rfl (vok_i rfl (by omega) (by omega)) (by decide +kernel) (fun H328 L328 S328 P328 => ?_)
          refine lv_goto (tgt := 0) hx hb dX9_next_35 (by decide) ?_
          have bk : (fI D H328 9 a0 5).toInt = _ := congrArg Int32.toInt (Pt.i P328)
          exact ih0  H328 L328 ls S328 (⟨by omega, fun i h1 h2 => if h9 : (i : Int) < (fI D H_0 9 a0 5).toInt then u0_0.2 i h1 h9 else by rw [show i = (fI D H_0 9 a0 5).toInt.toNat by omega]; exact tq⟩) (by omega) (lv_sub hl [0] rfl)
  have rn : 0 ≤ (fI D s.heap 9 a0 5).toInt ∧ (fI D s.heap 9 a0 5).toInt ≤ 400 := S.1.rng ga0 rfl (by decide) rfl
  exact Lp0 402  s.heap [] ls S (⟨by have := hpre.2.2; omega, fun i h1 h2 => by have := hpre.2.2; omega⟩)  (by omega) (lv_sub hl [0] rfl)


theorem c_X9_next_f (l : Launch) (D : DD) (G : Nat → Nat) (a0 : Nat) (T : Tx) (b : Nat) (ga0 : G a0 = 2) : CE l D G yX9_next cX9_next 1 none 0 [.ref a0] (fun H => (True) ∧ (TS D H a0 T b)) [(2, 3), (2, 4), (2, 5), (2, 6)] (xV (fun H H1 => (True) ∧ (TS D H1 a0 T (nx T b)))) :=
  CE.weak (c_X9_next_p l D G a0 T (af T b) ga0) (fun H hO hg => hg.2.1) (fun H v H1 _ _ _ _ hq => by obtain ⟨e, h⟩ := hq; exact ⟨e, trivial, h⟩)

set_option maxRecDepth 100000 in
set_option maxHeartbeats 4000000 in
theorem c_X9_rewind_f (l : Launch) (D : DD) (G : Nat → Nat) (a0 : Nat) (T : Tx) (ga0 : G a0 = 2) : CE l D G yX9_rewind cX9_rewind 1 none 1 [.ref a0] (fun H => (True) ∧ (tT D H a0 = T)) [(2, 3), (2, 4), (2, 5), (2, 6), (2, 2)] (xV (fun H H1 => (True) ∧ (TS D H1 a0 T (sk T 0)))) := by
  refine enter (by decide) (Nat.le_of_ble_eq_true rfl) ?_
  intro p e s m args below meth c ls Q hA hQ C hr hO hpre hl
  have hx := C.1
  have hb := C.2.1
  have S : Sd D G [(2, 3), (2, 4), (2, 5), (2, 6), (2, 2)] s.heap s.heap [] := Sd.start hO
  have hl : lv_has ls 1 [(0, .ref a0)] := hl
  obtain ⟨hpre, hf⟩ := hpre
  have hT0 := hf
  refine lv_aload_n hx hb dX9_rewind_0 rfl (lv_at hl 0 rfl) ?_
  refine lv_iconst (v := -1) hx hb dX9_rewind_1 (by decide) ?_
  have k_m1 : (-1 : Int32).toInt = -1 := by decide
  refine q_put (T := TX9) C S ga0 2 kF_X9_19 dX9_rewind_2 rfl rfl (by decide) (by decide) rfl rfl rfl rfl rfl (vok_a rfl) (by decide +kernel) (fun H1 L1 S1 P1 => ?_)
  refine lv_aload_n hx hb dX9_rewind_5 rfl (lv_at hl 0 rfl) ?_
  refine lv_iconst (v := 0) hx hb dX9_rewind_6 (by decide) ?_
  have k_0 : (0 : Int32).toInt = 0 := by decide
  refine q_put (T := TX9) C S1 ga0 5 kF_X9_28 dX9_rewind_7 rfl rfl (by decide) (by decide) rfl rfl rfl rfl rfl (vok_i rfl (by omega) (by omega)) (by decide +kernel) (fun H2 L2 S2 P2 => ?_)
  refine lv_aload_n hx hb dX9_rewind_10 rfl (lv_at hl 0 rfl) ?_
  refine callV_Ev C S2 (c_X9_next_p l D G a0 T 0 ga0) kV_X9_34 ga0 (⟨(tT_keep hO ga0 S2.2.1 (by decide) (by decide) (by decide)).trans hT0, by rw [Pt.o P2 (by decide) (by decide), Pt.i P1]; decide, by rw [Pt.i P2]; decide⟩) (by decide +kernel) dX9_rewind_11 hl.1 rfl rfl (by decide) cd_X9_next ⟨Nat.le_of_ble_eq_true rfl, Nat.le_of_ble_eq_true rfl, Nat.le_of_ble_eq_true rfl, Nat.le_of_ble_eq_true rfl, Nat.le_of_ble_eq_true rfl⟩ (fun H3 L3 S3 K3 q3 => ?_)
  have tsq := q3
  exact retE_v hQ C S3 hr dX9_rewind_14 (⟨trivial, tsq⟩)

set_option maxRecDepth 100000 in
set_option maxHeartbeats 4000000 in
theorem c_X9_isWord_f (l : Launch) (D : DD) (G : Nat → Nat) (a0 : Nat) (a1 n1 : Nat) (w : List Nat) (T : Tx) (b : Nat) (ga0 : G a0 = 2) (sa1 : D.1.2 99 a1 = n1 + 1) (hw : Wc D a1 n1 w) : CP l D G yX9_isWord cX9_isWord 3 (some .boolean) 4 [.ref a0, .ref a1] (fun H => (True) ∧ (TS D H a0 T b)) (pI (fun H r => (0 ≤ r.toInt ∧ r.toInt ≤ 1) ∧ ((r.toInt = 1 ∧ isW T b w = true) ∨ (r.toInt = 0 ∧ isW T b w = false)))) := by
  refine enter (by decide) (Nat.le_of_ble_eq_true rfl) ?_
  intro p e s m args below meth c ls Q hA hQ C hr hO hpre hl
  have hx := C.1
  have hb := C.2.1
  have hl : lv_has ls 3 [(0, .ref a0), (1, .ref a1)] := hl
  obtain ⟨hpre, hf⟩ := hpre
  have ts0 := hf
  have hT : T.2 ≤ 400 := ts0.le hO ga0
  have tbg := ts0.2.2.1
  have tth := ts0.2.1
  have taf := ts0.1.2.2
  have hwl := hw.1
  refine lv_aload_n hx hb dX9_isWord_0 rfl (lv_at hl 0 rfl) ?_
  refine q_gi (T := TX9) C hO ga0 3 kF_X9_22 dX9_isWord_1 rfl rfl (by decide) rfl (by decide) rfl ?_
  refine lv_iconst (v := 1) hx hb dX9_isWord_4 (by decide) ?_
  have k_1 : (1 : Int32).toInt = 1 := by decide
  refine lv_icmp_ne (tgt := 24) hx hb dX9_isWord_5 (by decide) (fun c1 => ?_) (fun c1 => ?_)
  · have b1 : ¬ (fI D s.heap 9 a0 3).toInt = (1 : Int32).toInt := fun z9 => c1 (i_eq.mpr z9)
    refine lv_iconst (v := 0) hx hb dX9_isWord_24 (by decide) ?_
    have k_0 : (0 : Int32).toInt = 0 := by decide
    exact retP_z hQ C hr dX9_isWord_25 (z01 (by omega) (by omega)) (⟨by omega, Or.inr ⟨by omega, Bool.eq_false_iff.mpr (fun z9 => by have z8 := (isW_t.mp z9).1; omega)⟩⟩)
  · have b1 : (fI D s.heap 9 a0 3).toInt = (1 : Int32).toInt := i_eq.mp c1
    refine lv_aload_n hx hb dX9_isWord_8 rfl (lv_at hl 0 rfl) ?_
    refine q_gi (T := TX9) C hO ga0 5 kF_X9_28 dX9_isWord_9 rfl rfl (by decide) rfl (by decide) rfl ?_
    have r2 : 0 ≤ (fI D s.heap 9 a0 5).toInt ∧ (fI D s.heap 9 a0 5).toInt ≤ 400 := hO.rng ga0 rfl (by decide) rfl
    refine lv_aload_n hx hb dX9_isWord_12 rfl (lv_at hl 0 rfl) ?_
    refine q_gi (T := TX9) C hO ga0 4 kF_X9_25 dX9_isWord_13 rfl rfl (by decide) rfl (by decide) rfl ?_
    have r3 : 0 ≤ (fI D s.heap 9 a0 4).toInt ∧ (fI D s.heap 9 a0 4).toInt ≤ 400 := hO.rng ga0 rfl (by decide) rfl
    refine lv_isub hx hb dX9_isWord_16 ?_
    refine lv_topi (fun v4 ev4 => ?_)
    have f5 : v4.toInt = (fI D s.heap 9 a0 5).toInt - (fI D s.heap 9 a0 4).toInt := by rw [ev4]; exact i_sub (by omega) (by omega)
    refine lv_aload_n hx hb dX9_isWord_17 rfl (lv_at hl 1 rfl) ?_
    refine callR_Pi C hO (fun _ _ _ => rfl) (c_J0_length_8abf5 l D G a1 n1 sa1) kV_X9_37 (str_recv C (fun _ _ _ => rfl) sa1) (trivial) dX9_isWord_18 hl.1 cd_J0_length_8abf5 ⟨Nat.le_of_ble_eq_true rfl, Nat.le_of_ble_eq_true rfl, Nat.le_of_ble_eq_true rfl, Nat.le_of_ble_eq_true rfl, Nat.le_of_ble_eq_true rfl⟩ (fun v6 q6 => ?_)
    refine lv_icmp_eq (tgt := 26) hx hb dX9_isWord_21 (by decide) (fun c7 => ?_) (fun c7 => ?_)
    · have b7 : v4.toInt = v6.toInt := i_eq.mp c7
      refine lv_iconst (v := 0) hx hb dX9_isWord_26 (by decide) ?_
      refine lv_istore_n (lv' := [(2, .int (0 : Int32)), (0, .ref a0), (1, .ref a1)]) hx hb dX9_isWord_27 rfl hl (by decide) rfl (fun ls hl => ?_)
      have Lp28 : ∀ (n : Nat) (x2_28 : Int32) (ls : Array Slot), (0 ≤ x2_28.toInt ∧ x2_28.toInt ≤ 400) → (∀ j : Nat, (j : Int) < x2_28.toInt → T.1 (b + j) = ((w.getD j 0 : Nat) : Int)) → 401 - x2_28.toInt ≤ (n : Int) → lv_has ls 3 [(2, .int x2_28), (0, .ref a0), (1, .ref a1)] → W p l e (rmU 4 0 0) s m args below meth c s.heap [] 0 0 Q (F0 m 28 ls []) := by
        intro n
        induction n with
        | zero =>
          intro x2_28 ls j28_0 u28_0 hn hl
          exact absurd hn (by omega)
        | succ n ih28 =>
          intro x2_28 ls j28_0 u28_0 hn hl
          refine lv_iload_n hx hb dX9_isWord_28 rfl (lv_at hl 0 rfl) ?_
          refine lv_aload_n hx hb dX9_isWord_29 rfl (lv_at hl 2 rfl) ?_
          refine callR_Pi C hO (fun _ _ _ => rfl) (c_J0_length_8abf5 l D G a1 n1 sa1) kV_X9_37 (str_recv C (fun _ _ _ => rfl) sa1) (trivial) dX9_isWord_30 hl.1 cd_J0_length_8abf5 ⟨Nat.le_of_ble_eq_true rfl, Nat.le_of_ble_eq_true rfl, Nat.le_of_ble_eq_true rfl, Nat.le_of_ble_eq_true rfl, Nat.le_of_ble_eq_true rfl⟩ (fun v8 q8 => ?_)
          have r10 := i_rng v8
          refine lv_icmp_ge (tgt := 63) hx hb dX9_isWord_33 (by decide) (fun c9 => ?_) (fun c9 => ?_)
          · have b9 : v8.toInt ≤ x2_28.toInt := i_le.mp c9
            refine lv_iconst (v := 1) hx hb dX9_isWord_63 (by decide) ?_
            exact retP_z hQ C hr dX9_isWord_64 (z01 (by omega) (by omega)) (⟨by omega, Or.inl ⟨by omega, isW_t.mpr ⟨⟨by omega, by omega⟩, eqw_t.mpr (fun j hj => u28_0 j (by omega))⟩⟩⟩)
          · have b9 : ¬ v8.toInt ≤ x2_28.toInt := fun z9 => c9 (i_le.mpr z9)
            refine lv_aload_n hx hb dX9_isWord_36 rfl (lv_at hl 1 rfl) ?_
            refine q_gr (T := TX9) C hO ga0 0 kF_X9_11 dX9_isWord_37 rfl rfl (by decide) rfl (by decide) rfl (fun g11 => ?_)
            refine lv_aload_n hx hb dX9_isWord_40 rfl (lv_at hl 1 rfl) ?_
            refine q_gi (T := TX9) C hO ga0 4 kF_X9_25 dX9_isWord_41 rfl rfl (by decide) rfl (by decide) rfl ?_
            refine lv_iload_n hx hb dX9_isWord_44 rfl (lv_at hl 0 rfl) ?_
            refine lv_iadd hx hb dX9_isWord_45 ?_
            refine lv_topi (fun v12 ev12 => ?_)
            have f13 : v12.toInt = (fI D s.heap 9 a0 4).toInt + x2_28.toInt := by rw [ev12]; exact i_add (by omega) (by omega)
            have n14 : aN s.heap (fR D s.heap 9 a0 0) = 400 := len_3 hO g11
            refine q_iald C hO g11 (by omega) (by omega) dX9_isWord_46 rfl (by decide) ?_
            refine lv_topi (fun v15 ev15 => ?_)
            have ta9 : v15.toInt = (eI s.heap (fR D s.heap 9 a0 0) v12.toInt.toNat).toInt := by rw [ev15]
            have tv9 : T.1 (b + x2_28.toInt.toNat) = nrm (eI s.heap (fR D s.heap 9 a0 0) v12.toInt.toNat).toInt := by rw [show (b + x2_28.toInt.toNat) = v12.toInt.toNat by omega]; exact (congrFun (congrArg Prod.fst ts0.1.1) _).symm
            have tn9 := nrm_d (eI s.heap (fR D s.heap 9 a0 0) v12.toInt.toNat).toInt
            refine lv_aload_n hx hb dX9_isWord_47 rfl (lv_at hl 2 rfl) ?_
            refine lv_iload_n hx hb dX9_isWord_48 rfl (lv_at hl 0 rfl) ?_
            refine callR_Pi C hO (fun _ _ _ => rfl) (c_J0_charAt_5068e l D G a1 n1 x2_28 sa1 (by omega)) kV_X9_42 (str_recv C (fun _ _ _ => rfl) sa1) (trivial) dX9_isWord_49 hl.1 cd_J0_charAt_5068e ⟨Nat.le_of_ble_eq_true rfl, Nat.le_of_ble_eq_true rfl, Nat.le_of_ble_eq_true rfl, Nat.le_of_ble_eq_true rfl, Nat.le_of_ble_eq_true rfl⟩ (fun v16 q16 => ?_)
            have cw := hw.2 x2_28.toInt.toNat (by omega)
            rw [cw.1] at q16
            refine lv_icmp_eq (tgt := 57) hx hb dX9_isWord_52 (by decide) (fun c17 => ?_) (fun c17 => ?_)
            · have b17 : v15.toInt = v16.toInt := i_eq.mp c17
              obtain ⟨v18, ev18⟩ : ∃ y : Int32, y = x2_28 + (1) := ⟨_, rfl⟩
              have f19 : v18.toInt = x2_28.toInt + (1) := by rw [ev18]; exact i_addc k_1 (by omega) (by omega)
              refine lv_iinc (v := v18) (lv' := [(2, .int v18), (0, .ref a0), (1, .ref a1)]) hx hb dX9_isWord_57 hl (k := 0) rfl (by rw [ev18]; rfl) (by decide) rfl (fun ls hl => ?_)
              refine lv_goto (tgt := 28) hx hb dX9_isWord_60 (by decide) ?_
              exact ih28 v18 ls (by omega) (fun j hj => if h9 : (j : Int) < x2_28.toInt then u28_0 j h9 else by rw [show j = x2_28.toInt.toNat by omega]; omega) (by omega) (lv_sub hl [0, 1, 2] rfl)
            · have b17 : ¬ v15.toInt = v16.toInt := fun z9 => c17 (i_eq.mpr z9)
              refine lv_iconst (v := 0) hx hb dX9_isWord_55 (by decide) ?_
              have k_0 : (0 : Int32).toInt = 0 := by decide
              exact retP_z hQ C hr dX9_isWord_56 (z01 (by omega) (by omega)) (⟨by omega, Or.inr ⟨by omega, Bool.eq_false_iff.mpr (fun z9 => by have z8 := eqw_t.mp (isW_t.mp z9).2 x2_28.toInt.toNat (by omega); omega)⟩⟩)
      have k_0 : (0 : Int32).toInt = 0 := by decide
      exact Lp28 401 (0 : Int32) ls (by omega) (fun j hj => by omega)  (by omega) (lv_sub hl [0, 1, 2] rfl)
    · have b7 : ¬ v4.toInt = v6.toInt := fun z9 => c7 (i_eq.mpr z9)
      refine lv_iconst (v := 0) hx hb dX9_isWord_24 (by decide) ?_
      have k_0 : (0 : Int32).toInt = 0 := by decide
      exact retP_z hQ C hr dX9_isWord_25 (z01 (by omega) (by omega)) (⟨by omega, Or.inr ⟨by omega, Bool.eq_false_iff.mpr (fun z9 => by have z8 := (isW_t.mp z9).1; omega)⟩⟩)

set_option maxRecDepth 100000 in
set_option maxHeartbeats 4000000 in
theorem c_X9_isSign_f (l : Launch) (D : DD) (G : Nat → Nat) (a0 : Nat) (x1 : Int32) (ch : Int) (T : Tx) (b : Nat) (ga0 : G a0 = 2) (hch : x1.toInt = ch) (hc : sgn ch) : CP l D G yX9_isSign cX9_isSign 2 (some .boolean) 0 [.ref a0, .int x1] (fun H => (True) ∧ (TS D H a0 T b)) (pI (fun H r => (0 ≤ r.toInt ∧ r.toInt ≤ 1) ∧ ((r.toInt = 1 ∧ isS T b ch = true) ∨ (r.toInt = 0 ∧ isS T b ch = false)))) := by
  refine enter (by decide) (Nat.le_of_ble_eq_true rfl) ?_
  intro p e s m args below meth c ls Q hA hQ C hr hO hpre hl
  have hx := C.1
  have hb := C.2.1
  have hl : lv_has ls 2 [(0, .ref a0), (1, .int x1)] := hl
  obtain ⟨hpre, hf⟩ := hpre
  have ts0 := hf
  have hT : T.2 ≤ 400 := ts0.le hO ga0
  have tth := ts0.2.1
  refine lv_aload_n hx hb dX9_isSign_0 rfl (lv_at hl 0 rfl) ?_
  refine q_gi (T := TX9) C hO ga0 3 kF_X9_22 dX9_isSign_1 rfl rfl (by decide) rfl (by decide) rfl ?_
  refine lv_iconst (v := 3) hx hb dX9_isSign_4 (by decide) ?_
  have k_3 : (3 : Int32).toInt = 3 := by decide
  refine lv_icmp_ne (tgt := 20) hx hb dX9_isSign_5 (by decide) (fun c1 => ?_) (fun c1 => ?_)
  · have b1 : ¬ (fI D s.heap 9 a0 3).toInt = (3 : Int32).toInt := fun z9 => c1 (i_eq.mpr z9)
    refine lv_iconst (v := 0) hx hb dX9_isSign_20 (by decide) ?_
    have k_0 : (0 : Int32).toInt = 0 := by decide
    exact retP_z hQ C hr dX9_isSign_21 (z01 (by omega) (by omega)) (⟨by omega, Or.inr ⟨by omega, Bool.eq_false_iff.mpr (fun z9 => by have z7 : 0 ≤ ch ∧ ch ≤ 127 := hc.1; have z6 := nrm_d (fI D s.heap 9 a0 6).toInt; have k9 := isS_k hc z9; have z5 := ts0.2.2.2.2 k9; have z4 := (isS_t.mp z9).2; omega)⟩⟩)
  · have b1 : (fI D s.heap 9 a0 3).toInt = (3 : Int32).toInt := i_eq.mp c1
    refine lv_aload_n hx hb dX9_isSign_8 rfl (lv_at hl 0 rfl) ?_
    refine q_gi (T := TX9) C hO ga0 6 kF_X9_31 dX9_isSign_9 rfl rfl (by decide) rfl (by decide) rfl ?_
    refine lv_iload_n hx hb dX9_isSign_12 rfl (lv_at hl 1 rfl) ?_
    refine lv_icmp_ne (tgt := 20) hx hb dX9_isSign_13 (by decide) (fun c2 => ?_) (fun c2 => ?_)
    · have b2 : ¬ (fI D s.heap 9 a0 6).toInt = x1.toInt := fun z9 => c2 (i_eq.mpr z9)
      refine lv_iconst (v := 0) hx hb dX9_isSign_20 (by decide) ?_
      have k_0 : (0 : Int32).toInt = 0 := by decide
      exact retP_z hQ C hr dX9_isSign_21 (z01 (by omega) (by omega)) (⟨by omega, Or.inr ⟨by omega, Bool.eq_false_iff.mpr (fun z9 => by have z7 : 0 ≤ ch ∧ ch ≤ 127 := hc.1; have z6 := nrm_d (fI D s.heap 9 a0 6).toInt; have k9 := isS_k hc z9; have z5 := ts0.2.2.2.2 k9; have z4 := (isS_t.mp z9).2; omega)⟩⟩)
    · have b2 : (fI D s.heap 9 a0 6).toInt = x1.toInt := i_eq.mp c2
      refine lv_iconst (v := 1) hx hb dX9_isSign_16 (by decide) ?_
      refine lv_goto (tgt := 21) hx hb dX9_isSign_17 (by decide) ?_
      have k_1 : (1 : Int32).toInt = 1 := by decide
      exact retP_z hQ C hr dX9_isSign_21 (z01 (by omega) (by omega)) (⟨by omega, by have z7 : 0 ≤ ch ∧ ch ≤ 127 := hc.1; have z6 := nrm_d (fI D s.heap 9 a0 6).toInt; have z5 := ts0.2.2.2.2 (by omega); exact Or.inl ⟨by omega, isS_t.mpr ⟨kd_b (by omega), by omega⟩⟩⟩)

set_option maxRecDepth 100000 in
set_option maxHeartbeats 4000000 in
theorem c_X9_refuse_f (l : Launch) (D : DD) (G : Nat → Nat) (a0 : Nat) (T : Tx) (b : Nat) (ga0 : G a0 = 2) : CE l D G yX9_refuse cX9_refuse 1 (some .boolean) 0 [.ref a0] (fun H => (True) ∧ (TS D H a0 T b)) [(2, 2)] (xI (fun H r H1 => (0 ≤ r.toInt ∧ r.toInt ≤ 1) ∧ (r.toInt = 0 ∧ (fI D H1 9 a0 2).toInt = ((b : Nat) : Int)))) := by
  refine enter (by decide) (Nat.le_of_ble_eq_true rfl) ?_
  intro p e s m args below meth c ls Q hA hQ C hr hO hpre hl
  have hx := C.1
  have hb := C.2.1
  have S : Sd D G [(2, 2)] s.heap s.heap [] := Sd.start hO
  have hl : lv_has ls 1 [(0, .ref a0)] := hl
  obtain ⟨hpre, hf⟩ := hpre
  have ts0 := hf
  have hT : T.2 ≤ 400 := ts0.le hO ga0
  refine lv_aload_n hx hb dX9_refuse_0 rfl (lv_at hl 0 rfl) ?_
  refine lv_aload_n hx hb dX9_refuse_1 rfl (lv_at hl 0 rfl) ?_
  refine q_gi (T := TX9) C S.1 ga0 4 kF_X9_25 dX9_refuse_2 rfl rfl (by decide) rfl (by decide) rfl ?_
  have r1 : 0 ≤ (fI D s.heap 9 a0 4).toInt ∧ (fI D s.heap 9 a0 4).toInt ≤ 400 := S.1.rng ga0 rfl (by decide) rfl
  refine q_put (T := TX9) C S ga0 2 kF_X9_19 dX9_refuse_5 rfl rfl (by decide) (by decide) rfl rfl rfl rfl rfl (vok_a rfl) (by decide +kernel) (fun H2 L2 S2 P2 => ?_)
  refine lv_iconst (v := 0) hx hb dX9_refuse_8 (by decide) ?_
  have k_0 : (0 : Int32).toInt = 0 := by decide
  exact retE_z hQ C S2 hr dX9_refuse_9 (z01 (by omega) (by omega)) (⟨by omega, ⟨by omega, by rw [Pt.i P2]; exact ts0.2.2.1⟩⟩)

set_option maxRecDepth 100000 in
set_option maxHeartbeats 4000000 in
theorem c_X9_takeSign_f (l : Launch) (D : DD) (G : Nat → Nat) (a0 : Nat) (x1 : Int32) (ch : Int) (T : Tx) (b : Nat) (ga0 : G a0 = 2) (hch : x1.toInt = ch) (hc : sgn ch) : CE l D G yX9_takeSign cX9_takeSign 2 (some .boolean) 1 [.ref a0, .int x1] (fun H => (True) ∧ (TS D H a0 T b)) [(2, 3), (2, 4), (2, 5), (2, 6), (2, 2)] (xI (fun H r H1 => (0 ≤ r.toInt ∧ r.toInt ≤ 1) ∧ (Rs D H1 a0 T (tkS T b ch) r))) := by
  refine enter (by decide) (Nat.le_of_ble_eq_true rfl) ?_
  intro p e s m args below meth c ls Q hA hQ C hr hO hpre hl
  have hx := C.1
  have hb := C.2.1
  have S : Sd D G [(2, 3), (2, 4), (2, 5), (2, 6), (2, 2)] s.heap s.heap [] := Sd.start hO
  have hl : lv_has ls 2 [(0, .ref a0), (1, .int x1)] := hl
  obtain ⟨hpre, hf⟩ := hpre
  have ts0 := hf
  have hT : T.2 ≤ 400 := ts0.le hO ga0
  refine lv_aload_n hx hb dX9_takeSign_0 rfl (lv_at hl 0 rfl) ?_
  refine lv_iload_n hx hb dX9_takeSign_1 rfl (lv_at hl 1 rfl) ?_
  refine callV_Pi C S.1 S.2.1.2.1 (c_X9_isSign_f l D G a0 x1 ch T b ga0 hch hc) kV_X9_54 ga0 (⟨trivial, ts0⟩) dX9_takeSign_2 hl.1 rfl rfl (by decide) cd_X9_isSign ⟨Nat.le_of_ble_eq_true rfl, Nat.le_of_ble_eq_true rfl, Nat.le_of_ble_eq_true rfl, Nat.le_of_ble_eq_true rfl, Nat.le_of_ble_eq_true rfl⟩ (fun v1 q1 => ?_)
  obtain ⟨q1, fq1⟩ := q1
  rcases fq1 with ⟨z1, y1⟩ | ⟨z1, y1⟩
  · skip
    have k_0 : (0 : Int32).toInt = 0 := by decide
    refine lv_if_ne (tgt := 13) hx hb dX9_takeSign_5 (by decide) (fun c2 => ?_) (fun c2 => ?_)
    · have b2 : ¬ v1.toInt = (0 : Int32).toInt := fun z9 => c2 (i_eq.mpr z9)
      refine lv_aload_n hx hb dX9_takeSign_13 rfl (lv_at hl 0 rfl) ?_
      refine callV_Ev C S (c_X9_next_f l D G a0 T b ga0) kV_X9_34 ga0 (⟨trivial, ts0⟩) (by decide +kernel) dX9_takeSign_14 hl.1 rfl rfl (by decide) cd_X9_next ⟨Nat.le_of_ble_eq_true rfl, Nat.le_of_ble_eq_true rfl, Nat.le_of_ble_eq_true rfl, Nat.le_of_ble_eq_true rfl, Nat.le_of_ble_eq_true rfl⟩ (fun H3 L3 S3 K3 q3 => ?_)
      obtain ⟨q3, fq3⟩ := q3
      refine lv_iconst (v := 1) hx hb dX9_takeSign_17 (by decide) ?_
      have k_1 : (1 : Int32).toInt = 1 := by decide
      exact retE_z hQ C S3 hr dX9_takeSign_18 (z01 (by omega) (by omega)) (⟨by omega, Rs.ok (by simp [tkS, y1]) (by omega) fq3⟩)
    · have b2 : v1.toInt = (0 : Int32).toInt := i_eq.mp c2
      exact absurd b2 (by omega)
  · skip
    have k_0 : (0 : Int32).toInt = 0 := by decide
    refine lv_if_ne (tgt := 13) hx hb dX9_takeSign_5 (by decide) (fun c4 => ?_) (fun c4 => ?_)
    · have b4 : ¬ v1.toInt = (0 : Int32).toInt := fun z9 => c4 (i_eq.mpr z9)
      exact absurd b4 (by omega)
    · have b4 : v1.toInt = (0 : Int32).toInt := i_eq.mp c4
      refine lv_aload_n hx hb dX9_takeSign_8 rfl (lv_at hl 0 rfl) ?_
      refine callV_Ei C S (c_X9_refuse_f l D G a0 T b ga0) kV_X9_50 ga0 (⟨trivial, ts0⟩) (by decide +kernel) dX9_takeSign_9 hl.1 rfl rfl (by decide) cd_X9_refuse ⟨Nat.le_of_ble_eq_true rfl, Nat.le_of_ble_eq_true rfl, Nat.le_of_ble_eq_true rfl, Nat.le_of_ble_eq_true rfl, Nat.le_of_ble_eq_true rfl⟩ (fun v5 H5 L5 S5 K5 q5 => ?_)
      obtain ⟨q5, fq5⟩ := q5
      have z5 := fq5.1
      exact retE_z hQ C S5 hr dX9_takeSign_12 (z01 (by omega) (by omega)) (⟨by omega, Rs.no (by simp [tkS, y1]) (by omega) fq5.2⟩)

set_option maxRecDepth 100000 in
set_option maxHeartbeats 4000000 in
theorem c_X9_takeWord_f (l : Launch) (D : DD) (G : Nat → Nat) (a0 : Nat) (a1 n1 : Nat) (w : List Nat) (T : Tx) (b : Nat) (ga0 : G a0 = 2) (sa1 : D.1.2 99 a1 = n1 + 1) (hw : Wc D a1 n1 w) : CE l D G yX9_takeWord cX9_takeWord 2 (some .boolean) 5 [.ref a0, .ref a1] (fun H => (True) ∧ (TS D H a0 T b)) [(2, 3), (2, 4), (2, 5), (2, 6), (2, 2)] (xI (fun H r H1 => (0 ≤ r.toInt ∧ r.toInt ≤ 1) ∧ (Rs D H1 a0 T (tkW T b w) r))) := by
  refine enter (by decide) (Nat.le_of_ble_eq_true rfl) ?_
  intro p e s m args below meth c ls Q hA hQ C hr hO hpre hl
  have hx := C.1
  have hb := C.2.1
  have S : Sd D G [(2, 3), (2, 4), (2, 5), (2, 6), (2, 2)] s.heap s.heap [] := Sd.start hO
  have hl : lv_has ls 2 [(0, .ref a0), (1, .ref a1)] := hl
  obtain ⟨hpre, hf⟩ := hpre
  have ts0 := hf
  have hT : T.2 ≤ 400 := ts0.le hO ga0
  refine lv_aload_n hx hb dX9_takeWord_0 rfl (lv_at hl 0 rfl) ?_
  refine lv_aload_n hx hb dX9_takeWord_1 rfl (lv_at hl 1 rfl) ?_
  refine callV_Pi C S.1 S.2.1.2.1 (c_X9_isWord_f l D G a0 a1 n1 w T b ga0 sa1 hw) kV_X9_46 ga0 (⟨trivial, ts0⟩) dX9_takeWord_2 hl.1 rfl rfl (by decide) cd_X9_isWord ⟨Nat.le_of_ble_eq_true rfl, Nat.le_of_ble_eq_true rfl, Nat.le_of_ble_eq_true rfl, Nat.le_of_ble_eq_true rfl, Nat.le_of_ble_eq_true rfl⟩ (fun v1 q1 => ?_)
  obtain ⟨q1, fq1⟩ := q1
  rcases fq1 with ⟨z1, y1⟩ | ⟨z1, y1⟩
  · skip
    have k_0 : (0 : Int32).toInt = 0 := by decide
    refine lv_if_ne (tgt := 13) hx hb dX9_takeWord_5 (by decide) (fun c2 => ?_) (fun c2 => ?_)
    · have b2 : ¬ v1.toInt = (0 : Int32).toInt := fun z9 => c2 (i_eq.mpr z9)
      refine lv_aload_n hx hb dX9_takeWord_13 rfl (lv_at hl 0 rfl) ?_
      refine callV_Ev C S (c_X9_next_f l D G a0 T b ga0) kV_X9_34 ga0 (⟨trivial, ts0⟩) (by decide +kernel) dX9_takeWord_14 hl.1 rfl rfl (by decide) cd_X9_next ⟨Nat.le_of_ble_eq_true rfl, Nat.le_of_ble_eq_true rfl, Nat.le_of_ble_eq_true rfl, Nat.le_of_ble_eq_true rfl, Nat.le_of_ble_eq_true rfl⟩ (fun H3 L3 S3 K3 q3 => ?_)
      obtain ⟨q3, fq3⟩ := q3
      refine lv_iconst (v := 1) hx hb dX9_takeWord_17 (by decide) ?_
      have k_1 : (1 : Int32).toInt = 1 := by decide
      exact retE_z hQ C S3 hr dX9_takeWord_18 (z01 (by omega) (by omega)) (⟨by omega, Rs.ok (by simp [tkW, y1]) (by omega) fq3⟩)
    · have b2 : v1.toInt = (0 : Int32).toInt := i_eq.mp c2
      exact absurd b2 (by omega)
  · skip
    have k_0 : (0 : Int32).toInt = 0 := by decide
    refine lv_if_ne (tgt := 13) hx hb dX9_takeWord_5 (by decide) (fun c4 => ?_) (fun c4 => ?_)
    · have b4 : ¬ v1.toInt = (0 : Int32).toInt := fun z9 => c4 (i_eq.mpr z9)
      exact absurd b4 (by omega)
    · have b4 : v1.toInt = (0 : Int32).toInt := i_eq.mp c4
      refine lv_aload_n hx hb dX9_takeWord_8 rfl (lv_at hl 0 rfl) ?_
      refine callV_Ei C S (c_X9_refuse_f l D G a0 T b ga0) kV_X9_50 ga0 (⟨trivial, ts0⟩) (by decide +kernel) dX9_takeWord_9 hl.1 rfl rfl (by decide) cd_X9_refuse ⟨Nat.le_of_ble_eq_true rfl, Nat.le_of_ble_eq_true rfl, Nat.le_of_ble_eq_true rfl, Nat.le_of_ble_eq_true rfl, Nat.le_of_ble_eq_true rfl⟩ (fun v5 H5 L5 S5 K5 q5 => ?_)
      obtain ⟨q5, fq5⟩ := q5
      have z5 := fq5.1
      exact retE_z hQ C S5 hr dX9_takeWord_12 (z01 (by omega) (by omega)) (⟨by omega, Rs.no (by simp [tkW, y1]) (by omega) fq5.2⟩)

set_option maxRecDepth 100000 in
set_option maxHeartbeats 4000000 in
theorem c_X9_takeNumber_f (l : Launch) (D : DD) (G : Nat → Nat) (a0 : Nat) (x1 : Int32) (x2 : Int32) (lo : Int) (hi : Int) (T : Tx) (b : Nat) (ga0 : G a0 = 2) (ix1 : 0 ≤ x1.toInt ∧ x1.toInt ≤ 1000) (hlo : x1.toInt = lo) (hhi : x2.toInt = hi) : CE l D G yX9_takeNumber cX9_takeNumber 4 (some .int) 1 [.ref a0, .int x1, .int x2] (fun H => (True) ∧ (TS D H a0 T b)) [(2, 3), (2, 4), (2, 5), (2, 6), (2, 2)] (xI (fun H r H1 => (r.toInt = -1 ∨ (x1.toInt ≤ r.toInt ∧ r.toInt ≤ x2.toInt)) ∧ ((r.toInt = num T b lo hi ∧ num T b lo hi ≠ -1 ∧ TS D H1 a0 T (nx T b)) ∨ (r.toInt = -1 ∧ num T b lo hi = -1 ∧ (fI D H1 9 a0 2).toInt = ((b : Nat) : Int))))) := by
  refine enter (by decide) (Nat.le_of_ble_eq_true rfl) ?_
  intro p e s m args below meth c ls Q hA hQ C hr hO hpre hl
  have hx := C.1
  have hb := C.2.1
  have S : Sd D G [(2, 3), (2, 4), (2, 5), (2, 6), (2, 2)] s.heap s.heap [] := Sd.start hO
  have hl : lv_has ls 4 [(0, .ref a0), (1, .int x1), (2, .int x2)] := hl
  obtain ⟨hpre, hf⟩ := hpre
  have ts0 := hf
  have hT : T.2 ≤ 400 := ts0.le hO ga0
  have tth := ts0.2.1
  refine lv_aload_n hx hb dX9_takeNumber_0 rfl (lv_at hl 0 rfl) ?_
  refine q_gi (T := TX9) C S.1 ga0 3 kF_X9_22 dX9_takeNumber_1 rfl rfl (by decide) rfl (by decide) rfl ?_
  refine lv_iconst (v := 2) hx hb dX9_takeNumber_4 (by decide) ?_
  have k_2 : (2 : Int32).toInt = 2 := by decide
  refine lv_icmp_ne (tgt := 24) hx hb dX9_takeNumber_5 (by decide) (fun c1 => ?_) (fun c1 => ?_)
  · have b1 : ¬ (fI D s.heap 9 a0 3).toInt = (2 : Int32).toInt := fun z9 => c1 (i_eq.mpr z9)
    refine lv_aload_n hx hb dX9_takeNumber_24 rfl (lv_at hl 0 rfl) ?_
    refine callV_Ei C S (c_X9_refuse_f l D G a0 T b ga0) kV_X9_50 ga0 (⟨trivial, ts0⟩) (by decide +kernel) dX9_takeNumber_25 hl.1 rfl rfl (by decide) cd_X9_refuse ⟨Nat.le_of_ble_eq_true rfl, Nat.le_of_ble_eq_true rfl, Nat.le_of_ble_eq_true rfl, Nat.le_of_ble_eq_true rfl, Nat.le_of_ble_eq_true rfl⟩ (fun v2 H2 L2 S2 K2 q2 => ?_)
    obtain ⟨q2, fq2⟩ := q2
    have z2 := fq2.1
    refine lv_pop hx hb dX9_takeNumber_28 rfl ?_
    refine lv_iconst (v := -1) hx hb dX9_takeNumber_29 (by decide) ?_
    have k_m1 : (-1 : Int32).toInt = -1 := by decide
    exact retE_i hQ C S2 hr dX9_takeNumber_30 (⟨by omega, Or.inr ⟨by omega, if_neg (fun z9 => by have z8 := ts0.2.2.2.1 z9.1; omega), fq2.2⟩⟩)
  · have b1 : (fI D s.heap 9 a0 3).toInt = (2 : Int32).toInt := i_eq.mp c1
    refine lv_aload_n hx hb dX9_takeNumber_8 rfl (lv_at hl 0 rfl) ?_
    refine q_gi (T := TX9) C S.1 ga0 6 kF_X9_31 dX9_takeNumber_9 rfl rfl (by decide) rfl (by decide) rfl ?_
    refine lv_iload_n hx hb dX9_takeNumber_12 rfl (lv_at hl 1 rfl) ?_
    have r4 := i_rng (fI D s.heap 9 a0 6)
    refine lv_icmp_lt (tgt := 24) hx hb dX9_takeNumber_13 (by decide) (fun c3 => ?_) (fun c3 => ?_)
    · have b3 : (fI D s.heap 9 a0 6).toInt < x1.toInt := i_lt.mp c3
      refine lv_aload_n hx hb dX9_takeNumber_24 rfl (lv_at hl 0 rfl) ?_
      refine callV_Ei C S (c_X9_refuse_f l D G a0 T b ga0) kV_X9_50 ga0 (⟨trivial, ts0⟩) (by decide +kernel) dX9_takeNumber_25 hl.1 rfl rfl (by decide) cd_X9_refuse ⟨Nat.le_of_ble_eq_true rfl, Nat.le_of_ble_eq_true rfl, Nat.le_of_ble_eq_true rfl, Nat.le_of_ble_eq_true rfl, Nat.le_of_ble_eq_true rfl⟩ (fun v5 H5 L5 S5 K5 q5 => ?_)
      obtain ⟨q5, fq5⟩ := q5
      have z5 := fq5.1
      refine lv_pop hx hb dX9_takeNumber_28 rfl ?_
      refine lv_iconst (v := -1) hx hb dX9_takeNumber_29 (by decide) ?_
      have k_m1 : (-1 : Int32).toInt = -1 := by decide
      exact retE_i hQ C S5 hr dX9_takeNumber_30 (⟨by omega, Or.inr ⟨by omega, if_neg (fun z9 => by have z8 := ts0.2.2.2.1 z9.1; omega), fq5.2⟩⟩)
    · have b3 : ¬ (fI D s.heap 9 a0 6).toInt < x1.toInt := fun z9 => c3 (i_lt.mpr z9)
      refine lv_aload_n hx hb dX9_takeNumber_16 rfl (lv_at hl 0 rfl) ?_
      refine q_gi (T := TX9) C S.1 ga0 6 kF_X9_31 dX9_takeNumber_17 rfl rfl (by decide) rfl (by decide) rfl ?_
      refine lv_iload_n hx hb dX9_takeNumber_20 rfl (lv_at hl 2 rfl) ?_
      have r7 := i_rng x2
      refine lv_icmp_le (tgt := 31) hx hb dX9_takeNumber_21 (by decide) (fun c6 => ?_) (fun c6 => ?_)
      · have b6 : (fI D s.heap 9 a0 6).toInt ≤ x2.toInt := i_le.mp c6
        refine lv_aload_n hx hb dX9_takeNumber_31 rfl (lv_at hl 0 rfl) ?_
        refine q_gi (T := TX9) C S.1 ga0 6 kF_X9_31 dX9_takeNumber_32 rfl rfl (by decide) rfl (by decide) rfl ?_
        refine lv_istore_n (lv' := [(3, .int (fI D s.heap 9 a0 6)), (0, .ref a0), (1, .int x1), (2, .int x2)]) hx hb dX9_takeNumber_35 rfl hl (by decide) rfl (fun ls hl => ?_)
        refine lv_aload_n hx hb dX9_takeNumber_36 rfl (lv_at hl 1 rfl) ?_
        refine callV_Ev C S (c_X9_next_f l D G a0 T b ga0) kV_X9_34 ga0 (⟨trivial, ts0⟩) (by decide +kernel) dX9_takeNumber_37 hl.1 rfl rfl (by decide) cd_X9_next ⟨Nat.le_of_ble_eq_true rfl, Nat.le_of_ble_eq_true rfl, Nat.le_of_ble_eq_true rfl, Nat.le_of_ble_eq_true rfl, Nat.le_of_ble_eq_true rfl⟩ (fun H8 L8 S8 K8 q8 => ?_)
        obtain ⟨q8, fq8⟩ := q8
        refine lv_iload_n hx hb dX9_takeNumber_40 rfl (lv_at hl 0 rfl) ?_
        exact retE_i hQ C S8 hr dX9_takeNumber_41 (⟨by omega, by have z8 := ts0.2.2.2.1 (by omega); have z7 : num T b lo hi = nv T b := if_pos ⟨by omega, by omega, by omega⟩; exact Or.inl ⟨by omega, by omega, fq8⟩⟩)
      · have b6 : ¬ (fI D s.heap 9 a0 6).toInt ≤ x2.toInt := fun z9 => c6 (i_le.mpr z9)
        refine lv_aload_n hx hb dX9_takeNumber_24 rfl (lv_at hl 0 rfl) ?_
        refine callV_Ei C S (c_X9_refuse_f l D G a0 T b ga0) kV_X9_50 ga0 (⟨trivial, ts0⟩) (by decide +kernel) dX9_takeNumber_25 hl.1 rfl rfl (by decide) cd_X9_refuse ⟨Nat.le_of_ble_eq_true rfl, Nat.le_of_ble_eq_true rfl, Nat.le_of_ble_eq_true rfl, Nat.le_of_ble_eq_true rfl, Nat.le_of_ble_eq_true rfl⟩ (fun v9 H9 L9 S9 K9 q9 => ?_)
        obtain ⟨q9, fq9⟩ := q9
        have z9 := fq9.1
        refine lv_pop hx hb dX9_takeNumber_28 rfl ?_
        refine lv_iconst (v := -1) hx hb dX9_takeNumber_29 (by decide) ?_
        have k_m1 : (-1 : Int32).toInt = -1 := by decide
        exact retE_i hQ C S9 hr dX9_takeNumber_30 (⟨by omega, Or.inr ⟨by omega, if_neg (fun z9 => by have z8 := ts0.2.2.2.1 z9.1; omega), fq9.2⟩⟩)

set_option maxRecDepth 100000 in
set_option maxHeartbeats 4000000 in
theorem c_X9_put_f (l : Launch) (D : DD) (G : Nat → Nat) (a0 : Nat) (x1 : Int32) (ga0 : G a0 = 2) : CE l D G yX9_put cX9_put 3 none 0 [.ref a0, .int x1] (fun _ => True) [(2, 1), (3, 0)] (xV (fun H H1 => (fI D H 9 a0 1).toInt ≤ 396 → (fI D H1 9 a0 1).toInt = (fI D H 9 a0 1).toInt + 4 ∧ ∀ i : Nat, (eI H1 (fR D H1 9 a0 0) i).toInt = if ((fI D H 9 a0 1).toInt).toNat ≤ i ∧ i < ((fI D H 9 a0 1).toInt).toNat + 4 then fb x1 (i - ((fI D H 9 a0 1).toInt).toNat) else (eI H (fR D H 9 a0 0) i).toInt)) := by
  refine enter (by decide) (Nat.le_of_ble_eq_true rfl) ?_
  intro p e s m args below meth c ls Q hA hQ C hr hO hpre hl
  have hx := C.1
  have hb := C.2.1
  have S : Sd D G [(2, 1), (3, 0)] s.heap s.heap [] := Sd.start hO
  have hl : lv_has ls 3 [(0, .ref a0), (1, .int x1)] := hl
  have rl0 : 0 ≤ (fI D s.heap 9 a0 1).toInt ∧ (fI D s.heap 9 a0 1).toInt ≤ 400 := hO.rng ga0 rfl (by decide) rfl
  refine lv_bipush (v := 24) hx hb dX9_put_0 (by decide) ?_
  refine lv_istore_n (lv' := [(2, .int (24 : Int32)), (0, .ref a0), (1, .int x1)]) hx hb dX9_put_2 rfl hl (by decide) rfl (fun ls hl => ?_)
  have Lp3 : ∀ (n : Nat) (x2_3 : Int32) (H_3 : Heap) (L_3 : List Loc) (ls : Array Slot), (Sd D G [(2, 1), (3, 0)] s.heap H_3 L_3) → (-8 ≤ x2_3.toInt ∧ x2_3.toInt ≤ 24) → ((fI D s.heap 9 a0 1).toInt ≤ 396 → 8 * (fI D H_3 9 a0 1).toInt = 8 * (fI D s.heap 9 a0 1).toInt + 24 - x2_3.toInt) → (x2_3.toInt % 8 = 0) → ((fI D s.heap 9 a0 1).toInt ≤ 396 → ∀ i : Nat, (eI H_3 (fR D H_3 9 a0 0) i).toInt = if (fI D s.heap 9 a0 1).toInt.toNat ≤ i ∧ i < (fI D s.heap 9 a0 1).toInt.toNat + ((24 - x2_3.toInt) / 8).toNat then fb x1 (i - (fI D s.heap 9 a0 1).toInt.toNat) else (eI s.heap (fR D s.heap 9 a0 0) i).toInt) → x2_3.toInt + 9 ≤ (n : Int) → lv_has ls 3 [(2, .int x2_3), (0, .ref a0), (1, .int x1)] → W p l e (rmU 0 0 0) s m args below meth c H_3 L_3 0 0 Q (F0 m 3 ls []) := by
    intro n
    induction n with
    | zero =>
      intro x2_3 H_3 L_3 ls S_3 j3_0 u3_0 u3_1 u3_2 hn hl
      exact absurd hn (by omega)
    | succ n ih3 =>
      intro x2_3 H_3 L_3 ls S_3 j3_0 u3_0 u3_1 u3_2 hn hl
      refine lv_iload_n hx hb dX9_put_3 rfl (lv_at hl 0 rfl) ?_
      have k_0 : (0 : Int32).toInt = 0 := by decide
      refine lv_if_lt (tgt := 49) hx hb dX9_put_4 (by decide) (fun c1 => ?_) (fun c1 => ?_)
      · have b1 : x2_3.toInt < (0 : Int32).toInt := i_lt.mp c1
        exact retE_v hQ C S_3 hr dX9_put_49 (fun h9 => ⟨by omega, fun i => by have z9 := u3_2 h9 i; rw [show ((24 - x2_3.toInt) / 8).toNat = 4 by omega] at z9; exact z9⟩)
      · have b1 : ¬ x2_3.toInt < (0 : Int32).toInt := fun z9 => c1 (i_lt.mpr z9)
        refine lv_aload_n hx hb dX9_put_7 rfl (lv_at hl 1 rfl) ?_
        refine q_gi (T := TX9) C S_3.1 ga0 1 kF_X9_15 dX9_put_8 rfl rfl (by decide) rfl (by decide) rfl ?_
        have r2 : 0 ≤ (fI D H_3 9 a0 1).toInt ∧ (fI D H_3 9 a0 1).toInt ≤ 400 := S_3.1.rng ga0 rfl (by decide) rfl
        refine lv_sipush (v := 400) hx hb dX9_put_11 (by decide) ?_
        have k_400 : (400 : Int32).toInt = 400 := by decide
        refine lv_icmp_ge (tgt := 43) hx hb dX9_put_14 (by decide) (fun c3 => ?_) (fun c3 => ?_)
        · have b3 : (400 : Int32).toInt ≤ (fI D H_3 9 a0 1).toInt := i_le.mp c3
          have bz : ∀ j : Nat, eI H_3 (fR D H_3 9 a0 0) j = eI H_3 (fR D H_3 9 a0 0) j := fun _ => rfl
          obtain ⟨v4, ev4⟩ : ∃ y : Int32, y = x2_3 + (-8) := ⟨_, rfl⟩
          have k_m8 : (-8 : Int32).toInt = -8 := by decide
          have f5 : v4.toInt = x2_3.toInt + (-8) := by rw [ev4]; exact i_addc k_m8 (by omega) (by omega)
          refine lv_iinc (v := v4) (lv' := [(2, .int v4), (0, .ref a0), (1, .int x1)]) hx hb dX9_put_43 hl (k := 0) rfl (by rw [ev4]; rfl) (by decide) rfl (fun ls hl => ?_)
          refine lv_goto (tgt := 3) hx hb dX9_put_46 (by decide) ?_
          exact ih3 v4 H_3 L_3 ls S_3 (by omega) (by first | omega | (rw [Pt.i ]; omega)) (by omega) (fun h9 => absurd h9 (by omega)) (by omega) (lv_sub hl [0, 1, 2] rfl)
        · have b3 : ¬ (400 : Int32).toInt ≤ (fI D H_3 9 a0 1).toInt := fun z9 => c3 (i_le.mpr z9)
          refine lv_aload_n hx hb dX9_put_17 rfl (lv_at hl 1 rfl) ?_
          refine q_gr (T := TX9) C S_3.1 ga0 0 kF_X9_11 dX9_put_18 rfl rfl (by decide) rfl (by decide) rfl (fun g6 => ?_)
          refine lv_aload_n hx hb dX9_put_21 rfl (lv_at hl 1 rfl) ?_
          refine q_gi (T := TX9) C S_3.1 ga0 1 kF_X9_15 dX9_put_22 rfl rfl (by decide) rfl (by decide) rfl ?_
          refine lv_iload_n hx hb dX9_put_25 rfl (lv_at hl 2 rfl) ?_
          refine lv_iload_n hx hb dX9_put_26 rfl (lv_at hl 0 rfl) ?_
          refine lv_iushr hx hb dX9_put_27 rfl ?_
          refine lv_topi (fun v7 ev7 => ?_)
          refine lv_sipush (v := 255) hx hb dX9_put_28 (by decide) ?_
          have k_255 : (255 : Int32).toInt = 255 := by decide
          refine lv_iand hx hb dX9_put_31 ?_
          have r8 := i_rng v7
          refine lv_topi (fun v9 ev9 => ?_)
          have f10 : 0 ≤ v9.toInt ∧ v9.toInt ≤ (255 : Int32).toInt := by rw [ev9]; exact i_and (by omega)
          have vb : v9.toInt = fb x1 ((24 - x2_3.toInt) / 8).toNat := by rw [ev9, ev7]; exact by_put (by omega) (by omega)
          have n11 : aN H_3 (fR D H_3 9 a0 0) = 400 := len_3 S_3.1 g6
          refine q_iast C S_3 g6 (by omega) (by omega) dX9_put_32 rfl (by decide) (by decide +kernel) (fun _ _ h => ak_3 h) (fun H12 L12 S12 P12 => ?_)
          have bq : ∀ j : Nat, eI H12 (fR D H12 9 a0 0) j = if j = (fI D H_3 9 a0 1).toInt.toNat then v9 else eI H_3 (fR D H_3 9 a0 0) j := fun j => by rw [Pa.r P12 (ne_role ga0 g6 (by decide))]; exact Pa.all P12 (by omega) j
          refine lv_aload_n hx hb dX9_put_33 rfl (lv_at hl 1 rfl) ?_
          refine lv_dup hx hb dX9_put_34 rfl ?_
          refine q_gi (T := TX9) C S12.1 ga0 1 kF_X9_15 dX9_put_35 rfl rfl (by decide) rfl (by decide) rfl ?_
          have c13 : (fI D H12 9 a0 1).toInt = (fI D H_3 9 a0 1).toInt := by rw [Pa.f P12 (ne_role ga0 g6 (by decide))]
          have r14 : 0 ≤ (fI D H12 9 a0 1).toInt ∧ (fI D H12 9 a0 1).toInt ≤ 400 := S12.1.rng ga0 rfl (by decide) rfl
          refine lv_iconst (v := 1) hx hb dX9_put_38 (by decide) ?_
          have k_1 : (1 : Int32).toInt = 1 := by decide
          refine lv_iadd hx hb dX9_put_39 ?_
          refine lv_topi (fun v15 ev15 => ?_)
          have f16 : v15.toInt = (fI D H12 9 a0 1).toInt + (1 : Int32).toInt := by rw [ev15]; exact i_add (by omega) (by omega)
          refine q_put (T := TX9) C S12 ga0 1 kF_X9_15 dX9_put_40 rfl rfl (by decide) (by decide) rfl rfl rfl rfl rfl (vok_i rfl (by omega) (by omega)) (by decide +kernel) (fun H17 L17 S17 P17 => ?_)
          have bz : ∀ j : Nat, eI H17 (fR D H17 9 a0 0) j = eI H12 (fR D H12 9 a0 0) j := fun j => by rw [Pt.or P17 (by decide) (by decide)]; exact Pt.e P17 (ne_role (S12.1.rol ga0 rfl (by decide) rfl) ga0 (by decide))
          obtain ⟨v18, ev18⟩ : ∃ y : Int32, y = x2_3 + (-8) := ⟨_, rfl⟩
          have k_m8 : (-8 : Int32).toInt = -8 := by decide
          have f19 : v18.toInt = x2_3.toInt + (-8) := by rw [ev18]; exact i_addc k_m8 (by omega) (by omega)
          refine lv_iinc (v := v18) (lv' := [(2, .int v18), (0, .ref a0), (1, .int x1)]) hx hb dX9_put_43 hl (k := 0) rfl (by rw [ev18]; rfl) (by decide) rfl (fun ls hl => ?_)
          refine lv_goto (tgt := 3) hx hb dX9_put_46 (by decide) ?_
          exact ih3 v18 H17 L17 ls S17 (by omega) (by first | omega | (rw [Pt.i P17]; omega)) (by omega) (fun h9 => by have z9 := put_st (B2 := fun i => (eI H17 (fR D H17 9 a0 0) i).toInt) (u3_2 h9) (fun i => by show (eI H17 (fR D H17 9 a0 0) i).toInt = _; rw [bz i, bq i, show (fI D H_3 9 a0 1).toInt.toNat = (fI D s.heap 9 a0 1).toInt.toNat + ((24 - x2_3.toInt) / 8).toNat by omega]; split <;> rfl) vb; rw [show ((24 - v18.toInt) / 8).toNat = ((24 - x2_3.toInt) / 8).toNat + 1 by omega]; exact z9) (by omega) (lv_sub hl [0, 1, 2] rfl)
  have k_24 : (24 : Int32).toInt = 24 := by decide
  exact Lp3 40 (24 : Int32) s.heap [] ls S (by omega) (by omega) (by omega) (fun h9 i => by rw [if_neg (by omega)])  (by omega) (lv_sub hl [0, 1, 2] rfl)

set_option maxRecDepth 100000 in
set_option maxHeartbeats 4000000 in
theorem c_X11_feed_f (l : Launch) (D : DD) (G : Nat → Nat) (a0 : Nat) (x1 : Int32) (x2 : Int32) (x3 : Int32) (x4 : Int32) (x5 : Int32) (ga0 : G a0 = 1) : CE l D G yX11_feed cX11_feed 6 (some .int) 1 [.ref a0, .int x1, .int x2, .int x3, .int x4, .int x5] (fun _ => True) [(2, 1), (3, 0)] (xI (fun H r H1 => (((fI D H 9 (fR D H 10 a0 0) 1).toInt ≤ 380 ∧ r.toInt = (fI D H 9 (fR D H 10 a0 0) 1).toInt + 20 ∧ (fI D H1 9 (fR D H1 10 a0 0) 1).toInt = (fI D H 9 (fR D H 10 a0 0) 1).toInt + 20) ∨ (380 < (fI D H 9 (fR D H 10 a0 0) 1).toInt ∧ r.toInt = -1 ∧ (fI D H1 9 (fR D H1 10 a0 0) 1).toInt = (fI D H 9 (fR D H 10 a0 0) 1).toInt)) ∧ ((fI D H 9 (fR D H 10 a0 0) 1).toInt ≤ 380 → ∀ i : Nat, (eI H1 (fR D H1 9 (fR D H1 10 a0 0) 0) i).toInt = if ((fI D H 9 (fR D H 10 a0 0) 1).toInt).toNat ≤ i ∧ i < ((fI D H 9 (fR D H 10 a0 0) 1).toInt).toNat + 20 then fb (pk5 x1 x2 x3 x4 x5 ((i - ((fI D H 9 (fR D H 10 a0 0) 1).toInt).toNat) / 4)) ((i - ((fI D H 9 (fR D H 10 a0 0) 1).toInt).toNat) % 4) else (eI H (fR D H 9 (fR D H 10 a0 0) 0) i).toInt) ∧ (380 < (fI D H 9 (fR D H 10 a0 0) 1).toInt → ∀ i : Nat, (eI H1 (fR D H1 9 (fR D H1 10 a0 0) 0) i).toInt = (eI H (fR D H 9 (fR D H 10 a0 0) 0) i).toInt))) := by
  refine enter (by decide) (Nat.le_of_ble_eq_true rfl) ?_
  intro p e s m args below meth c ls Q hA hQ C hr hO hpre hl
  have hx := C.1
  have hb := C.2.1
  have S : Sd D G [(2, 1), (3, 0)] s.heap s.heap [] := Sd.start hO
  have hl : lv_has ls 6 [(0, .ref a0), (1, .int x1), (2, .int x2), (3, .int x3), (4, .int x4), (5, .int x5)] := hl
  have rl0 : 0 ≤ (fI D s.heap 9 (fR D s.heap 10 a0 0) 1).toInt ∧ (fI D s.heap 9 (fR D s.heap 10 a0 0) 1).toInt ≤ 400 := hO.rng (hO.rol ga0 rfl (by decide) rfl) rfl (by decide) rfl
  refine lv_aload_n hx hb dX11_feed_0 rfl (lv_at hl 0 rfl) ?_
  refine q_gr (T := TX11) C S.1 ga0 0 kF_X11_10 dX11_feed_1 rfl rfl (by decide) rfl (by decide) rfl (fun g1 => ?_)
  refine q_gi (T := TX9) C S.1 g1 1 kF_X11_71 dX11_feed_4 rfl rfl (by decide) rfl (by decide) rfl ?_
  have r2 : 0 ≤ (fI D s.heap 9 (fR D s.heap 10 a0 0) 1).toInt ∧ (fI D s.heap 9 (fR D s.heap 10 a0 0) 1).toInt ≤ 400 := S.1.rng g1 rfl (by decide) rfl
  refine lv_bipush (v := 20) hx hb dX11_feed_7 (by decide) ?_
  have k_20 : (20 : Int32).toInt = 20 := by decide
  refine lv_iadd hx hb dX11_feed_9 ?_
  refine lv_topi (fun v3 ev3 => ?_)
  have f4 : v3.toInt = (fI D s.heap 9 (fR D s.heap 10 a0 0) 1).toInt + (20 : Int32).toInt := by rw [ev3]; exact i_add (by omega) (by omega)
  refine lv_sipush (v := 400) hx hb dX11_feed_10 (by decide) ?_
  have k_400 : (400 : Int32).toInt = 400 := by decide
  refine lv_icmp_le (tgt := 18) hx hb dX11_feed_13 (by decide) (fun c5 => ?_) (fun c5 => ?_)
  · have b5 : v3.toInt ≤ (400 : Int32).toInt := i_le.mp c5
    refine lv_aload_n hx hb dX11_feed_18 rfl (lv_at hl 0 rfl) ?_
    refine q_gr (T := TX11) C S.1 ga0 0 kF_X11_10 dX11_feed_19 rfl rfl (by decide) rfl (by decide) rfl (fun g6 => ?_)
    refine lv_iload_n hx hb dX11_feed_22 rfl (lv_at hl 1 rfl) ?_
    refine callV_Ev C S (c_X9_put_f l D G (fR D s.heap 10 a0 0) x1 g6) kV_X11_74 g6 (trivial) (by decide +kernel) dX11_feed_23 hl.1 rfl rfl (by decide) cd_X9_put ⟨Nat.le_of_ble_eq_true rfl, Nat.le_of_ble_eq_true rfl, Nat.le_of_ble_eq_true rfl, Nat.le_of_ble_eq_true rfl, Nat.le_of_ble_eq_true rfl⟩ (fun H7 L7 S7 K7 q7 => ?_)
    have q23 := q7
    have t23 : fR D H7 10 a0 0 = fR D s.heap 10 a0 0 := S7.2.1.fR ga0 rfl (by decide) (by decide)
    refine lv_aload_n hx hb dX11_feed_26 rfl (lv_at hl 0 rfl) ?_
    refine q_gr (T := TX11) C S7.1 ga0 0 kF_X11_10 dX11_feed_27 rfl rfl (by decide) rfl (by decide) rfl (fun g8 => ?_)
    refine lv_iload_n hx hb dX11_feed_30 rfl (lv_at hl 2 rfl) ?_
    refine callV_Ev C S7 (c_X9_put_f l D G (fR D H7 10 a0 0) x2 g8) kV_X11_74 g8 (trivial) (by decide +kernel) dX11_feed_31 hl.1 rfl rfl (by decide) cd_X9_put ⟨Nat.le_of_ble_eq_true rfl, Nat.le_of_ble_eq_true rfl, Nat.le_of_ble_eq_true rfl, Nat.le_of_ble_eq_true rfl, Nat.le_of_ble_eq_true rfl⟩ (fun H9 L9 S9 K9 q9 => ?_)
    have q31 := q9
    rw [t23] at q31
    have t31 : fR D H9 10 a0 0 = fR D s.heap 10 a0 0 := S9.2.1.fR ga0 rfl (by decide) (by decide)
    refine lv_aload_n hx hb dX11_feed_34 rfl (lv_at hl 0 rfl) ?_
    refine q_gr (T := TX11) C S9.1 ga0 0 kF_X11_10 dX11_feed_35 rfl rfl (by decide) rfl (by decide) rfl (fun g10 => ?_)
    refine lv_iload_n hx hb dX11_feed_38 rfl (lv_at hl 3 rfl) ?_
    refine callV_Ev C S9 (c_X9_put_f l D G (fR D H9 10 a0 0) x3 g10) kV_X11_74 g10 (trivial) (by decide +kernel) dX11_feed_39 hl.1 rfl rfl (by decide) cd_X9_put ⟨Nat.le_of_ble_eq_true rfl, Nat.le_of_ble_eq_true rfl, Nat.le_of_ble_eq_true rfl, Nat.le_of_ble_eq_true rfl, Nat.le_of_ble_eq_true rfl⟩ (fun H11 L11 S11 K11 q11 => ?_)
    have q39 := q11
    rw [t31] at q39
    have t39 : fR D H11 10 a0 0 = fR D s.heap 10 a0 0 := S11.2.1.fR ga0 rfl (by decide) (by decide)
    refine lv_aload_n hx hb dX11_feed_42 rfl (lv_at hl 0 rfl) ?_
    refine q_gr (T := TX11) C S11.1 ga0 0 kF_X11_10 dX11_feed_43 rfl rfl (by decide) rfl (by decide) rfl (fun g12 => ?_)
    refine lv_iload hx hb dX11_feed_46 (lv_at hl 4 rfl) ?_
    refine callV_Ev C S11 (c_X9_put_f l D G (fR D H11 10 a0 0) x4 g12) kV_X11_74 g12 (trivial) (by decide +kernel) dX11_feed_48 hl.1 rfl rfl (by decide) cd_X9_put ⟨Nat.le_of_ble_eq_true rfl, Nat.le_of_ble_eq_true rfl, Nat.le_of_ble_eq_true rfl, Nat.le_of_ble_eq_true rfl, Nat.le_of_ble_eq_true rfl⟩ (fun H13 L13 S13 K13 q13 => ?_)
    have q48 := q13
    rw [t39] at q48
    have t48 : fR D H13 10 a0 0 = fR D s.heap 10 a0 0 := S13.2.1.fR ga0 rfl (by decide) (by decide)
    refine lv_aload_n hx hb dX11_feed_51 rfl (lv_at hl 0 rfl) ?_
    refine q_gr (T := TX11) C S13.1 ga0 0 kF_X11_10 dX11_feed_52 rfl rfl (by decide) rfl (by decide) rfl (fun g14 => ?_)
    refine lv_iload hx hb dX11_feed_55 (lv_at hl 5 rfl) ?_
    refine callV_Ev C S13 (c_X9_put_f l D G (fR D H13 10 a0 0) x5 g14) kV_X11_74 g14 (trivial) (by decide +kernel) dX11_feed_57 hl.1 rfl rfl (by decide) cd_X9_put ⟨Nat.le_of_ble_eq_true rfl, Nat.le_of_ble_eq_true rfl, Nat.le_of_ble_eq_true rfl, Nat.le_of_ble_eq_true rfl, Nat.le_of_ble_eq_true rfl⟩ (fun H15 L15 S15 K15 q15 => ?_)
    have q57 := q15
    rw [t48] at q57
    have t57 : fR D H15 10 a0 0 = fR D s.heap 10 a0 0 := S15.2.1.fR ga0 rfl (by decide) (by decide)
    obtain ⟨za1, zb1⟩ := q23 (by omega)
    obtain ⟨za2, zb2⟩ := q31 (by omega)
    rw [show (fI D H7 9 (fR D s.heap 10 a0 0) 1).toInt.toNat = (fI D s.heap 9 (fR D s.heap 10 a0 0) 1).toInt.toNat + 4 by omega] at zb2
    obtain ⟨za3, zb3⟩ := q39 (by omega)
    rw [show (fI D H9 9 (fR D s.heap 10 a0 0) 1).toInt.toNat = (fI D s.heap 9 (fR D s.heap 10 a0 0) 1).toInt.toNat + 8 by omega] at zb3
    obtain ⟨za4, zb4⟩ := q48 (by omega)
    rw [show (fI D H11 9 (fR D s.heap 10 a0 0) 1).toInt.toNat = (fI D s.heap 9 (fR D s.heap 10 a0 0) 1).toInt.toNat + 12 by omega] at zb4
    obtain ⟨za5, zb5⟩ := q57 (by omega)
    rw [show (fI D H13 9 (fR D s.heap 10 a0 0) 1).toInt.toNat = (fI D s.heap 9 (fR D s.heap 10 a0 0) 1).toInt.toNat + 16 by omega] at zb5
    have zz := feed5 zb1 zb2 zb3 zb4 zb5
    refine lv_aload_n hx hb dX11_feed_60 rfl (lv_at hl 0 rfl) ?_
    refine q_gr (T := TX11) C S15.1 ga0 0 kF_X11_10 dX11_feed_61 rfl rfl (by decide) rfl (by decide) rfl (fun g16 => ?_)
    refine q_gi (T := TX9) C S15.1 g16 1 kF_X11_71 dX11_feed_64 rfl rfl (by decide) rfl (by decide) rfl ?_
    have r17 : 0 ≤ (fI D H15 9 (fR D H15 10 a0 0) 1).toInt ∧ (fI D H15 9 (fR D H15 10 a0 0) 1).toInt ≤ 400 := S15.1.rng g16 rfl (by decide) rfl
    exact retE_i hQ C S15 hr dX11_feed_67 (⟨by rw [t57]; omega, fun _ i => by rw [t57]; exact zz i, fun h9 => absurd h9 (by omega)⟩)
  · have b5 : ¬ v3.toInt ≤ (400 : Int32).toInt := fun z9 => c5 (i_le.mpr z9)
    refine lv_iconst (v := -1) hx hb dX11_feed_16 (by decide) ?_
    have k_m1 : (-1 : Int32).toInt = -1 := by decide
    exact retE_i hQ C S hr dX11_feed_17 (⟨by omega, fun h9 => absurd h9 (by omega), fun _ i => rfl⟩)
