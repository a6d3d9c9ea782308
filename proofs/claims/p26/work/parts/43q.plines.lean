set_option maxRecDepth 100000 in
set_option maxHeartbeats 4000000 in
theorem c_X10_readLines_pf (l : Launch) (D : DD) (G : Nat → Nat) (a0 : Nat) (dd : Nat) (sg : Sg) (tp : Nat) (T : Tx) (ga0 : G a0 = 20) : CE l D G yX10_readLines cX10_readLines 2 (some .boolean) 9 [.ref a0] (fun H => (G (fR D H 6 a0 2) = 23) ∧ (fR D H 6 a0 0 = tp ∧ (fI D H 6 a0 1).toInt = 14 ∧ tT D H tp = T ∧ fR D H 6 a0 2 = dd ∧ DS D H dd ∧ SV (pv D H dd) sg)) [(2, 3), (2, 4), (2, 5), (2, 6), (2, 2), (7, 0), (7, 1), (7, 2), (7, 3), (7, 4), (23, 3), (25, 0), (25, 1), (25, 2), (25, 3), (25, 4), (25, 5), (23, 4), (23, 6), (23, 7), (23, 8), (23, 9), (23, 10)] (xI (fun H r H1 => ((0 ≤ r.toInt ∧ r.toInt ≤ 1) ∧ (r.toInt = 1 → Gd D G H → Gd D G H1)) ∧ (RsP D H1 tp dd T (parF T sg) r) ∧ (FH D G H H1 dd))) := by
  refine enter (by decide) (Nat.le_of_ble_eq_true rfl) ?_
  intro p e s m args below meth c ls Q hA hQ C hr hO hpre hl
  have hx := C.1
  have hb := C.2.1
  have S : Sd D G [(2, 3), (2, 4), (2, 5), (2, 6), (2, 2), (7, 0), (7, 1), (7, 2), (7, 3), (7, 4), (23, 3), (25, 0), (25, 1), (25, 2), (25, 3), (25, 4), (25, 5), (23, 4), (23, 6), (23, 7), (23, 8), (23, 9), (23, 10)] s.heap s.heap [] := Sd.start hO
  have hl : lv_has ls 2 [(0, .ref a0)] := hl
  obtain ⟨hpre, hf⟩ := hpre
  obtain ⟨htp, hml, hT0, hdd, ds0, dv0⟩ := hf
  have gtp : G tp = 2 := by rw [← htp]; exact hO.rol ga0 rfl (by decide) rfl
  have gdd : G dd = 23 := by rw [← hdd]; exact hpre
  have fh0 : FH D G s.heap s.heap dd := fun _ _ _ => rfl
  have tk0 : Gd D G s.heap → Gd D G s.heap := fun h => h
  refine lv_aload_n hx hb dX10_readLines_0 rfl (lv_at hl 0 rfl) ?_
  refine q_gr (T := TX6) C S.1 ga0 0 kF_X10_7 dX10_readLines_1 rfl rfl (by decide) rfl (by decide) rfl (fun g1 => ?_)
  rw [show fR D s.heap 6 a0 0 = tp from htp]
  refine callV_Ev C S (c_X9_rewind_f l D G tp T gtp) kV_X10_17 gtp (⟨trivial, hT0⟩) (by decide +kernel) dX10_readLines_4 hl.1 rfl rfl (by decide) cd_X9_rewind ⟨Nat.le_of_ble_eq_true rfl, Nat.le_of_ble_eq_true rfl, Nat.le_of_ble_eq_true rfl, Nat.le_of_ble_eq_true rfl, Nat.le_of_ble_eq_true rfl⟩ (fun H2 L2 S2 K2 q2 => ?_)
  obtain ⟨q2, fq2⟩ := q2
  have tk2 : Gd D G s.heap → Gd D G H2 := fun h9  => (tk0 h9).keep K2 (by decide +kernel)
  have dv2 := dv_keep dv0 S.1 (Or.inr gdd) K2
  have fh2 := fh0.keep K2
  refine lv_aload_n hx hb dX10_readLines_7 rfl (lv_at hl 0 rfl) ?_
  refine q_gr (T := TX6) C S2.1 ga0 0 kF_X10_7 dX10_readLines_8 rfl rfl (by decide) rfl (by decide) rfl (fun g3 => ?_)
  rw [show fR D H2 6 a0 0 = tp from (S2.2.1.fR ga0 rfl (by decide) (by decide +kernel)).trans htp]
  refine q_gi (T := TX9) C S2.1 gtp 3 kF_X10_22 dX10_readLines_11 rfl rfl (by decide) rfl (by decide) rfl ?_
  have k_0 : (0 : Int32).toInt = 0 := by decide
  refine lv_if_ne (tgt := 19) hx hb dX10_readLines_14 (by decide) (fun c4 => ?_) (fun c4 => ?_)
  · have b4 : ¬ (fI D H2 9 tp 3).toInt = (0 : Int32).toInt := fun z9 => c4 (i_eq.mpr z9)
    have hk0 : ¬ kd T (sk T 0) = 0 := by have z9 := fq2.2.1; omega
    refine lv_iconst (v := 0) hx hb dX10_readLines_19 (by decide) ?_
    refine lv_istore_n (lv' := [(1, .int (0 : Int32)), (0, .ref a0)]) hx hb dX10_readLines_20 rfl hl (by decide) rfl (fun ls hl => ?_)
    have Lp21 : ∀ (n : Nat) (x1_21 : Int32) (sg_21 : Sg) (b_21 : Nat) (H_21 : Heap) (L_21 : List Loc) (ls : Array Slot), (Sd D G [(2, 3), (2, 4), (2, 5), (2, 6), (2, 2), (7, 0), (7, 1), (7, 2), (7, 3), (7, 4), (23, 3), (25, 0), (25, 1), (25, 2), (25, 3), (25, 4), (25, 5), (23, 4), (23, 6), (23, 7), (23, 8), (23, 9), (23, 10)] s.heap H_21 L_21) → (0 ≤ x1_21.toInt ∧ x1_21.toInt ≤ 14) → (SV (pv D H_21 dd) sg_21) → (FH D G s.heap H_21 dd) → (TS D H_21 tp T b_21) → (parF T sg = plsR T (14 - x1_21.toInt.toNat) sg_21 b_21) → (Gd D G s.heap → Gd D G H_21) → 15 - x1_21.toInt ≤ (n : Int) → lv_has ls 2 [(1, .int x1_21), (0, .ref a0)] → W p l e (rmU 9 0 0) s m args below meth c H_21 L_21 0 0 Q (F0 m 21 ls []) := by
      intro n
      induction n with
      | zero =>
        intro x1_21 sg_21 b_21 H_21 L_21 ls S_21 j21_0 u21_0 u21_1 u21_2 u21_3 u21_4 hn hl
        exact absurd hn (by omega)
      | succ n ih21 =>
        intro x1_21 sg_21 b_21 H_21 L_21 ls S_21 j21_0 u21_0 u21_1 u21_2 u21_3 u21_4 hn hl
        refine lv_iload_n hx hb dX10_readLines_21 rfl (lv_at hl 0 rfl) ?_
        refine lv_aload_n hx hb dX10_readLines_22 rfl (lv_at hl 1 rfl) ?_
        refine q_gi (T := TX6) C S_21.1 ga0 1 kF_X10_13 dX10_readLines_23 rfl rfl (by decide) rfl (by decide) rfl ?_
        have hm : (fI D H_21 6 a0 1).toInt = 14 := by rw [S_21.2.1.fI ga0 rfl (by decide) (by decide +kernel)]; exact hml
        refine lv_icmp_ge (tgt := 89) hx hb dX10_readLines_26 (by decide) (fun c5 => ?_) (fun c5 => ?_)
        · have b5 : (fI D H_21 6 a0 1).toInt ≤ x1_21.toInt := i_le.mp c5
          refine lv_aload_n hx hb dX10_readLines_89 rfl (lv_at hl 1 rfl) ?_
          refine q_gr (T := TX6) C S_21.1 ga0 0 kF_X10_7 dX10_readLines_90 rfl rfl (by decide) rfl (by decide) rfl (fun g6 => ?_)
          rw [show fR D H_21 6 a0 0 = tp from (S_21.2.1.fR ga0 rfl (by decide) (by decide +kernel)).trans htp]
          refine callV_Ei C S_21 (c_X9_refuse_f l D G tp T b_21 gtp) kV_X10_25 gtp (⟨trivial, u21_2⟩) (by decide +kernel) dX10_readLines_93 hl.1 rfl rfl (by decide) cd_X9_refuse ⟨Nat.le_of_ble_eq_true rfl, Nat.le_of_ble_eq_true rfl, Nat.le_of_ble_eq_true rfl, Nat.le_of_ble_eq_true rfl, Nat.le_of_ble_eq_true rfl⟩ (fun v7 H7 L7 S7 K7 q7 => ?_)
          obtain ⟨q7, fq7⟩ := q7
          have tk7 : Gd D G s.heap → Gd D G H7 := fun h9  => (u21_4 h9).keep K7 (by decide +kernel)
          have dv7 := dv_keep u21_0 S_21.1 (Or.inr gdd) K7
          have fh7 := u21_1.keep K7
          have z7 := fq7.1
          exact retE_z hQ C S7 hr dX10_readLines_96 (z01 (by omega) (by omega)) (⟨⟨by omega, fun _ h9 => tk7 h9⟩, by have z9 : parF T sg = (false, b_21, sg_21) := (u21_3.trans (congrArg (fun m9 => plsR T m9 _ _) (show 14 - x1_21.toInt.toNat = 0 by omega))).trans rfl; rw [z9]; exact RsP.no rfl (by omega) fq7.2, fh7⟩)
        · have b5 : ¬ (fI D H_21 6 a0 1).toInt ≤ x1_21.toInt := fun z9 => c5 (i_le.mpr z9)
          refine lv_aload_n hx hb dX10_readLines_29 rfl (lv_at hl 1 rfl) ?_
          refine q_gr (T := TX6) C S_21.1 ga0 0 kF_X10_7 dX10_readLines_30 rfl rfl (by decide) rfl (by decide) rfl (fun g8 => ?_)
          rw [show fR D H_21 6 a0 0 = tp from (S_21.2.1.fR ga0 rfl (by decide) (by decide +kernel)).trans htp]
          refine q_gi (T := TX9) C S_21.1 gtp 3 kF_X10_22 dX10_readLines_33 rfl rfl (by decide) rfl (by decide) rfl ?_
          refine lv_iconst (v := 1) hx hb dX10_readLines_36 (by decide) ?_
          have k_1 : (1 : Int32).toInt = 1 := by decide
          refine lv_icmp_eq (tgt := 48) hx hb dX10_readLines_37 (by decide) (fun c9 => ?_) (fun c9 => ?_)
          · have b9 : (fI D H_21 9 tp 3).toInt = (1 : Int32).toInt := i_eq.mp c9
            have yk10 : kd T b_21 = 1 := by have z9 := u21_2.2.1; omega
            refine lv_aload_n hx hb dX10_readLines_48 rfl (lv_at hl 1 rfl) ?_
            refine callU_Ei C S_21 (c_X6_readLine_f l D G a0 dd sg_21 tp T b_21 ga0) kU_rl6 kD_rl ga0 (⟨by rw [S_21.2.1.fR ga0 rfl (by decide) (by decide +kernel)]; exact hpre, (S_21.2.1.fR ga0 rfl (by decide) (by decide +kernel)).trans htp, u21_2, (S_21.2.1.fR ga0 rfl (by decide) (by decide +kernel)).trans hdd, (ds0.keep hO (Or.inr gdd) S_21.2.1 (by decide +kernel)), u21_0⟩) (by decide +kernel) dX10_readLines_49 hl.1 rfl rfl (by decide) (by decide +kernel) ⟨Nat.le_of_ble_eq_true rfl, Nat.le_of_ble_eq_true rfl, Nat.le_of_ble_eq_true rfl, Nat.le_of_ble_eq_true rfl, Nat.le_of_ble_eq_true rfl⟩ (fun v11 H11 L11 S11 K11 q11 => ?_)
            obtain ⟨q11, fq11, fr11⟩ := q11
            obtain ⟨q11, tq11⟩ := q11
            have tk11 : Gd D G s.heap → (v11.toInt = 1) → Gd D G H11 := fun h9 k90 => tq11 k90 (u21_4 h9)
            have fh11 := u21_1.trans fr11 hO gdd S_21.2.1
            rcases fq11 with ⟨c11, s11, y11, z11, ts11, dv11⟩ | ⟨e11, s11, y11, z11, wr11⟩
            · skip
              refine lv_if_ne (tgt := 57) hx hb dX10_readLines_52 (by decide) (fun c12 => ?_) (fun c12 => ?_)
              · have b12 : ¬ v11.toInt = (0 : Int32).toInt := fun z9 => c12 (i_eq.mpr z9)
                refine lv_aload_n hx hb dX10_readLines_57 rfl (lv_at hl 1 rfl) ?_
                refine q_gr (T := TX6) C S11.1 ga0 0 kF_X10_7 dX10_readLines_58 rfl rfl (by decide) rfl (by decide) rfl (fun g13 => ?_)
                rw [show fR D H11 6 a0 0 = tp from (S11.2.1.fR ga0 rfl (by decide) (by decide +kernel)).trans htp]
                refine q_gi (T := TX9) C S11.1 gtp 3 kF_X10_22 dX10_readLines_61 rfl rfl (by decide) rfl (by decide) rfl ?_
                refine lv_if_ne (tgt := 69) hx hb dX10_readLines_64 (by decide) (fun c14 => ?_) (fun c14 => ?_)
                · have b14 : ¬ (fI D H11 9 tp 3).toInt = (0 : Int32).toInt := fun z9 => c14 (i_eq.mpr z9)
                  have yk15 : kd T c11 ≠ 0 := by have z9 := ts11.2.1; omega
                  refine lv_aload_n hx hb dX10_readLines_69 rfl (lv_at hl 1 rfl) ?_
                  refine q_gr (T := TX6) C S11.1 ga0 0 kF_X10_7 dX10_readLines_70 rfl rfl (by decide) rfl (by decide) rfl (fun g16 => ?_)
                  rw [show fR D H11 6 a0 0 = tp from (S11.2.1.fR ga0 rfl (by decide) (by decide +kernel)).trans htp]
                  refine lv_bipush (v := 59) hx hb dX10_readLines_73 (by decide) ?_
                  have k_59 : (59 : Int32).toInt = 59 := by decide
                  refine callV_Ei C S11 (c_X9_takeSign_f l D G tp (59 : Int32) 59 T c11 gtp (by omega) (by decide)) kV_X10_32 gtp (⟨trivial, ts11⟩) (by decide +kernel) dX10_readLines_75 hl.1 rfl rfl (by decide) cd_X9_takeSign ⟨Nat.le_of_ble_eq_true rfl, Nat.le_of_ble_eq_true rfl, Nat.le_of_ble_eq_true rfl, Nat.le_of_ble_eq_true rfl, Nat.le_of_ble_eq_true rfl⟩ (fun v17 H17 L17 S17 K17 q17 => ?_)
                  obtain ⟨q17, fq17⟩ := q17
                  have tk17 : Gd D G s.heap → (v11.toInt = 1) → Gd D G H17 := fun h9 k90 => (tk11 h9 k90).keep K17 (by decide +kernel)
                  have dv17 := dv_keep dv11 S11.1 (Or.inr gdd) K17
                  have fh17 := fh11.keep K17
                  rcases fq17 with ⟨c17, y17, z17, ts17⟩ | ⟨e17, y17, z17, wr17⟩
                  · skip
                    refine lv_if_ne (tgt := 83) hx hb dX10_readLines_78 (by decide) (fun c18 => ?_) (fun c18 => ?_)
                    · have b18 : ¬ v17.toInt = (0 : Int32).toInt := fun z9 => c18 (i_eq.mpr z9)
                      obtain ⟨v19, ev19⟩ : ∃ y : Int32, y = x1_21 + (1) := ⟨_, rfl⟩
                      have f20 : v19.toInt = x1_21.toInt + (1) := by rw [ev19]; exact i_addc k_1 (by omega) (by omega)
                      refine lv_iinc (v := v19) (lv' := [(1, .int v19), (0, .ref a0)]) hx hb dX10_readLines_83 hl (k := 0) rfl (by rw [ev19]; rfl) (by decide) rfl (fun ls hl => ?_)
                      refine lv_goto (tgt := 21) hx hb dX10_readLines_86 (by decide) ?_
                      exact ih21 v19 s11 c17 H17 L17 ls S17 (by omega) dv17 fh17 ts17 (by rw [u21_3, pls_st (m := 14 - (x1_21.toInt.toNat + 1)) (by omega) yk10 y11 yk15 y17]; exact congrArg (fun m9 => plsR T m9 _ _) (by omega)) (fun h9 => tk17 h9 (by omega)) (by omega) (lv_sub hl [0, 1] rfl)
                    · have b18 : v17.toInt = (0 : Int32).toInt := i_eq.mp c18
                      exact absurd b18 (by omega)
                  · skip
                    refine lv_if_ne (tgt := 83) hx hb dX10_readLines_78 (by decide) (fun c21 => ?_) (fun c21 => ?_)
                    · have b21 : ¬ v17.toInt = (0 : Int32).toInt := fun z9 => c21 (i_eq.mpr z9)
                      exact absurd b21 (by omega)
                    · have b21 : v17.toInt = (0 : Int32).toInt := i_eq.mp c21
                      refine lv_iconst (v := 0) hx hb dX10_readLines_81 (by decide) ?_
                      exact retE_z hQ C S17 hr dX10_readLines_82 (z01 (by omega) (by omega)) (⟨⟨by omega, fun h9 => absurd h9 (by decide)⟩, by have z9 := u21_3.trans (pls_sg (m := 14 - (x1_21.toInt.toNat + 1)) (by omega) yk10 y11 yk15 y17); rw [z9]; exact RsP.no rfl (by omega) wr17, fh17⟩)
                · have b14 : (fI D H11 9 tp 3).toInt = (0 : Int32).toInt := i_eq.mp c14
                  have yk22 : kd T c11 = 0 := by have z9 := ts11.2.1; omega
                  refine lv_iconst (v := 1) hx hb dX10_readLines_67 (by decide) ?_
                  exact retE_z hQ C S11 hr dX10_readLines_68 (z01 (by omega) (by omega)) (⟨⟨by omega, fun _ h9 => tk11 h9 (by omega)⟩, by have z9 := u21_3.trans (pls_end (m := 14 - (x1_21.toInt.toNat + 1)) (by omega) yk10 y11 yk22); rw [z9]; exact RsP.ok rfl (by omega) ts11 dv11, fh11⟩)
              · have b12 : v11.toInt = (0 : Int32).toInt := i_eq.mp c12
                exact absurd b12 (by omega)
            · skip
              refine lv_if_ne (tgt := 57) hx hb dX10_readLines_52 (by decide) (fun c23 => ?_) (fun c23 => ?_)
              · have b23 : ¬ v11.toInt = (0 : Int32).toInt := fun z9 => c23 (i_eq.mpr z9)
                exact absurd b23 (by omega)
              · have b23 : v11.toInt = (0 : Int32).toInt := i_eq.mp c23
                refine lv_iconst (v := 0) hx hb dX10_readLines_55 (by decide) ?_
                exact retE_z hQ C S11 hr dX10_readLines_56 (z01 (by omega) (by omega)) (⟨⟨by omega, fun h9 => absurd h9 (by decide)⟩, by have z9 := u21_3.trans (pls_no (m := 14 - (x1_21.toInt.toNat + 1)) (by omega) yk10 y11); rw [z9]; exact RsP.no rfl (by omega) wr11, fh11⟩)
          · have b9 : ¬ (fI D H_21 9 tp 3).toInt = (1 : Int32).toInt := fun z9 => c9 (i_eq.mpr z9)
            have yk24 : kd T b_21 ≠ 1 := by have z9 := u21_2.2.1; omega
            refine lv_aload_n hx hb dX10_readLines_40 rfl (lv_at hl 1 rfl) ?_
            refine q_gr (T := TX6) C S_21.1 ga0 0 kF_X10_7 dX10_readLines_41 rfl rfl (by decide) rfl (by decide) rfl (fun g25 => ?_)
            rw [show fR D H_21 6 a0 0 = tp from (S_21.2.1.fR ga0 rfl (by decide) (by decide +kernel)).trans htp]
            refine callV_Ei C S_21 (c_X9_refuse_f l D G tp T b_21 gtp) kV_X10_25 gtp (⟨trivial, u21_2⟩) (by decide +kernel) dX10_readLines_44 hl.1 rfl rfl (by decide) cd_X9_refuse ⟨Nat.le_of_ble_eq_true rfl, Nat.le_of_ble_eq_true rfl, Nat.le_of_ble_eq_true rfl, Nat.le_of_ble_eq_true rfl, Nat.le_of_ble_eq_true rfl⟩ (fun v26 H26 L26 S26 K26 q26 => ?_)
            obtain ⟨q26, fq26⟩ := q26
            have tk26 : Gd D G s.heap → Gd D G H26 := fun h9  => (u21_4 h9).keep K26 (by decide +kernel)
            have dv26 := dv_keep u21_0 S_21.1 (Or.inr gdd) K26
            have fh26 := u21_1.keep K26
            have z26 := fq26.1
            exact retE_z hQ C S26 hr dX10_readLines_47 (z01 (by omega) (by omega)) (⟨⟨by omega, fun _ h9 => tk26 h9⟩, by have z9 := u21_3.trans (pls_k (m := 14 - (x1_21.toInt.toNat + 1)) (by omega) yk24); rw [z9]; exact RsP.no rfl (by omega) fq26.2, fh26⟩)
    exact Lp21 15 (0 : Int32) sg (sk T 0) H2 L2 ls S2 (by omega) dv2 fh2 fq2 (by rw [show (0 : Int32).toInt.toNat = 0 by decide]; exact if_neg hk0) (fun h9 => tk2 h9)  (by omega) (lv_sub hl [0, 1] rfl)
  · have b4 : (fI D H2 9 tp 3).toInt = (0 : Int32).toInt := i_eq.mp c4
    refine lv_iconst (v := 1) hx hb dX10_readLines_17 (by decide) ?_
    have k_1 : (1 : Int32).toInt = 1 := by decide
    exact retE_z hQ C S2 hr dX10_readLines_18 (z01 (by omega) (by omega)) (⟨⟨by omega, fun _ h9 => tk2 h9⟩, by have z9 : parF T sg = (true, sk T 0, sg) := if_pos (by have := fq2.2.1; omega); rw [z9]; exact RsP.ok rfl (by omega) fq2 dv2, fh2⟩)
