set_option maxRecDepth 100000 in
set_option maxHeartbeats 4000000 in
theorem c_X6_readSees_f (l : Launch) (D : DD) (G : Nat → Nat) (a0 : Nat) (dd : Nat) (sg : Sg) (tp : Nat) (T : Tx) (b : Nat) (ga0 : G a0 = 20) (hw0 : isW T b w_sees = true) : CE l D G yX6_readSees cX6_readSees 3 (some .boolean) 7 [.ref a0] (fun H => (G (fR D H 6 a0 2) = 23) ∧ (fR D H 6 a0 0 = tp ∧ TS D H tp T b ∧ fR D H 6 a0 2 = dd ∧ DS D H dd ∧ SV (pv D H dd) sg)) [(2, 3), (2, 4), (2, 5), (2, 6), (2, 2), (7, 3)] (xI (fun H r H1 => ((0 ≤ r.toInt ∧ r.toInt ≤ 1) ∧ (r.toInt = 1 → Gd D G H → Gd D G H1)) ∧ (RsP D H1 tp dd T (seeF T sg b) r) ∧ (FH D G H H1 dd))) := by
  refine enter (by decide) (Nat.le_of_ble_eq_true rfl) ?_
  intro p e s m args below meth c ls Q hA hQ C hr hO hpre hl
  have hx := C.1
  have hb := C.2.1
  have S : Sd D G [(2, 3), (2, 4), (2, 5), (2, 6), (2, 2), (7, 3)] s.heap s.heap [] := Sd.start hO
  have hl : lv_has ls 3 [(0, .ref a0)] := hl
  obtain ⟨hpre, hf⟩ := hpre
  obtain ⟨htp, ts0, hdd, ds0, dv0⟩ := hf
  have gtp : G tp = 2 := by rw [← htp]; exact hO.rol ga0 rfl (by decide) rfl
  have gdd : G dd = 23 := by rw [← hdd]; exact hpre
  have hT : T.2 ≤ 400 := ts0.le hO gtp
  have ct0 : (fI D s.heap 5 dd 3).toInt = sg 0 := dv_0 dv0
  have tk0 : Gd D G s.heap → Gd D G s.heap := fun h => h
  refine lv_aload_n hx hb dX6_readSees_0 rfl (lv_at hl 0 rfl) ?_
  refine q_lds C ks_X6_31 dX6_readSees_1 (fun a1 ha1 wa1 => ?_)
  refine lv_iconst (v := 0) hx hb dX6_readSees_3 (by decide) ?_
  refine lv_iconst (v := 4) hx hb dX6_readSees_4 (by decide) ?_
  have k_0 : (0 : Int32).toInt = 0 := by decide
  have k_4 : (4 : Int32).toInt = 4 := by decide
  refine callV_Ei C S (c_X6_numberAfter_f l D G a0 a1 4 (0 : Int32) (4 : Int32) w_sees 0 4 tp T b ga0 ha1 (by omega) (Wc.of wa1 kw_sees) (by omega) (by omega)) kV_X6_57 ga0 (⟨trivial, ⟨htp, ts0⟩⟩) (by decide +kernel) dX6_readSees_5 hl.1 rfl rfl (by decide) cd_X6_numberAfter ⟨Nat.le_of_ble_eq_true rfl, Nat.le_of_ble_eq_true rfl, Nat.le_of_ble_eq_true rfl, Nat.le_of_ble_eq_true rfl, Nat.le_of_ble_eq_true rfl⟩ (fun v2 H2 L2 S2 K2 q2 => ?_)
  obtain ⟨q2, fq2⟩ := q2
  have tk2 : Gd D G s.heap → Gd D G H2 := fun h9  => (tk0 h9).keep K2 (by decide +kernel)
  have dv2 := dv_keep dv0 S.1 (Or.inr gdd) K2
  have ct2 : (fI D H2 5 dd 3).toInt = sg 0 := by rw [K2.fI gdd rfl (by decide) (by decide +kernel)]; exact ct0
  rcases fq2 with ⟨w2, y2, z2, ts2⟩ | ⟨w2, y2, z2, wr2⟩ | ⟨w2, z2, wr2⟩
  · clear q2
    have u2 : 0 ≤ v2.toInt ∧ v2.toInt ≤ 4 := by have z9 := num_r (T := T) (b := nx T b) (lo := 0) (hi := 4) (by decide); omega
    refine lv_istore_n (lv' := [(1, .int v2), (0, .ref a0)]) hx hb dX6_readSees_8 rfl hl (by decide) rfl (fun ls hl => ?_)
    refine lv_iload_n hx hb dX6_readSees_9 rfl (lv_at hl 0 rfl) ?_
    refine lv_iconst (v := -1) hx hb dX6_readSees_10 (by decide) ?_
    have k_m1 : (-1 : Int32).toInt = -1 := by decide
    refine lv_icmp_ne (tgt := 16) hx hb dX6_readSees_11 (by decide) (fun c3 => ?_) (fun c3 => ?_)
    · have b3 : ¬ v2.toInt = (-1 : Int32).toInt := fun z9 => c3 (i_eq.mpr z9)
      refine lv_aload_n hx hb dX6_readSees_16 rfl (lv_at hl 1 rfl) ?_
      refine q_grS (T := TX6) C S2.1 ga0 0 kF_X6_15 dX6_readSees_17 rfl rfl (by decide) rfl (by decide) kSF_X6_tape (fun g4 => ?_)
      rw [show fR D H2 6 a0 0 = tp from (S2.2.1.fR ga0 rfl (by decide) (by decide +kernel)).trans htp]
      refine lv_iconst (v := 0) hx hb dX6_readSees_20 (by decide) ?_
      refine lv_aload_n hx hb dX6_readSees_21 rfl (lv_at hl 1 rfl) ?_
      refine q_grD (T := TX6) C S2.1 ga0 2 kF_X6_11 dX6_readSees_22 rfl rfl (by decide) rfl (by decide) rfl (fun g5 => ?_)
      replace g5 : G (fR D H2 6 a0 2) = 23 := by rw [S2.2.1.fR ga0 rfl (by decide) (by decide +kernel)]; exact hpre
      rw [show fR D H2 6 a0 2 = dd from (S2.2.1.fR ga0 rfl (by decide) (by decide +kernel)).trans hdd]
      refine q_gi (T := TX5) C S2.1 gdd 3 kF_X6_44 dX6_readSees_25 rfl rfl (by decide) rfl (by decide) rfl ?_
      have c6 : (fI D H2 5 dd 3).toInt = (fI D s.heap 5 dd 3).toInt := by rw [K2.fI gdd rfl (by decide) (by decide +kernel)]
      have r7 : 0 ≤ (fI D H2 5 dd 3).toInt ∧ (fI D H2 5 dd 3).toInt ≤ 6 := S2.1.rng gdd rfl (by decide) rfl
      refine lv_iconst (v := 1) hx hb dX6_readSees_28 (by decide) ?_
      have k_1 : (1 : Int32).toInt = 1 := by decide
      refine lv_isub hx hb dX6_readSees_29 ?_
      refine lv_topi (fun v8 ev8 => ?_)
      have f9 : v8.toInt = (fI D H2 5 dd 3).toInt - (1 : Int32).toInt := by rw [ev8]; exact i_sub (by omega) (by omega)
      refine callV_Ei C S2 (c_X9_takeNumber_f l D G tp (0 : Int32) v8 0 (sg 0 - 1) T (nx T (nx T b)) gtp (by omega) (by omega) (by omega)) kV_X6_86 gtp (⟨trivial, ts2⟩) (by decide +kernel) dX6_readSees_30 hl.1 rfl rfl (by decide) cd_X9_takeNumber ⟨Nat.le_of_ble_eq_true rfl, Nat.le_of_ble_eq_true rfl, Nat.le_of_ble_eq_true rfl, Nat.le_of_ble_eq_true rfl, Nat.le_of_ble_eq_true rfl⟩ (fun v10 H10 L10 S10 K10 q10 => ?_)
      obtain ⟨q10, fq10⟩ := q10
      have tk10 : Gd D G s.heap → Gd D G H10 := fun h9  => (tk2 h9).keep K10 (by decide +kernel)
      have dv10 := dv_keep dv2 S2.1 (Or.inr gdd) K10
      have ct10 : (fI D H10 5 dd 3).toInt = sg 0 := by rw [K10.fI gdd rfl (by decide) (by decide +kernel)]; exact ct2
      rcases fq10 with ⟨z10, y10, ts10⟩ | ⟨z10, y10, wr10⟩
      · skip
        refine lv_istore_n (lv' := [(2, .int v10), (1, .int v2), (0, .ref a0)]) hx hb dX6_readSees_33 rfl hl (by decide) rfl (fun ls hl => ?_)
        refine lv_iload_n hx hb dX6_readSees_34 rfl (lv_at hl 0 rfl) ?_
        refine lv_iconst (v := -1) hx hb dX6_readSees_35 (by decide) ?_
        refine lv_icmp_ne (tgt := 41) hx hb dX6_readSees_36 (by decide) (fun c11 => ?_) (fun c11 => ?_)
        · have b11 : ¬ v10.toInt = (-1 : Int32).toInt := fun z9 => c11 (i_eq.mpr z9)
          refine lv_aload_n hx hb dX6_readSees_41 rfl (lv_at hl 2 rfl) ?_
          refine q_grD (T := TX6) C S10.1 ga0 2 kF_X6_11 dX6_readSees_42 rfl rfl (by decide) rfl (by decide) rfl (fun g12 => ?_)
          replace g12 : G (fR D H10 6 a0 2) = 23 := by rw [S10.2.1.fR ga0 rfl (by decide) (by decide +kernel)]; exact hpre
          rw [show fR D H10 6 a0 2 = dd from (S10.2.1.fR ga0 rfl (by decide) (by decide +kernel)).trans hdd]
          refine q_gr (T := TX5) C S10.1 gdd 0 kF_X6_53 dX6_readSees_45 rfl rfl (by decide) rfl (by decide) rfl (fun g13 => ?_)
          refine lv_iload_n hx hb dX6_readSees_48 rfl (lv_at hl 0 rfl) ?_
          refine q_aald C S10.1 g13 (by omega) (by omega) dX6_readSees_49 rfl (by decide) rfl rfl (fun g14 => ?_)
          refine lv_dup hx hb dX6_readSees_50 rfl ?_
          refine q_gi (T := TX2) C S10.1 g14 3 kF_X6_70 dX6_readSees_51 rfl rfl (by decide) rfl (by decide) rfl ?_
          have c15 : (fI D H10 2 (eR H10 (fR D H10 5 dd 0) v10.toInt.toNat) 3).toInt = (fI D s.heap 2 (eR H10 (fR D H10 5 dd 0) v10.toInt.toNat) 3).toInt := by rw [K10.fI g14 rfl (by decide) (by decide +kernel), K2.fI g14 rfl (by decide) (by decide +kernel)]
          refine lv_iconst (v := 1) hx hb dX6_readSees_54 (by decide) ?_
          refine lv_iload_n hx hb dX6_readSees_55 rfl (lv_at hl 1 rfl) ?_
          refine lv_ishl hx hb dX6_readSees_56 ?_
          refine lv_topi (fun v16 ev16 => ?_)
          have f17 : 1 ≤ v16.toInt ∧ v16.toInt ≤ 16 := by rw [ev16]; exact i_shl1 4 (by omega) (by omega) (by decide)
          refine lv_ior hx hb dX6_readSees_57 ?_
          refine lv_topi (fun v18 ev18 => ?_)
          refine q_put (T := TX2) C S10 g14 3 kF_X6_70 dX6_readSees_58 rfl rfl (by decide) (by decide) rfl rfl rfl rfl rfl (vok_a rfl) (by decide +kernel) (fun H19 L19 S19 P19 => ?_)
          have tk19 : Gd D G s.heap → Gd D G H19 := fun h9  => (tk10 h9).put g14 P19 (Or.inl (by decide))
          have ts19 := ts10.cells S10.1 gtp g14 (by decide) (by decide) P19.2.2.1
          have dv19 := dv_keep dv10 S10.1 (Or.inr gdd) (Pt.keep g14 rfl (by decide) P19)
          have ct19 : (fI D H19 5 dd 3).toInt = sg 0 := by rw [Pt.f P19 (ne_role gdd g14 (by decide))]; exact ct10
          refine lv_iconst (v := 1) hx hb dX6_readSees_61 (by decide) ?_
          exact retE_z hQ C S19 hr dX6_readSees_62 (z01 (by omega) (by omega)) (⟨⟨by omega, fun _ h9 => tk19 h9⟩, RsP.ok (s1 := sg) (by simp [seeF, w2, y2, y10]) (by omega) ts19 (dv19), fun q hq _ => S19.2.1.fI hq rfl (by decide) (by decide +kernel)⟩)
        · have b11 : v10.toInt = (-1 : Int32).toInt := i_eq.mp c11
          exact absurd b11 (by omega)
      · skip
        refine lv_istore_n (lv' := [(2, .int v10), (1, .int v2), (0, .ref a0)]) hx hb dX6_readSees_33 rfl hl (by decide) rfl (fun ls hl => ?_)
        refine lv_iload_n hx hb dX6_readSees_34 rfl (lv_at hl 0 rfl) ?_
        refine lv_iconst (v := -1) hx hb dX6_readSees_35 (by decide) ?_
        refine lv_icmp_ne (tgt := 41) hx hb dX6_readSees_36 (by decide) (fun c20 => ?_) (fun c20 => ?_)
        · have b20 : ¬ v10.toInt = (-1 : Int32).toInt := fun z9 => c20 (i_eq.mpr z9)
          exact absurd b20 (by omega)
        · have b20 : v10.toInt = (-1 : Int32).toInt := i_eq.mp c20
          refine lv_iconst (v := 0) hx hb dX6_readSees_39 (by decide) ?_
          exact retE_z hQ C S10 hr dX6_readSees_40 (z01 (by omega) (by omega)) (⟨⟨by omega, fun _ h9 => tk10 h9⟩, RsP.no (s1 := sg) (by simp [seeF, w2, y2, y10]) (by omega) wr10, fun q hq _ => S10.2.1.fI hq rfl (by decide) (by decide +kernel)⟩)
    · have b3 : v2.toInt = (-1 : Int32).toInt := i_eq.mp c3
      exact absurd b3 (by omega)
  · clear q2
    refine lv_istore_n (lv' := [(1, .int v2), (0, .ref a0)]) hx hb dX6_readSees_8 rfl hl (by decide) rfl (fun ls hl => ?_)
    refine lv_iload_n hx hb dX6_readSees_9 rfl (lv_at hl 0 rfl) ?_
    refine lv_iconst (v := -1) hx hb dX6_readSees_10 (by decide) ?_
    have k_m1 : (-1 : Int32).toInt = -1 := by decide
    refine lv_icmp_ne (tgt := 16) hx hb dX6_readSees_11 (by decide) (fun c21 => ?_) (fun c21 => ?_)
    · have b21 : ¬ v2.toInt = (-1 : Int32).toInt := fun z9 => c21 (i_eq.mpr z9)
      exact absurd b21 (by omega)
    · have b21 : v2.toInt = (-1 : Int32).toInt := i_eq.mp c21
      refine lv_iconst (v := 0) hx hb dX6_readSees_14 (by decide) ?_
      exact retE_z hQ C S2 hr dX6_readSees_15 (z01 (by omega) (by omega)) (⟨⟨by omega, fun _ h9 => tk2 h9⟩, RsP.no (s1 := sg) (by simp [seeF, w2, y2]) (by omega) wr2, fun q hq _ => S2.2.1.fI hq rfl (by decide) (by decide +kernel)⟩)
  · exact absurd hw0 (by rw [w2]; decide)
