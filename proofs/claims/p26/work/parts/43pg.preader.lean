set_option maxRecDepth 100000 in
set_option maxHeartbeats 4000000 in
theorem c_X6_readHearth_f (l : Launch) (D : DD) (G : Nat → Nat) (a0 : Nat) (dd : Nat) (sg : Sg) (tp : Nat) (T : Tx) (b : Nat) (ga0 : G a0 = 20) : CE l D G yX6_readHearth cX6_readHearth 2 (some .boolean) 7 [.ref a0] (fun H => (G (fR D H 6 a0 2) = 23) ∧ (fR D H 6 a0 0 = tp ∧ TS D H tp T b ∧ fR D H 6 a0 2 = dd ∧ DS D H dd ∧ SV (pv D H dd) sg)) [(2, 3), (2, 4), (2, 5), (2, 6), (2, 2), (25, 0), (25, 1), (25, 2), (25, 3), (25, 4), (25, 5), (23, 4)] (xI (fun H r H1 => ((0 ≤ r.toInt ∧ r.toInt ≤ 1) ∧ (r.toInt = 1 → Gd D G H → Gd D G H1)) ∧ (RsP D H1 tp dd T (heaF T sg b) r) ∧ (FH D G H H1 dd))) := by
  refine enter (by decide) (Nat.le_of_ble_eq_true rfl) ?_
  intro p e s m args below meth c ls Q hA hQ C hr hO hpre hl
  have hx := C.1
  have hb := C.2.1
  have S : Sd D G [(2, 3), (2, 4), (2, 5), (2, 6), (2, 2), (25, 0), (25, 1), (25, 2), (25, 3), (25, 4), (25, 5), (23, 4)] s.heap s.heap [] := Sd.start hO
  have hl : lv_has ls 2 [(0, .ref a0)] := hl
  obtain ⟨hpre, hf⟩ := hpre
  obtain ⟨htp, ts0, hdd, ds0, dv0⟩ := hf
  have gtp : G tp = 2 := by rw [← htp]; exact hO.rol ga0 rfl (by decide) rfl
  have gdd : G dd = 23 := by rw [← hdd]; exact hpre
  have hT : T.2 ≤ 400 := ts0.le hO gtp
  have ct0 : (fI D s.heap 5 dd 4).toInt = sg 1 := dv_1 dv0
  have tk0 : Gd D G s.heap → Gd D G s.heap := fun h => h
  refine lv_aload_n hx hb dX6_readHearth_0 rfl (lv_at hl 0 rfl) ?_
  refine q_grD (T := TX6) C S.1 ga0 2 kF_X6_11 dX6_readHearth_1 rfl rfl (by decide) rfl (by decide) rfl (fun g1 => ?_)
  replace g1 : G (fR D s.heap 6 a0 2) = 23 := by rw [S.2.1.fR ga0 rfl (by decide) (by decide +kernel)]; exact hpre
  rw [show fR D s.heap 6 a0 2 = dd from hdd]
  refine q_gi (T := TX5) C S.1 gdd 4 kF_X6_90 dX6_readHearth_4 rfl rfl (by decide) rfl (by decide) rfl ?_
  have r2 : 0 ≤ (fI D s.heap 5 dd 4).toInt ∧ (fI D s.heap 5 dd 4).toInt ≤ 12 := S.1.rng gdd rfl (by decide) rfl
  refine lv_bipush (v := 12) hx hb dX6_readHearth_7 (by decide) ?_
  have k_12 : (12 : Int32).toInt = 12 := by decide
  refine lv_icmp_lt (tgt := 20) hx hb dX6_readHearth_9 (by decide) (fun c3 => ?_) (fun c3 => ?_)
  · have b3 : (fI D s.heap 5 dd 4).toInt < (12 : Int32).toInt := i_lt.mp c3
    have hc4 : ¬ sg 1 = 12 := by omega
    refine lv_aload_n hx hb dX6_readHearth_20 rfl (lv_at hl 0 rfl) ?_
    refine q_grD (T := TX6) C S.1 ga0 2 kF_X6_11 dX6_readHearth_21 rfl rfl (by decide) rfl (by decide) rfl (fun g5 => ?_)
    replace g5 : G (fR D s.heap 6 a0 2) = 23 := by rw [S.2.1.fR ga0 rfl (by decide) (by decide +kernel)]; exact hpre
    rw [show fR D s.heap 6 a0 2 = dd from hdd]
    refine q_gr (T := TX5) C S.1 gdd 1 kF_X6_93 dX6_readHearth_24 rfl rfl (by decide) rfl (by decide) rfl (fun g6 => ?_)
    refine lv_aload_n hx hb dX6_readHearth_27 rfl (lv_at hl 0 rfl) ?_
    refine q_grD (T := TX6) C S.1 ga0 2 kF_X6_11 dX6_readHearth_28 rfl rfl (by decide) rfl (by decide) rfl (fun g7 => ?_)
    replace g7 : G (fR D s.heap 6 a0 2) = 23 := by rw [S.2.1.fR ga0 rfl (by decide) (by decide +kernel)]; exact hpre
    rw [show fR D s.heap 6 a0 2 = dd from hdd]
    refine q_gi (T := TX5) C S.1 gdd 4 kF_X6_90 dX6_readHearth_31 rfl rfl (by decide) rfl (by decide) rfl ?_
    refine q_aald C S.1 g6 (by omega) (by omega) dX6_readHearth_34 rfl (by decide) rfl rfl (fun g8 => ?_)
    have bhs : ∀ q, G q = 25 → q ≠ (eR s.heap (fR D s.heap 5 dd 1) (fI D s.heap 5 dd 4).toInt.toNat) → fI D s.heap 1 q 0 = fI D s.heap 1 q 0 := fun _ _ _ => rfl
    have h06 : 0 ≤ sg 1 ∧ sg 1 < 12 := ⟨by omega, by omega⟩
    have er0 : (eR s.heap (fR D s.heap 5 dd 1) (fI D s.heap 5 dd 4).toInt.toNat) = hsA D s.heap dd (sg 1).toNat := congrArg (fun z9 : Int => eR s.heap (fR D s.heap 5 dd 1) z9.toNat) ct0
    refine lv_astore_n (lv' := [(1, .ref (eR s.heap (fR D s.heap 5 dd 1) (fI D s.heap 5 dd 4).toInt.toNat)), (0, .ref a0)]) hx hb dX6_readHearth_35 rfl hl (by decide) rfl (fun ls hl => ?_)
    refine lv_aload_n hx hb dX6_readHearth_36 rfl (lv_at hl 1 rfl) ?_
    refine q_grS (T := TX6) C S.1 ga0 0 kF_X6_15 dX6_readHearth_37 rfl rfl (by decide) rfl (by decide) kSF_X6_tape (fun g9 => ?_)
    rw [show fR D s.heap 6 a0 0 = tp from htp]
    refine callV_Ev C S (c_X9_next_f l D G tp T b gtp) kV_X6_81 gtp (⟨trivial, ts0⟩) (by decide +kernel) dX6_readHearth_40 hl.1 rfl rfl (by decide) cd_X9_next ⟨Nat.le_of_ble_eq_true rfl, Nat.le_of_ble_eq_true rfl, Nat.le_of_ble_eq_true rfl, Nat.le_of_ble_eq_true rfl, Nat.le_of_ble_eq_true rfl⟩ (fun H10 L10 S10 K10 q10 => ?_)
    obtain ⟨q10, fq10⟩ := q10
    have tk10 : Gd D G s.heap → Gd D G H10 := fun h9  => (tk0 h9).keep K10 (by decide +kernel)
    have dv10 := dv_keep dv0 S.1 (Or.inr gdd) K10
    have ct10 : (fI D H10 5 dd 4).toInt = sg 1 := by rw [K10.fI gdd rfl (by decide) (by decide +kernel)]; exact ct0
    have bh10 : ∀ q, G q = 25 → q ≠ (eR s.heap (fR D s.heap 5 dd 1) (fI D s.heap 5 dd 4).toInt.toNat) → fI D H10 1 q 0 = fI D s.heap 1 q 0 := fun q hq hn => (K10.fI hq rfl (by decide) (by decide +kernel)).trans (bhs q hq hn)
    refine lv_aload_n hx hb dX6_readHearth_43 rfl (lv_at hl 0 rfl) ?_
    refine lv_aload_n hx hb dX6_readHearth_44 rfl (lv_at hl 1 rfl) ?_
    refine callV_Pi C S10.1 S10.2.1.2.1 (c_X6_presentKind_f l D G a0 tp T (nx T b) ga0) kV_X6_97 ga0 (⟨trivial, ⟨(S10.2.1.fR ga0 rfl (by decide) (by decide +kernel)).trans htp, fq10⟩⟩) dX6_readHearth_45 hl.1 rfl rfl (by decide) cd_X6_presentKind ⟨Nat.le_of_ble_eq_true rfl, Nat.le_of_ble_eq_true rfl, Nat.le_of_ble_eq_true rfl, Nat.le_of_ble_eq_true rfl, Nat.le_of_ble_eq_true rfl⟩ (fun v11 q11 => ?_)
    obtain ⟨q11, fq11⟩ := q11
    refine q_put (T := TX1) C S10 g8 1 kF_X6_101 dX6_readHearth_48 rfl rfl (by decide) (by decide) rfl rfl rfl rfl rfl (vok_a rfl) (by decide +kernel) (fun H12 L12 S12 P12 => ?_)
    have tk12 : Gd D G s.heap → Gd D G H12 := fun h9  => (tk10 h9).put g8 P12 (Or.inr ⟨rfl, by decide, by decide⟩)
    have ts12 := fq10.cells S10.1 gtp g8 (by decide) (by decide) P12.2.2.1
    have dv12 := dv_keep dv10 S10.1 (Or.inr gdd) (Pt.keep g8 rfl (by decide) P12)
    have ct12 : (fI D H12 5 dd 4).toInt = sg 1 := by rw [Pt.f P12 (ne_role gdd g8 (by decide))]; exact ct10
    have bh12 : ∀ q, G q = 25 → q ≠ (eR s.heap (fR D s.heap 5 dd 1) (fI D s.heap 5 dd 4).toInt.toNat) → fI D H12 1 q 0 = fI D s.heap 1 q 0 := fun q hq hn => (Pt.any P12 (by decide) (by decide) q).trans (bh10 q hq hn)
    refine lv_aload_n hx hb dX6_readHearth_51 rfl (lv_at hl 0 rfl) ?_
    refine q_gi (T := TX1) C S12.1 g8 1 kF_X6_101 dX6_readHearth_52 rfl rfl (by decide) rfl (by decide) rfl ?_
    have c13 : (fI D H12 1 (eR s.heap (fR D s.heap 5 dd 1) (fI D s.heap 5 dd 4).toInt.toNat) 1).toInt = v11.toInt := by rw [Pt.i P12]
    refine lv_iconst (v := -1) hx hb dX6_readHearth_55 (by decide) ?_
    have k_m1 : (-1 : Int32).toInt = -1 := by decide
    refine lv_icmp_ne (tgt := 67) hx hb dX6_readHearth_56 (by decide) (fun c14 => ?_) (fun c14 => ?_)
    · have b14 : ¬ (fI D H12 1 (eR s.heap (fR D s.heap 5 dd 1) (fI D s.heap 5 dd 4).toInt.toNat) 1).toInt = (-1 : Int32).toInt := fun z9 => c14 (i_eq.mpr z9)
      have hk15 : ¬ kin T (nx T b) = -1 := by omega
      refine lv_aload_n hx hb dX6_readHearth_67 rfl (lv_at hl 1 rfl) ?_
      refine q_grS (T := TX6) C S12.1 ga0 0 kF_X6_15 dX6_readHearth_68 rfl rfl (by decide) rfl (by decide) kSF_X6_tape (fun g16 => ?_)
      rw [show fR D H12 6 a0 0 = tp from (S12.2.1.fR ga0 rfl (by decide) (by decide +kernel)).trans htp]
      refine callV_Ev C S12 (c_X9_next_f l D G tp T (nx T b) gtp) kV_X6_81 gtp (⟨trivial, ts12⟩) (by decide +kernel) dX6_readHearth_71 hl.1 rfl rfl (by decide) cd_X9_next ⟨Nat.le_of_ble_eq_true rfl, Nat.le_of_ble_eq_true rfl, Nat.le_of_ble_eq_true rfl, Nat.le_of_ble_eq_true rfl, Nat.le_of_ble_eq_true rfl⟩ (fun H17 L17 S17 K17 q17 => ?_)
      obtain ⟨q17, fq17⟩ := q17
      have tk17 : Gd D G s.heap → Gd D G H17 := fun h9  => (tk12 h9).keep K17 (by decide +kernel)
      have dv17 := dv_keep dv12 S12.1 (Or.inr gdd) K17
      have ct17 : (fI D H17 5 dd 4).toInt = sg 1 := by rw [K17.fI gdd rfl (by decide) (by decide +kernel)]; exact ct12
      have bh17 : ∀ q, G q = 25 → q ≠ (eR s.heap (fR D s.heap 5 dd 1) (fI D s.heap 5 dd 4).toInt.toNat) → fI D H17 1 q 0 = fI D s.heap 1 q 0 := fun q hq hn => (K17.fI hq rfl (by decide) (by decide +kernel)).trans (bh12 q hq hn)
      refine lv_aload_n hx hb dX6_readHearth_74 rfl (lv_at hl 1 rfl) ?_
      refine q_grS (T := TX6) C S17.1 ga0 0 kF_X6_15 dX6_readHearth_75 rfl rfl (by decide) rfl (by decide) kSF_X6_tape (fun g18 => ?_)
      rw [show fR D H17 6 a0 0 = tp from (S17.2.1.fR ga0 rfl (by decide) (by decide +kernel)).trans htp]
      refine q_lds C ks_X6_106 dX6_readHearth_78 (fun a19 ha19 wa19 => ?_)
      refine callV_Ei C S17 (c_X9_takeWord_f l D G tp a19 2 w_of T (nx T (nx T b)) gtp ha19 (Wc.of wa19 kw_of)) kV_X6_108 gtp (⟨trivial, fq17⟩) (by decide +kernel) dX6_readHearth_80 hl.1 rfl rfl (by decide) cd_X9_takeWord ⟨Nat.le_of_ble_eq_true rfl, Nat.le_of_ble_eq_true rfl, Nat.le_of_ble_eq_true rfl, Nat.le_of_ble_eq_true rfl, Nat.le_of_ble_eq_true rfl⟩ (fun v20 H20 L20 S20 K20 q20 => ?_)
      obtain ⟨q20, fq20⟩ := q20
      have tk20 : Gd D G s.heap → Gd D G H20 := fun h9  => (tk17 h9).keep K20 (by decide +kernel)
      have dv20 := dv_keep dv17 S17.1 (Or.inr gdd) K20
      have ct20 : (fI D H20 5 dd 4).toInt = sg 1 := by rw [K20.fI gdd rfl (by decide) (by decide +kernel)]; exact ct17
      have bh20 : ∀ q, G q = 25 → q ≠ (eR s.heap (fR D s.heap 5 dd 1) (fI D s.heap 5 dd 4).toInt.toNat) → fI D H20 1 q 0 = fI D s.heap 1 q 0 := fun q hq hn => (K20.fI hq rfl (by decide) (by decide +kernel)).trans (bh17 q hq hn)
      rcases fq20 with ⟨c20, y20, z20, ts20⟩ | ⟨e20, y20, z20, wr20⟩
      · obtain ⟨w20, rfl⟩ := tkW_t y20
        have k_0 : (0 : Int32).toInt = 0 := by decide
        refine lv_if_ne (tgt := 88) hx hb dX6_readHearth_83 (by decide) (fun c21 => ?_) (fun c21 => ?_)
        · have b21 : ¬ v20.toInt = (0 : Int32).toInt := fun z9 => c21 (i_eq.mpr z9)
          refine lv_aload_n hx hb dX6_readHearth_88 rfl (lv_at hl 0 rfl) ?_
          refine lv_aload_n hx hb dX6_readHearth_89 rfl (lv_at hl 1 rfl) ?_
          refine callV_Ei C S20 (c_X6_roomyHouse_f l D G a0 dd sg tp T (nx T (nx T (nx T b))) ga0) kV_X6_111 ga0 (⟨by rw [S20.2.1.fR ga0 rfl (by decide) (by decide +kernel)]; exact hpre, (S20.2.1.fR ga0 rfl (by decide) (by decide +kernel)).trans htp, ts20, (S20.2.1.fR ga0 rfl (by decide) (by decide +kernel)).trans hdd, (ds0.keep hO (Or.inr gdd) S20.2.1 (by decide +kernel)), dv20⟩) (by decide +kernel) dX6_readHearth_90 hl.1 rfl rfl (by decide) cd_X6_roomyHouse ⟨Nat.le_of_ble_eq_true rfl, Nat.le_of_ble_eq_true rfl, Nat.le_of_ble_eq_true rfl, Nat.le_of_ble_eq_true rfl, Nat.le_of_ble_eq_true rfl⟩ (fun v22 H22 L22 S22 K22 q22 => ?_)
          obtain ⟨q22, fq22⟩ := q22
          have tk22 : Gd D G s.heap → Gd D G H22 := fun h9  => (tk20 h9).keep K22 (by decide +kernel)
          have dv22 := dv_keep dv20 S20.1 (Or.inr gdd) K22
          have ct22 : (fI D H22 5 dd 4).toInt = sg 1 := by rw [K22.fI gdd rfl (by decide) (by decide +kernel)]; exact ct20
          have bh22 : ∀ q, G q = 25 → q ≠ (eR s.heap (fR D s.heap 5 dd 1) (fI D s.heap 5 dd 4).toInt.toNat) → fI D H22 1 q 0 = fI D s.heap 1 q 0 := fun q hq hn => (K22.fI hq rfl (by decide) (by decide +kernel)).trans (bh20 q hq hn)
          rcases fq22 with ⟨y22, w22, z22, ts22⟩ | ⟨y22, z22, wr22⟩
          · have u22 : 0 ≤ v22.toInt := by have z9 := num_r (T := T) (b := (nx T (nx T (nx T b)))) (lo := 0) (hi := sg 0 - 1) (by decide); omega
            refine q_put (T := TX1) C S22 g8 0 kF_X6_114 dX6_readHearth_93 rfl rfl (by decide) (by decide) rfl rfl rfl rfl rfl (vok_i rfl (by omega) (by omega)) (by decide +kernel) (fun H23 L23 S23 P23 => ?_)
            have tk23 : Gd D G s.heap → (0 ≤ v22.toInt ∧ v22.toInt ≤ 5) → Gd D G H23 := fun h9 k90 => Gd.put0 (fun b9 hb9 _ => (tk22 h9) b9 hb9) P23 k90
            have ts23 := ts22.cells S22.1 gtp g8 (by decide) (by decide) P23.2.2.1
            have ct23 : (fI D H23 5 dd 4).toInt = sg 1 := by rw [Pt.f P23 (ne_role gdd g8 (by decide))]; exact ct22
            have bh23 : ∀ q, G q = 25 → q ≠ (eR s.heap (fR D s.heap 5 dd 1) (fI D s.heap 5 dd 4).toInt.toNat) → fI D H23 1 q 0 = fI D s.heap 1 q 0 := fun q hq hn => (Pt.f P23 hn).trans (bh22 q hq hn)
            have bv23 : fI D H23 1 (eR s.heap (fR D s.heap 5 dd 1) (fI D s.heap 5 dd 4).toInt.toNat) 0 = v22 := Pt.i P23
            refine lv_aload_n hx hb dX6_readHearth_96 rfl (lv_at hl 0 rfl) ?_
            refine q_gi (T := TX1) C S23.1 g8 0 kF_X6_114 dX6_readHearth_97 rfl rfl (by decide) rfl (by decide) rfl ?_
            have c24 : (fI D H23 1 (eR s.heap (fR D s.heap 5 dd 1) (fI D s.heap 5 dd 4).toInt.toNat) 0).toInt = v22.toInt := by rw [Pt.i P23]
            have r25 : -1 ≤ (fI D H23 1 (eR s.heap (fR D s.heap 5 dd 1) (fI D s.heap 5 dd 4).toInt.toNat) 0).toInt ∧ (fI D H23 1 (eR s.heap (fR D s.heap 5 dd 1) (fI D s.heap 5 dd 4).toInt.toNat) 0).toInt ≤ 5 := S23.1.rng g8 rfl (by decide) rfl
            refine lv_iconst (v := -1) hx hb dX6_readHearth_100 (by decide) ?_
            refine lv_icmp_ne (tgt := 106) hx hb dX6_readHearth_101 (by decide) (fun c26 => ?_) (fun c26 => ?_)
            · have b26 : ¬ (fI D H23 1 (eR s.heap (fR D s.heap 5 dd 1) (fI D s.heap 5 dd 4).toInt.toNat) 0).toInt = (-1 : Int32).toInt := fun z9 => c26 (i_eq.mpr z9)
              refine lv_aload_n hx hb dX6_readHearth_106 rfl (lv_at hl 0 rfl) ?_
              refine lv_aload_n hx hb dX6_readHearth_107 rfl (lv_at hl 1 rfl) ?_
              refine q_lds C ks_X6_116 dX6_readHearth_108 (fun a27 ha27 wa27 => ?_)
              refine lv_iconst (v := 0) hx hb dX6_readHearth_110 (by decide) ?_
              refine lv_bipush (v := 9) hx hb dX6_readHearth_111 (by decide) ?_
              have k_9 : (9 : Int32).toInt = 9 := by decide
              refine callV_Ei C S23 (c_X6_numberAfter_f l D G a0 a27 4 (0 : Int32) (9 : Int32) w_flue 0 9 tp T (nx T (nx T (nx T (nx T b)))) ga0 ha27 (by omega) (Wc.of wa27 kw_flue) (by omega) (by omega)) kV_X6_57 ga0 (⟨trivial, ⟨(S23.2.1.fR ga0 rfl (by decide) (by decide +kernel)).trans htp, ts23⟩⟩) (by decide +kernel) dX6_readHearth_113 hl.1 rfl rfl (by decide) cd_X6_numberAfter ⟨Nat.le_of_ble_eq_true rfl, Nat.le_of_ble_eq_true rfl, Nat.le_of_ble_eq_true rfl, Nat.le_of_ble_eq_true rfl, Nat.le_of_ble_eq_true rfl⟩ (fun v28 H28 L28 S28 K28 q28 => ?_)
              obtain ⟨q28, fq28⟩ := q28
              have tk28 : Gd D G s.heap → (0 ≤ v22.toInt ∧ v22.toInt ≤ 5) → Gd D G H28 := fun h9 k90 => (tk23 h9 k90).keep K28 (by decide +kernel)
              have ct28 : (fI D H28 5 dd 4).toInt = sg 1 := by rw [K28.fI gdd rfl (by decide) (by decide +kernel)]; exact ct23
              have bh28 : ∀ q, G q = 25 → q ≠ (eR s.heap (fR D s.heap 5 dd 1) (fI D s.heap 5 dd 4).toInt.toNat) → fI D H28 1 q 0 = fI D s.heap 1 q 0 := fun q hq hn => (K28.fI hq rfl (by decide) (by decide +kernel)).trans (bh23 q hq hn)
              have bv28 : fI D H28 1 (eR s.heap (fR D s.heap 5 dd 1) (fI D s.heap 5 dd 4).toInt.toNat) 0 = v22 := (K28.fI g8 rfl (by decide) (by decide +kernel)).trans bv23
              rcases fq28 with ⟨w28, y28, z28, ts28⟩ | ⟨w28, y28, z28, wr28⟩ | ⟨w28, z28, wr28⟩
              · clear q28
                have u28 : 0 ≤ v28.toInt ∧ v28.toInt ≤ 9 := by have z9 := num_r (T := T) (b := nx T (nx T (nx T (nx T (nx T b))))) (lo := 0) (hi := 9) (by decide); omega
                refine q_put (T := TX1) C S28 g8 2 kF_X6_118 dX6_readHearth_116 rfl rfl (by decide) (by decide) rfl rfl rfl rfl rfl (vok_a rfl) (by decide +kernel) (fun H29 L29 S29 P29 => ?_)
                have tk29 : Gd D G s.heap → (0 ≤ v22.toInt ∧ v22.toInt ≤ 5) → Gd D G H29 := fun h9 k90 => (tk28 h9 k90).put g8 P29 (Or.inr ⟨rfl, by decide, by decide⟩)
                have ts29 := ts28.cells S28.1 gtp g8 (by decide) (by decide) P29.2.2.1
                have ct29 : (fI D H29 5 dd 4).toInt = sg 1 := by rw [Pt.f P29 (ne_role gdd g8 (by decide))]; exact ct28
                have bh29 : ∀ q, G q = 25 → q ≠ (eR s.heap (fR D s.heap 5 dd 1) (fI D s.heap 5 dd 4).toInt.toNat) → fI D H29 1 q 0 = fI D s.heap 1 q 0 := fun q hq hn => (Pt.any P29 (by decide) (by decide) q).trans (bh28 q hq hn)
                have bv29 : fI D H29 1 (eR s.heap (fR D s.heap 5 dd 1) (fI D s.heap 5 dd 4).toInt.toNat) 0 = v22 := (Pt.any P29 (by decide) (by decide) _).trans bv28
                refine lv_aload_n hx hb dX6_readHearth_119 rfl (lv_at hl 0 rfl) ?_
                refine q_gi (T := TX1) C S29.1 g8 2 kF_X6_118 dX6_readHearth_120 rfl rfl (by decide) rfl (by decide) rfl ?_
                have c30 : (fI D H29 1 (eR s.heap (fR D s.heap 5 dd 1) (fI D s.heap 5 dd 4).toInt.toNat) 2).toInt = v28.toInt := by rw [Pt.i P29]
                refine lv_iconst (v := -1) hx hb dX6_readHearth_123 (by decide) ?_
                refine lv_icmp_ne (tgt := 129) hx hb dX6_readHearth_124 (by decide) (fun c31 => ?_) (fun c31 => ?_)
                · have b31 : ¬ (fI D H29 1 (eR s.heap (fR D s.heap 5 dd 1) (fI D s.heap 5 dd 4).toInt.toNat) 2).toInt = (-1 : Int32).toInt := fun z9 => c31 (i_eq.mpr z9)
                  refine lv_aload_n hx hb dX6_readHearth_129 rfl (lv_at hl 0 rfl) ?_
                  refine lv_aload_n hx hb dX6_readHearth_130 rfl (lv_at hl 1 rfl) ?_
                  refine q_lds C ks_X6_120 dX6_readHearth_131 (fun a32 ha32 wa32 => ?_)
                  refine lv_iconst (v := 1) hx hb dX6_readHearth_133 (by decide) ?_
                  refine lv_bipush (v := 9) hx hb dX6_readHearth_134 (by decide) ?_
                  have k_1 : (1 : Int32).toInt = 1 := by decide
                  refine callV_Ei C S29 (c_X6_numberAfter_f l D G a0 a32 4 (1 : Int32) (9 : Int32) w_warm 1 9 tp T (nx T (nx T (nx T (nx T (nx T (nx T b)))))) ga0 ha32 (by omega) (Wc.of wa32 kw_warm) (by omega) (by omega)) kV_X6_57 ga0 (⟨trivial, ⟨(S29.2.1.fR ga0 rfl (by decide) (by decide +kernel)).trans htp, ts29⟩⟩) (by decide +kernel) dX6_readHearth_136 hl.1 rfl rfl (by decide) cd_X6_numberAfter ⟨Nat.le_of_ble_eq_true rfl, Nat.le_of_ble_eq_true rfl, Nat.le_of_ble_eq_true rfl, Nat.le_of_ble_eq_true rfl, Nat.le_of_ble_eq_true rfl⟩ (fun v33 H33 L33 S33 K33 q33 => ?_)
                  obtain ⟨q33, fq33⟩ := q33
                  have tk33 : Gd D G s.heap → (0 ≤ v22.toInt ∧ v22.toInt ≤ 5) → Gd D G H33 := fun h9 k90 => (tk29 h9 k90).keep K33 (by decide +kernel)
                  have ct33 : (fI D H33 5 dd 4).toInt = sg 1 := by rw [K33.fI gdd rfl (by decide) (by decide +kernel)]; exact ct29
                  have bh33 : ∀ q, G q = 25 → q ≠ (eR s.heap (fR D s.heap 5 dd 1) (fI D s.heap 5 dd 4).toInt.toNat) → fI D H33 1 q 0 = fI D s.heap 1 q 0 := fun q hq hn => (K33.fI hq rfl (by decide) (by decide +kernel)).trans (bh29 q hq hn)
                  have bv33 : fI D H33 1 (eR s.heap (fR D s.heap 5 dd 1) (fI D s.heap 5 dd 4).toInt.toNat) 0 = v22 := (K33.fI g8 rfl (by decide) (by decide +kernel)).trans bv29
                  rcases fq33 with ⟨w33, y33, z33, ts33⟩ | ⟨w33, y33, z33, wr33⟩ | ⟨w33, z33, wr33⟩
                  · clear q33
                    have u33 : 1 ≤ v33.toInt ∧ v33.toInt ≤ 9 := by have z9 := num_r (T := T) (b := nx T (nx T (nx T (nx T (nx T (nx T (nx T b))))))) (lo := 1) (hi := 9) (by decide); omega
                    refine q_put (T := TX1) C S33 g8 3 kF_X6_122 dX6_readHearth_139 rfl rfl (by decide) (by decide) rfl rfl rfl rfl rfl (vok_a rfl) (by decide +kernel) (fun H34 L34 S34 P34 => ?_)
                    have tk34 : Gd D G s.heap → (0 ≤ v22.toInt ∧ v22.toInt ≤ 5) → Gd D G H34 := fun h9 k90 => (tk33 h9 k90).put g8 P34 (Or.inr ⟨rfl, by decide, by decide⟩)
                    have ts34 := ts33.cells S33.1 gtp g8 (by decide) (by decide) P34.2.2.1
                    have ct34 : (fI D H34 5 dd 4).toInt = sg 1 := by rw [Pt.f P34 (ne_role gdd g8 (by decide))]; exact ct33
                    have bh34 : ∀ q, G q = 25 → q ≠ (eR s.heap (fR D s.heap 5 dd 1) (fI D s.heap 5 dd 4).toInt.toNat) → fI D H34 1 q 0 = fI D s.heap 1 q 0 := fun q hq hn => (Pt.any P34 (by decide) (by decide) q).trans (bh33 q hq hn)
                    have bv34 : fI D H34 1 (eR s.heap (fR D s.heap 5 dd 1) (fI D s.heap 5 dd 4).toInt.toNat) 0 = v22 := (Pt.any P34 (by decide) (by decide) _).trans bv33
                    refine lv_aload_n hx hb dX6_readHearth_142 rfl (lv_at hl 0 rfl) ?_
                    refine q_gi (T := TX1) C S34.1 g8 3 kF_X6_122 dX6_readHearth_143 rfl rfl (by decide) rfl (by decide) rfl ?_
                    have c35 : (fI D H34 1 (eR s.heap (fR D s.heap 5 dd 1) (fI D s.heap 5 dd 4).toInt.toNat) 3).toInt = v33.toInt := by rw [Pt.i P34]
                    refine lv_iconst (v := -1) hx hb dX6_readHearth_146 (by decide) ?_
                    refine lv_icmp_ne (tgt := 152) hx hb dX6_readHearth_147 (by decide) (fun c36 => ?_) (fun c36 => ?_)
                    · have b36 : ¬ (fI D H34 1 (eR s.heap (fR D s.heap 5 dd 1) (fI D s.heap 5 dd 4).toInt.toNat) 3).toInt = (-1 : Int32).toInt := fun z9 => c36 (i_eq.mpr z9)
                      refine lv_aload_n hx hb dX6_readHearth_152 rfl (lv_at hl 0 rfl) ?_
                      refine lv_aload_n hx hb dX6_readHearth_153 rfl (lv_at hl 1 rfl) ?_
                      refine q_lds C ks_X6_124 dX6_readHearth_154 (fun a37 ha37 wa37 => ?_)
                      refine lv_iconst (v := 1) hx hb dX6_readHearth_156 (by decide) ?_
                      refine lv_bipush (v := 30) hx hb dX6_readHearth_157 (by decide) ?_
                      have k_30 : (30 : Int32).toInt = 30 := by decide
                      refine callV_Ei C S34 (c_X6_numberAfter_f l D G a0 a37 4 (1 : Int32) (30 : Int32) w_wall 1 30 tp T (nx T (nx T (nx T (nx T (nx T (nx T (nx T (nx T b)))))))) ga0 ha37 (by omega) (Wc.of wa37 kw_wall) (by omega) (by omega)) kV_X6_57 ga0 (⟨trivial, ⟨(S34.2.1.fR ga0 rfl (by decide) (by decide +kernel)).trans htp, ts34⟩⟩) (by decide +kernel) dX6_readHearth_159 hl.1 rfl rfl (by decide) cd_X6_numberAfter ⟨Nat.le_of_ble_eq_true rfl, Nat.le_of_ble_eq_true rfl, Nat.le_of_ble_eq_true rfl, Nat.le_of_ble_eq_true rfl, Nat.le_of_ble_eq_true rfl⟩ (fun v38 H38 L38 S38 K38 q38 => ?_)
                      obtain ⟨q38, fq38⟩ := q38
                      have tk38 : Gd D G s.heap → (0 ≤ v22.toInt ∧ v22.toInt ≤ 5) → Gd D G H38 := fun h9 k90 => (tk34 h9 k90).keep K38 (by decide +kernel)
                      have ct38 : (fI D H38 5 dd 4).toInt = sg 1 := by rw [K38.fI gdd rfl (by decide) (by decide +kernel)]; exact ct34
                      have bh38 : ∀ q, G q = 25 → q ≠ (eR s.heap (fR D s.heap 5 dd 1) (fI D s.heap 5 dd 4).toInt.toNat) → fI D H38 1 q 0 = fI D s.heap 1 q 0 := fun q hq hn => (K38.fI hq rfl (by decide) (by decide +kernel)).trans (bh34 q hq hn)
                      have bv38 : fI D H38 1 (eR s.heap (fR D s.heap 5 dd 1) (fI D s.heap 5 dd 4).toInt.toNat) 0 = v22 := (K38.fI g8 rfl (by decide) (by decide +kernel)).trans bv34
                      rcases fq38 with ⟨w38, y38, z38, ts38⟩ | ⟨w38, y38, z38, wr38⟩ | ⟨w38, z38, wr38⟩
                      · clear q38
                        have u38 : 1 ≤ v38.toInt ∧ v38.toInt ≤ 30 := by have z9 := num_r (T := T) (b := nx T (nx T (nx T (nx T (nx T (nx T (nx T (nx T (nx T b))))))))) (lo := 1) (hi := 30) (by decide); omega
                        refine q_put (T := TX1) C S38 g8 4 kF_X6_126 dX6_readHearth_162 rfl rfl (by decide) (by decide) rfl rfl rfl rfl rfl (vok_a rfl) (by decide +kernel) (fun H39 L39 S39 P39 => ?_)
                        have tk39 : Gd D G s.heap → (0 ≤ v22.toInt ∧ v22.toInt ≤ 5) → Gd D G H39 := fun h9 k90 => (tk38 h9 k90).put g8 P39 (Or.inr ⟨rfl, by decide, by decide⟩)
                        have ts39 := ts38.cells S38.1 gtp g8 (by decide) (by decide) P39.2.2.1
                        have ct39 : (fI D H39 5 dd 4).toInt = sg 1 := by rw [Pt.f P39 (ne_role gdd g8 (by decide))]; exact ct38
                        have bh39 : ∀ q, G q = 25 → q ≠ (eR s.heap (fR D s.heap 5 dd 1) (fI D s.heap 5 dd 4).toInt.toNat) → fI D H39 1 q 0 = fI D s.heap 1 q 0 := fun q hq hn => (Pt.any P39 (by decide) (by decide) q).trans (bh38 q hq hn)
                        have bv39 : fI D H39 1 (eR s.heap (fR D s.heap 5 dd 1) (fI D s.heap 5 dd 4).toInt.toNat) 0 = v22 := (Pt.any P39 (by decide) (by decide) _).trans bv38
                        refine lv_aload_n hx hb dX6_readHearth_165 rfl (lv_at hl 0 rfl) ?_
                        refine q_gi (T := TX1) C S39.1 g8 4 kF_X6_126 dX6_readHearth_166 rfl rfl (by decide) rfl (by decide) rfl ?_
                        have c40 : (fI D H39 1 (eR s.heap (fR D s.heap 5 dd 1) (fI D s.heap 5 dd 4).toInt.toNat) 4).toInt = v38.toInt := by rw [Pt.i P39]
                        refine lv_iconst (v := -1) hx hb dX6_readHearth_169 (by decide) ?_
                        refine lv_icmp_ne (tgt := 175) hx hb dX6_readHearth_170 (by decide) (fun c41 => ?_) (fun c41 => ?_)
                        · have b41 : ¬ (fI D H39 1 (eR s.heap (fR D s.heap 5 dd 1) (fI D s.heap 5 dd 4).toInt.toNat) 4).toInt = (-1 : Int32).toInt := fun z9 => c41 (i_eq.mpr z9)
                          refine lv_aload_n hx hb dX6_readHearth_175 rfl (lv_at hl 0 rfl) ?_
                          refine lv_iconst (v := 0) hx hb dX6_readHearth_176 (by decide) ?_
                          refine q_put (T := TX1) C S39 g8 5 kF_X6_128 dX6_readHearth_177 rfl rfl (by decide) (by decide) rfl rfl rfl rfl rfl (vok_a rfl) (by decide +kernel) (fun H42 L42 S42 P42 => ?_)
                          have tk42 : Gd D G s.heap → (0 ≤ v22.toInt ∧ v22.toInt ≤ 5) → Gd D G H42 := fun h9 k90 => (tk39 h9 k90).put g8 P42 (Or.inr ⟨rfl, by decide, by decide⟩)
                          have ts42 := ts39.cells S39.1 gtp g8 (by decide) (by decide) P42.2.2.1
                          have ct42 : (fI D H42 5 dd 4).toInt = sg 1 := by rw [Pt.f P42 (ne_role gdd g8 (by decide))]; exact ct39
                          have bh42 : ∀ q, G q = 25 → q ≠ (eR s.heap (fR D s.heap 5 dd 1) (fI D s.heap 5 dd 4).toInt.toNat) → fI D H42 1 q 0 = fI D s.heap 1 q 0 := fun q hq hn => (Pt.any P42 (by decide) (by decide) q).trans (bh39 q hq hn)
                          have bv42 : fI D H42 1 (eR s.heap (fR D s.heap 5 dd 1) (fI D s.heap 5 dd 4).toInt.toNat) 0 = v22 := (Pt.any P42 (by decide) (by decide) _).trans bv39
                          refine lv_aload_n hx hb dX6_readHearth_180 rfl (lv_at hl 1 rfl) ?_
                          refine q_grD (T := TX6) C S42.1 ga0 2 kF_X6_11 dX6_readHearth_181 rfl rfl (by decide) rfl (by decide) rfl (fun g43 => ?_)
                          replace g43 : G (fR D H42 6 a0 2) = 23 := by rw [S42.2.1.fR ga0 rfl (by decide) (by decide +kernel)]; exact hpre
                          rw [show fR D H42 6 a0 2 = dd from (S42.2.1.fR ga0 rfl (by decide) (by decide +kernel)).trans hdd]
                          refine lv_dup hx hb dX6_readHearth_184 rfl ?_
                          refine q_gi (T := TX5) C S42.1 gdd 4 kF_X6_90 dX6_readHearth_185 rfl rfl (by decide) rfl (by decide) rfl ?_
                          have c44 : (fI D H42 5 dd 4).toInt = (fI D s.heap 5 dd 4).toInt := by rw [Pt.f P42 (ne_role gdd g8 (by decide)), Pt.f P39 (ne_role gdd g8 (by decide)), K38.fI gdd rfl (by decide) (by decide +kernel), Pt.f P34 (ne_role gdd g8 (by decide)), K33.fI gdd rfl (by decide) (by decide +kernel), Pt.f P29 (ne_role gdd g8 (by decide)), K28.fI gdd rfl (by decide) (by decide +kernel), Pt.f P23 (ne_role gdd g8 (by decide)), K22.fI gdd rfl (by decide) (by decide +kernel), K20.fI gdd rfl (by decide) (by decide +kernel), K17.fI gdd rfl (by decide) (by decide +kernel), Pt.f P12 (ne_role gdd g8 (by decide)), K10.fI gdd rfl (by decide) (by decide +kernel)]
                          have r45 : 0 ≤ (fI D H42 5 dd 4).toInt ∧ (fI D H42 5 dd 4).toInt ≤ 12 := S42.1.rng gdd rfl (by decide) rfl
                          refine lv_iconst (v := 1) hx hb dX6_readHearth_188 (by decide) ?_
                          refine lv_iadd hx hb dX6_readHearth_189 ?_
                          refine lv_topi (fun v46 ev46 => ?_)
                          have f47 : v46.toInt = (fI D H42 5 dd 4).toInt + (1 : Int32).toInt := by rw [ev46]; exact i_add (by omega) (by omega)
                          refine q_put (T := TX5) C S42 gdd 4 kF_X6_90 dX6_readHearth_190 rfl rfl (by decide) (by decide) rfl rfl rfl rfl rfl (vok_i rfl (by omega) (by omega)) (by decide +kernel) (fun H48 L48 S48 P48 => ?_)
                          have tk48 : Gd D G s.heap → (0 ≤ v22.toInt ∧ v22.toInt ≤ 5) → Gd D G H48 := fun h9 k90 => (tk42 h9 k90).put gdd P48 (Or.inl (by decide))
                          have ts48 := ts42.cells S42.1 gtp gdd (by decide) (by decide) P48.2.2.1
                          have bh48 : ∀ q, G q = 25 → q ≠ (eR s.heap (fR D s.heap 5 dd 1) (fI D s.heap 5 dd 4).toInt.toNat) → fI D H48 1 q 0 = fI D s.heap 1 q 0 := fun q hq hn => (Pt.f P48 (ne_role hq gdd (by decide))).trans (bh42 q hq hn)
                          have bv48 : fI D H48 1 (eR s.heap (fR D s.heap 5 dd 1) (fI D s.heap 5 dd 4).toInt.toNat) 0 = v22 := (Pt.f P48 (ne_role g8 gdd (by decide))).trans bv42
                          refine lv_iconst (v := 1) hx hb dX6_readHearth_193 (by decide) ?_
                          exact retE_z hQ C S48 hr dX6_readHearth_194 (z01 (by omega) (by omega)) (⟨⟨by omega, fun _ h9 => tk48 h9 (by omega)⟩, RsP.ok (s1 := fup sg (num T (nx T (nx T (nx T b))) 0 (sg 0 - 1))) (by simp [heaF, heaO, hea1, hea2, hea3, hc4, hk15, w20, y22, w22, w28, y28, w33, y33, w38, y38]) (by omega) ts48 (DV.hearth (v := num T (nx T (nx T (nx T b))) 0 (sg 0 - 1)) dv0 hO gdd ds0 S48.2.1 (by rw [Pt.i P48]; omega) bh48 (by rw [bv48]; omega) er0 h06), fun q hq _ => S48.2.1.fI hq rfl (by decide) (by decide +kernel)⟩)
                        · have b41 : (fI D H39 1 (eR s.heap (fR D s.heap 5 dd 1) (fI D s.heap 5 dd 4).toInt.toNat) 4).toInt = (-1 : Int32).toInt := i_eq.mp c41
                          exact absurd b41 (by omega)
                      · clear q38
                        refine q_put (T := TX1) C S38 g8 4 kF_X6_126 dX6_readHearth_162 rfl rfl (by decide) (by decide) rfl rfl rfl rfl rfl (vok_a rfl) (by decide +kernel) (fun H49 L49 S49 P49 => ?_)
                        have tk49 : Gd D G s.heap → (0 ≤ v22.toInt ∧ v22.toInt ≤ 5) → Gd D G H49 := fun h9 k90 => (tk38 h9 k90).put g8 P49 (Or.inr ⟨rfl, by decide, by decide⟩)
                        have wr49 : (fI D H49 9 tp 2).toInt = (((nx T (nx T (nx T (nx T (nx T (nx T (nx T (nx T (nx T b))))))))) : Nat) : Int) := by rw [Pt.f P49 (ne_role gtp g8 (by decide))]; exact wr38
                        have ct49 : (fI D H49 5 dd 4).toInt = sg 1 := by rw [Pt.f P49 (ne_role gdd g8 (by decide))]; exact ct38
                        have bh49 : ∀ q, G q = 25 → q ≠ (eR s.heap (fR D s.heap 5 dd 1) (fI D s.heap 5 dd 4).toInt.toNat) → fI D H49 1 q 0 = fI D s.heap 1 q 0 := fun q hq hn => (Pt.any P49 (by decide) (by decide) q).trans (bh38 q hq hn)
                        have bv49 : fI D H49 1 (eR s.heap (fR D s.heap 5 dd 1) (fI D s.heap 5 dd 4).toInt.toNat) 0 = v22 := (Pt.any P49 (by decide) (by decide) _).trans bv38
                        refine lv_aload_n hx hb dX6_readHearth_165 rfl (lv_at hl 0 rfl) ?_
                        refine q_gi (T := TX1) C S49.1 g8 4 kF_X6_126 dX6_readHearth_166 rfl rfl (by decide) rfl (by decide) rfl ?_
                        have c50 : (fI D H49 1 (eR s.heap (fR D s.heap 5 dd 1) (fI D s.heap 5 dd 4).toInt.toNat) 4).toInt = v38.toInt := by rw [Pt.i P49]
                        refine lv_iconst (v := -1) hx hb dX6_readHearth_169 (by decide) ?_
                        refine lv_icmp_ne (tgt := 175) hx hb dX6_readHearth_170 (by decide) (fun c51 => ?_) (fun c51 => ?_)
                        · have b51 : ¬ (fI D H49 1 (eR s.heap (fR D s.heap 5 dd 1) (fI D s.heap 5 dd 4).toInt.toNat) 4).toInt = (-1 : Int32).toInt := fun z9 => c51 (i_eq.mpr z9)
                          exact absurd b51 (by omega)
                        · have b51 : (fI D H49 1 (eR s.heap (fR D s.heap 5 dd 1) (fI D s.heap 5 dd 4).toInt.toNat) 4).toInt = (-1 : Int32).toInt := i_eq.mp c51
                          refine lv_iconst (v := 0) hx hb dX6_readHearth_173 (by decide) ?_
                          exact retE_z hQ C S49 hr dX6_readHearth_174 (z01 (by omega) (by omega)) (⟨⟨by omega, fun h9 => absurd h9 (by decide)⟩, RsP.no (s1 := sg) (by simp [heaF, heaO, hea1, hea2, hea3, hc4, hk15, w20, y22, w22, w28, y28, w33, y33, w38, y38]) (by omega) wr49, fun q hq _ => S49.2.1.fI hq rfl (by decide) (by decide +kernel)⟩)
                      · clear q38
                        refine q_put (T := TX1) C S38 g8 4 kF_X6_126 dX6_readHearth_162 rfl rfl (by decide) (by decide) rfl rfl rfl rfl rfl (vok_a rfl) (by decide +kernel) (fun H52 L52 S52 P52 => ?_)
                        have tk52 : Gd D G s.heap → (0 ≤ v22.toInt ∧ v22.toInt ≤ 5) → Gd D G H52 := fun h9 k90 => (tk38 h9 k90).put g8 P52 (Or.inr ⟨rfl, by decide, by decide⟩)
                        have wr52 : (fI D H52 9 tp 2).toInt = (((nx T (nx T (nx T (nx T (nx T (nx T (nx T (nx T b)))))))) : Nat) : Int) := by rw [Pt.f P52 (ne_role gtp g8 (by decide))]; exact wr38
                        have ct52 : (fI D H52 5 dd 4).toInt = sg 1 := by rw [Pt.f P52 (ne_role gdd g8 (by decide))]; exact ct38
                        have bh52 : ∀ q, G q = 25 → q ≠ (eR s.heap (fR D s.heap 5 dd 1) (fI D s.heap 5 dd 4).toInt.toNat) → fI D H52 1 q 0 = fI D s.heap 1 q 0 := fun q hq hn => (Pt.any P52 (by decide) (by decide) q).trans (bh38 q hq hn)
                        have bv52 : fI D H52 1 (eR s.heap (fR D s.heap 5 dd 1) (fI D s.heap 5 dd 4).toInt.toNat) 0 = v22 := (Pt.any P52 (by decide) (by decide) _).trans bv38
                        refine lv_aload_n hx hb dX6_readHearth_165 rfl (lv_at hl 0 rfl) ?_
                        refine q_gi (T := TX1) C S52.1 g8 4 kF_X6_126 dX6_readHearth_166 rfl rfl (by decide) rfl (by decide) rfl ?_
                        have c53 : (fI D H52 1 (eR s.heap (fR D s.heap 5 dd 1) (fI D s.heap 5 dd 4).toInt.toNat) 4).toInt = v38.toInt := by rw [Pt.i P52]
                        refine lv_iconst (v := -1) hx hb dX6_readHearth_169 (by decide) ?_
                        refine lv_icmp_ne (tgt := 175) hx hb dX6_readHearth_170 (by decide) (fun c54 => ?_) (fun c54 => ?_)
                        · have b54 : ¬ (fI D H52 1 (eR s.heap (fR D s.heap 5 dd 1) (fI D s.heap 5 dd 4).toInt.toNat) 4).toInt = (-1 : Int32).toInt := fun z9 => c54 (i_eq.mpr z9)
                          exact absurd b54 (by omega)
                        · have b54 : (fI D H52 1 (eR s.heap (fR D s.heap 5 dd 1) (fI D s.heap 5 dd 4).toInt.toNat) 4).toInt = (-1 : Int32).toInt := i_eq.mp c54
                          refine lv_iconst (v := 0) hx hb dX6_readHearth_173 (by decide) ?_
                          exact retE_z hQ C S52 hr dX6_readHearth_174 (z01 (by omega) (by omega)) (⟨⟨by omega, fun h9 => absurd h9 (by decide)⟩, RsP.no (s1 := sg) (by simp [heaF, heaO, hea1, hea2, hea3, hc4, hk15, w20, y22, w22, w28, y28, w33, y33, w38]) (by omega) wr52, fun q hq _ => S52.2.1.fI hq rfl (by decide) (by decide +kernel)⟩)
                    · have b36 : (fI D H34 1 (eR s.heap (fR D s.heap 5 dd 1) (fI D s.heap 5 dd 4).toInt.toNat) 3).toInt = (-1 : Int32).toInt := i_eq.mp c36
                      exact absurd b36 (by omega)
                  · clear q33
                    refine q_put (T := TX1) C S33 g8 3 kF_X6_122 dX6_readHearth_139 rfl rfl (by decide) (by decide) rfl rfl rfl rfl rfl (vok_a rfl) (by decide +kernel) (fun H55 L55 S55 P55 => ?_)
                    have tk55 : Gd D G s.heap → (0 ≤ v22.toInt ∧ v22.toInt ≤ 5) → Gd D G H55 := fun h9 k90 => (tk33 h9 k90).put g8 P55 (Or.inr ⟨rfl, by decide, by decide⟩)
                    have wr55 : (fI D H55 9 tp 2).toInt = (((nx T (nx T (nx T (nx T (nx T (nx T (nx T b))))))) : Nat) : Int) := by rw [Pt.f P55 (ne_role gtp g8 (by decide))]; exact wr33
                    have ct55 : (fI D H55 5 dd 4).toInt = sg 1 := by rw [Pt.f P55 (ne_role gdd g8 (by decide))]; exact ct33
                    have bh55 : ∀ q, G q = 25 → q ≠ (eR s.heap (fR D s.heap 5 dd 1) (fI D s.heap 5 dd 4).toInt.toNat) → fI D H55 1 q 0 = fI D s.heap 1 q 0 := fun q hq hn => (Pt.any P55 (by decide) (by decide) q).trans (bh33 q hq hn)
                    have bv55 : fI D H55 1 (eR s.heap (fR D s.heap 5 dd 1) (fI D s.heap 5 dd 4).toInt.toNat) 0 = v22 := (Pt.any P55 (by decide) (by decide) _).trans bv33
                    refine lv_aload_n hx hb dX6_readHearth_142 rfl (lv_at hl 0 rfl) ?_
                    refine q_gi (T := TX1) C S55.1 g8 3 kF_X6_122 dX6_readHearth_143 rfl rfl (by decide) rfl (by decide) rfl ?_
                    have c56 : (fI D H55 1 (eR s.heap (fR D s.heap 5 dd 1) (fI D s.heap 5 dd 4).toInt.toNat) 3).toInt = v33.toInt := by rw [Pt.i P55]
                    refine lv_iconst (v := -1) hx hb dX6_readHearth_146 (by decide) ?_
                    refine lv_icmp_ne (tgt := 152) hx hb dX6_readHearth_147 (by decide) (fun c57 => ?_) (fun c57 => ?_)
                    · have b57 : ¬ (fI D H55 1 (eR s.heap (fR D s.heap 5 dd 1) (fI D s.heap 5 dd 4).toInt.toNat) 3).toInt = (-1 : Int32).toInt := fun z9 => c57 (i_eq.mpr z9)
                      exact absurd b57 (by omega)
                    · have b57 : (fI D H55 1 (eR s.heap (fR D s.heap 5 dd 1) (fI D s.heap 5 dd 4).toInt.toNat) 3).toInt = (-1 : Int32).toInt := i_eq.mp c57
                      refine lv_iconst (v := 0) hx hb dX6_readHearth_150 (by decide) ?_
                      exact retE_z hQ C S55 hr dX6_readHearth_151 (z01 (by omega) (by omega)) (⟨⟨by omega, fun h9 => absurd h9 (by decide)⟩, RsP.no (s1 := sg) (by simp [heaF, heaO, hea1, hea2, hea3, hc4, hk15, w20, y22, w22, w28, y28, w33, y33]) (by omega) wr55, fun q hq _ => S55.2.1.fI hq rfl (by decide) (by decide +kernel)⟩)
                  · clear q33
                    refine q_put (T := TX1) C S33 g8 3 kF_X6_122 dX6_readHearth_139 rfl rfl (by decide) (by decide) rfl rfl rfl rfl rfl (vok_a rfl) (by decide +kernel) (fun H58 L58 S58 P58 => ?_)
                    have tk58 : Gd D G s.heap → (0 ≤ v22.toInt ∧ v22.toInt ≤ 5) → Gd D G H58 := fun h9 k90 => (tk33 h9 k90).put g8 P58 (Or.inr ⟨rfl, by decide, by decide⟩)
                    have wr58 : (fI D H58 9 tp 2).toInt = (((nx T (nx T (nx T (nx T (nx T (nx T b)))))) : Nat) : Int) := by rw [Pt.f P58 (ne_role gtp g8 (by decide))]; exact wr33
                    have ct58 : (fI D H58 5 dd 4).toInt = sg 1 := by rw [Pt.f P58 (ne_role gdd g8 (by decide))]; exact ct33
                    have bh58 : ∀ q, G q = 25 → q ≠ (eR s.heap (fR D s.heap 5 dd 1) (fI D s.heap 5 dd 4).toInt.toNat) → fI D H58 1 q 0 = fI D s.heap 1 q 0 := fun q hq hn => (Pt.any P58 (by decide) (by decide) q).trans (bh33 q hq hn)
                    have bv58 : fI D H58 1 (eR s.heap (fR D s.heap 5 dd 1) (fI D s.heap 5 dd 4).toInt.toNat) 0 = v22 := (Pt.any P58 (by decide) (by decide) _).trans bv33
                    refine lv_aload_n hx hb dX6_readHearth_142 rfl (lv_at hl 0 rfl) ?_
                    refine q_gi (T := TX1) C S58.1 g8 3 kF_X6_122 dX6_readHearth_143 rfl rfl (by decide) rfl (by decide) rfl ?_
                    have c59 : (fI D H58 1 (eR s.heap (fR D s.heap 5 dd 1) (fI D s.heap 5 dd 4).toInt.toNat) 3).toInt = v33.toInt := by rw [Pt.i P58]
                    refine lv_iconst (v := -1) hx hb dX6_readHearth_146 (by decide) ?_
                    refine lv_icmp_ne (tgt := 152) hx hb dX6_readHearth_147 (by decide) (fun c60 => ?_) (fun c60 => ?_)
                    · have b60 : ¬ (fI D H58 1 (eR s.heap (fR D s.heap 5 dd 1) (fI D s.heap 5 dd 4).toInt.toNat) 3).toInt = (-1 : Int32).toInt := fun z9 => c60 (i_eq.mpr z9)
                      exact absurd b60 (by omega)
                    · have b60 : (fI D H58 1 (eR s.heap (fR D s.heap 5 dd 1) (fI D s.heap 5 dd 4).toInt.toNat) 3).toInt = (-1 : Int32).toInt := i_eq.mp c60
                      refine lv_iconst (v := 0) hx hb dX6_readHearth_150 (by decide) ?_
                      exact retE_z hQ C S58 hr dX6_readHearth_151 (z01 (by omega) (by omega)) (⟨⟨by omega, fun h9 => absurd h9 (by decide)⟩, RsP.no (s1 := sg) (by simp [heaF, heaO, hea1, hea2, hea3, hc4, hk15, w20, y22, w22, w28, y28, w33]) (by omega) wr58, fun q hq _ => S58.2.1.fI hq rfl (by decide) (by decide +kernel)⟩)
                · have b31 : (fI D H29 1 (eR s.heap (fR D s.heap 5 dd 1) (fI D s.heap 5 dd 4).toInt.toNat) 2).toInt = (-1 : Int32).toInt := i_eq.mp c31
                  exact absurd b31 (by omega)
              · clear q28
                refine q_put (T := TX1) C S28 g8 2 kF_X6_118 dX6_readHearth_116 rfl rfl (by decide) (by decide) rfl rfl rfl rfl rfl (vok_a rfl) (by decide +kernel) (fun H61 L61 S61 P61 => ?_)
                have tk61 : Gd D G s.heap → (0 ≤ v22.toInt ∧ v22.toInt ≤ 5) → Gd D G H61 := fun h9 k90 => (tk28 h9 k90).put g8 P61 (Or.inr ⟨rfl, by decide, by decide⟩)
                have wr61 : (fI D H61 9 tp 2).toInt = (((nx T (nx T (nx T (nx T (nx T b))))) : Nat) : Int) := by rw [Pt.f P61 (ne_role gtp g8 (by decide))]; exact wr28
                have ct61 : (fI D H61 5 dd 4).toInt = sg 1 := by rw [Pt.f P61 (ne_role gdd g8 (by decide))]; exact ct28
                have bh61 : ∀ q, G q = 25 → q ≠ (eR s.heap (fR D s.heap 5 dd 1) (fI D s.heap 5 dd 4).toInt.toNat) → fI D H61 1 q 0 = fI D s.heap 1 q 0 := fun q hq hn => (Pt.any P61 (by decide) (by decide) q).trans (bh28 q hq hn)
                have bv61 : fI D H61 1 (eR s.heap (fR D s.heap 5 dd 1) (fI D s.heap 5 dd 4).toInt.toNat) 0 = v22 := (Pt.any P61 (by decide) (by decide) _).trans bv28
                refine lv_aload_n hx hb dX6_readHearth_119 rfl (lv_at hl 0 rfl) ?_
                refine q_gi (T := TX1) C S61.1 g8 2 kF_X6_118 dX6_readHearth_120 rfl rfl (by decide) rfl (by decide) rfl ?_
                have c62 : (fI D H61 1 (eR s.heap (fR D s.heap 5 dd 1) (fI D s.heap 5 dd 4).toInt.toNat) 2).toInt = v28.toInt := by rw [Pt.i P61]
                refine lv_iconst (v := -1) hx hb dX6_readHearth_123 (by decide) ?_
                refine lv_icmp_ne (tgt := 129) hx hb dX6_readHearth_124 (by decide) (fun c63 => ?_) (fun c63 => ?_)
                · have b63 : ¬ (fI D H61 1 (eR s.heap (fR D s.heap 5 dd 1) (fI D s.heap 5 dd 4).toInt.toNat) 2).toInt = (-1 : Int32).toInt := fun z9 => c63 (i_eq.mpr z9)
                  exact absurd b63 (by omega)
                · have b63 : (fI D H61 1 (eR s.heap (fR D s.heap 5 dd 1) (fI D s.heap 5 dd 4).toInt.toNat) 2).toInt = (-1 : Int32).toInt := i_eq.mp c63
                  refine lv_iconst (v := 0) hx hb dX6_readHearth_127 (by decide) ?_
                  exact retE_z hQ C S61 hr dX6_readHearth_128 (z01 (by omega) (by omega)) (⟨⟨by omega, fun h9 => absurd h9 (by decide)⟩, RsP.no (s1 := sg) (by simp [heaF, heaO, hea1, hea2, hea3, hc4, hk15, w20, y22, w22, w28, y28]) (by omega) wr61, fun q hq _ => S61.2.1.fI hq rfl (by decide) (by decide +kernel)⟩)
              · clear q28
                refine q_put (T := TX1) C S28 g8 2 kF_X6_118 dX6_readHearth_116 rfl rfl (by decide) (by decide) rfl rfl rfl rfl rfl (vok_a rfl) (by decide +kernel) (fun H64 L64 S64 P64 => ?_)
                have tk64 : Gd D G s.heap → (0 ≤ v22.toInt ∧ v22.toInt ≤ 5) → Gd D G H64 := fun h9 k90 => (tk28 h9 k90).put g8 P64 (Or.inr ⟨rfl, by decide, by decide⟩)
                have wr64 : (fI D H64 9 tp 2).toInt = (((nx T (nx T (nx T (nx T b)))) : Nat) : Int) := by rw [Pt.f P64 (ne_role gtp g8 (by decide))]; exact wr28
                have ct64 : (fI D H64 5 dd 4).toInt = sg 1 := by rw [Pt.f P64 (ne_role gdd g8 (by decide))]; exact ct28
                have bh64 : ∀ q, G q = 25 → q ≠ (eR s.heap (fR D s.heap 5 dd 1) (fI D s.heap 5 dd 4).toInt.toNat) → fI D H64 1 q 0 = fI D s.heap 1 q 0 := fun q hq hn => (Pt.any P64 (by decide) (by decide) q).trans (bh28 q hq hn)
                have bv64 : fI D H64 1 (eR s.heap (fR D s.heap 5 dd 1) (fI D s.heap 5 dd 4).toInt.toNat) 0 = v22 := (Pt.any P64 (by decide) (by decide) _).trans bv28
                refine lv_aload_n hx hb dX6_readHearth_119 rfl (lv_at hl 0 rfl) ?_
                refine q_gi (T := TX1) C S64.1 g8 2 kF_X6_118 dX6_readHearth_120 rfl rfl (by decide) rfl (by decide) rfl ?_
                have c65 : (fI D H64 1 (eR s.heap (fR D s.heap 5 dd 1) (fI D s.heap 5 dd 4).toInt.toNat) 2).toInt = v28.toInt := by rw [Pt.i P64]
                refine lv_iconst (v := -1) hx hb dX6_readHearth_123 (by decide) ?_
                refine lv_icmp_ne (tgt := 129) hx hb dX6_readHearth_124 (by decide) (fun c66 => ?_) (fun c66 => ?_)
                · have b66 : ¬ (fI D H64 1 (eR s.heap (fR D s.heap 5 dd 1) (fI D s.heap 5 dd 4).toInt.toNat) 2).toInt = (-1 : Int32).toInt := fun z9 => c66 (i_eq.mpr z9)
                  exact absurd b66 (by omega)
                · have b66 : (fI D H64 1 (eR s.heap (fR D s.heap 5 dd 1) (fI D s.heap 5 dd 4).toInt.toNat) 2).toInt = (-1 : Int32).toInt := i_eq.mp c66
                  refine lv_iconst (v := 0) hx hb dX6_readHearth_127 (by decide) ?_
                  exact retE_z hQ C S64 hr dX6_readHearth_128 (z01 (by omega) (by omega)) (⟨⟨by omega, fun h9 => absurd h9 (by decide)⟩, RsP.no (s1 := sg) (by simp [heaF, heaO, hea1, hea2, hea3, hc4, hk15, w20, y22, w22, w28]) (by omega) wr64, fun q hq _ => S64.2.1.fI hq rfl (by decide) (by decide +kernel)⟩)
            · have b26 : (fI D H23 1 (eR s.heap (fR D s.heap 5 dd 1) (fI D s.heap 5 dd 4).toInt.toNat) 0).toInt = (-1 : Int32).toInt := i_eq.mp c26
              exact absurd b26 (by omega)
          · skip
            refine q_put (T := TX1) C S22 g8 0 kF_X6_114 dX6_readHearth_93 rfl rfl (by decide) (by decide) rfl rfl rfl rfl rfl (vok_i rfl (by omega) (by omega)) (by decide +kernel) (fun H67 L67 S67 P67 => ?_)
            have tk67 : Gd D G s.heap → (0 ≤ v22.toInt ∧ v22.toInt ≤ 5) → Gd D G H67 := fun h9 k90 => Gd.put0 (fun b9 hb9 _ => (tk22 h9) b9 hb9) P67 k90
            have wr67 : (fI D H67 9 tp 2).toInt = (((nx T (nx T (nx T b))) : Nat) : Int) := by rw [Pt.f P67 (ne_role gtp g8 (by decide))]; exact wr22
            have ct67 : (fI D H67 5 dd 4).toInt = sg 1 := by rw [Pt.f P67 (ne_role gdd g8 (by decide))]; exact ct22
            have bh67 : ∀ q, G q = 25 → q ≠ (eR s.heap (fR D s.heap 5 dd 1) (fI D s.heap 5 dd 4).toInt.toNat) → fI D H67 1 q 0 = fI D s.heap 1 q 0 := fun q hq hn => (Pt.f P67 hn).trans (bh22 q hq hn)
            have bv67 : fI D H67 1 (eR s.heap (fR D s.heap 5 dd 1) (fI D s.heap 5 dd 4).toInt.toNat) 0 = v22 := Pt.i P67
            refine lv_aload_n hx hb dX6_readHearth_96 rfl (lv_at hl 0 rfl) ?_
            refine q_gi (T := TX1) C S67.1 g8 0 kF_X6_114 dX6_readHearth_97 rfl rfl (by decide) rfl (by decide) rfl ?_
            have c68 : (fI D H67 1 (eR s.heap (fR D s.heap 5 dd 1) (fI D s.heap 5 dd 4).toInt.toNat) 0).toInt = v22.toInt := by rw [Pt.i P67]
            have r69 : -1 ≤ (fI D H67 1 (eR s.heap (fR D s.heap 5 dd 1) (fI D s.heap 5 dd 4).toInt.toNat) 0).toInt ∧ (fI D H67 1 (eR s.heap (fR D s.heap 5 dd 1) (fI D s.heap 5 dd 4).toInt.toNat) 0).toInt ≤ 5 := S67.1.rng g8 rfl (by decide) rfl
            refine lv_iconst (v := -1) hx hb dX6_readHearth_100 (by decide) ?_
            refine lv_icmp_ne (tgt := 106) hx hb dX6_readHearth_101 (by decide) (fun c70 => ?_) (fun c70 => ?_)
            · have b70 : ¬ (fI D H67 1 (eR s.heap (fR D s.heap 5 dd 1) (fI D s.heap 5 dd 4).toInt.toNat) 0).toInt = (-1 : Int32).toInt := fun z9 => c70 (i_eq.mpr z9)
              exact absurd b70 (by omega)
            · have b70 : (fI D H67 1 (eR s.heap (fR D s.heap 5 dd 1) (fI D s.heap 5 dd 4).toInt.toNat) 0).toInt = (-1 : Int32).toInt := i_eq.mp c70
              refine lv_iconst (v := 0) hx hb dX6_readHearth_104 (by decide) ?_
              exact retE_z hQ C S67 hr dX6_readHearth_105 (z01 (by omega) (by omega)) (⟨⟨by omega, fun h9 => absurd h9 (by decide)⟩, RsP.no (s1 := sg) (by simp [heaF, heaO, hea1, hea2, hea3, hc4, hk15, w20, y22]) (by omega) wr67, fun q hq _ => S67.2.1.fI hq rfl (by decide) (by decide +kernel)⟩)
        · have b21 : v20.toInt = (0 : Int32).toInt := i_eq.mp c21
          exact absurd b21 (by omega)
      · obtain ⟨w20, rfl⟩ := tkW_f y20
        have k_0 : (0 : Int32).toInt = 0 := by decide
        refine lv_if_ne (tgt := 88) hx hb dX6_readHearth_83 (by decide) (fun c71 => ?_) (fun c71 => ?_)
        · have b71 : ¬ v20.toInt = (0 : Int32).toInt := fun z9 => c71 (i_eq.mpr z9)
          exact absurd b71 (by omega)
        · have b71 : v20.toInt = (0 : Int32).toInt := i_eq.mp c71
          refine lv_iconst (v := 0) hx hb dX6_readHearth_86 (by decide) ?_
          exact retE_z hQ C S20 hr dX6_readHearth_87 (z01 (by omega) (by omega)) (⟨⟨by omega, fun _ h9 => tk20 h9⟩, RsP.no (s1 := sg) (by simp [heaF, heaO, hea1, hea2, hea3, hc4, hk15, w20]) (by omega) wr20, fun q hq _ => S20.2.1.fI hq rfl (by decide) (by decide +kernel)⟩)
    · have b14 : (fI D H12 1 (eR s.heap (fR D s.heap 5 dd 1) (fI D s.heap 5 dd 4).toInt.toNat) 1).toInt = (-1 : Int32).toInt := i_eq.mp c14
      have hk72 : kin T (nx T b) = -1 := by omega
      refine lv_aload_n hx hb dX6_readHearth_59 rfl (lv_at hl 1 rfl) ?_
      refine q_grS (T := TX6) C S12.1 ga0 0 kF_X6_15 dX6_readHearth_60 rfl rfl (by decide) rfl (by decide) kSF_X6_tape (fun g73 => ?_)
      rw [show fR D H12 6 a0 0 = tp from (S12.2.1.fR ga0 rfl (by decide) (by decide +kernel)).trans htp]
      refine callV_Ei C S12 (c_X9_refuse_f l D G tp T (nx T b) gtp) kV_X6_50 gtp (⟨trivial, ts12⟩) (by decide +kernel) dX6_readHearth_63 hl.1 rfl rfl (by decide) cd_X9_refuse ⟨Nat.le_of_ble_eq_true rfl, Nat.le_of_ble_eq_true rfl, Nat.le_of_ble_eq_true rfl, Nat.le_of_ble_eq_true rfl, Nat.le_of_ble_eq_true rfl⟩ (fun v74 H74 L74 S74 K74 q74 => ?_)
      obtain ⟨q74, fq74⟩ := q74
      have tk74 : Gd D G s.heap → Gd D G H74 := fun h9  => (tk12 h9).keep K74 (by decide +kernel)
      have dv74 := dv_keep dv12 S12.1 (Or.inr gdd) K74
      have ct74 : (fI D H74 5 dd 4).toInt = sg 1 := by rw [K74.fI gdd rfl (by decide) (by decide +kernel)]; exact ct12
      have bh74 : ∀ q, G q = 25 → q ≠ (eR s.heap (fR D s.heap 5 dd 1) (fI D s.heap 5 dd 4).toInt.toNat) → fI D H74 1 q 0 = fI D s.heap 1 q 0 := fun q hq hn => (K74.fI hq rfl (by decide) (by decide +kernel)).trans (bh12 q hq hn)
      have z74 := fq74.1
      exact retE_z hQ C S74 hr dX6_readHearth_66 (z01 (by omega) (by omega)) (⟨⟨by omega, fun _ h9 => tk74 h9⟩, RsP.no (s1 := sg) (by simp [heaF, heaO, hea1, hea2, hea3, hc4, hk72]) (by omega) fq74.2, fun q hq _ => S74.2.1.fI hq rfl (by decide) (by decide +kernel)⟩)
  · have b3 : ¬ (fI D s.heap 5 dd 4).toInt < (12 : Int32).toInt := fun z9 => c3 (i_lt.mpr z9)
    have hc75 : sg 1 = 12 := by omega
    refine lv_aload_n hx hb dX6_readHearth_12 rfl (lv_at hl 0 rfl) ?_
    refine q_grS (T := TX6) C S.1 ga0 0 kF_X6_15 dX6_readHearth_13 rfl rfl (by decide) rfl (by decide) kSF_X6_tape (fun g76 => ?_)
    rw [show fR D s.heap 6 a0 0 = tp from htp]
    refine callV_Ei C S (c_X9_refuse_f l D G tp T b gtp) kV_X6_50 gtp (⟨trivial, ts0⟩) (by decide +kernel) dX6_readHearth_16 hl.1 rfl rfl (by decide) cd_X9_refuse ⟨Nat.le_of_ble_eq_true rfl, Nat.le_of_ble_eq_true rfl, Nat.le_of_ble_eq_true rfl, Nat.le_of_ble_eq_true rfl, Nat.le_of_ble_eq_true rfl⟩ (fun v77 H77 L77 S77 K77 q77 => ?_)
    obtain ⟨q77, fq77⟩ := q77
    have tk77 : Gd D G s.heap → Gd D G H77 := fun h9  => (tk0 h9).keep K77 (by decide +kernel)
    have dv77 := dv_keep dv0 S.1 (Or.inr gdd) K77
    have ct77 : (fI D H77 5 dd 4).toInt = sg 1 := by rw [K77.fI gdd rfl (by decide) (by decide +kernel)]; exact ct0
    have z77 := fq77.1
    exact retE_z hQ C S77 hr dX6_readHearth_19 (z01 (by omega) (by omega)) (⟨⟨by omega, fun _ h9 => tk77 h9⟩, RsP.no (s1 := sg) (by simp [heaF, heaO, hea1, hea2, hea3, hc75]) (by omega) fq77.2, fun q hq _ => S77.2.1.fI hq rfl (by decide) (by decide +kernel)⟩)
