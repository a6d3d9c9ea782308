set_option maxRecDepth 100000 in
set_option maxHeartbeats 4000000 in
theorem c_X6_readHouse_f (l : Launch) (D : DD) (G : Nat → Nat) (a0 : Nat) (dd : Nat) (sg : Sg) (tp : Nat) (T : Tx) (b : Nat) (ga0 : G a0 = 20) (hw0 : isW T b w_house = true) : CE l D G yX6_readHouse cX6_readHouse 2 (some .boolean) 7 [.ref a0] (fun H => (G (fR D H 6 a0 2) = 23) ∧ (fR D H 6 a0 0 = tp ∧ TS D H tp T b ∧ fR D H 6 a0 2 = dd ∧ DS D H dd ∧ SV (pv D H dd) sg)) [(2, 3), (2, 4), (2, 5), (2, 6), (2, 2), (7, 0), (7, 1), (7, 2), (7, 3), (7, 4), (23, 3)] (xI (fun H r H1 => ((0 ≤ r.toInt ∧ r.toInt ≤ 1) ∧ (r.toInt = 1 → Gd D G H → Gd D G H1)) ∧ (RsP D H1 tp dd T (houF T sg b) r) ∧ (FH D G H H1 dd))) := by
  refine enter (by decide) (Nat.le_of_ble_eq_true rfl) ?_
  intro p e s m args below meth c ls Q hA hQ C hr hO hpre hl
  have hx := C.1
  have hb := C.2.1
  have S : Sd D G [(2, 3), (2, 4), (2, 5), (2, 6), (2, 2), (7, 0), (7, 1), (7, 2), (7, 3), (7, 4), (23, 3)] s.heap s.heap [] := Sd.start hO
  have hl : lv_has ls 2 [(0, .ref a0)] := hl
  obtain ⟨hpre, hf⟩ := hpre
  obtain ⟨htp, ts0, hdd, ds0, dv0⟩ := hf
  have gtp : G tp = 2 := by rw [← htp]; exact hO.rol ga0 rfl (by decide) rfl
  have gdd : G dd = 23 := by rw [← hdd]; exact hpre
  have hT : T.2 ≤ 400 := ts0.le hO gtp
  have ct0 : (fI D s.heap 5 dd 3).toInt = sg 0 := dv_0 dv0
  have tk0 : Gd D G s.heap → Gd D G s.heap := fun h => h
  refine lv_aload_n hx hb dX6_readHouse_0 rfl (lv_at hl 0 rfl) ?_
  refine q_grD (T := TX6) C S.1 ga0 2 kF_X6_11 dX6_readHouse_1 rfl rfl (by decide) rfl (by decide) rfl (fun g1 => ?_)
  replace g1 : G (fR D s.heap 6 a0 2) = 23 := by rw [S.2.1.fR ga0 rfl (by decide) (by decide +kernel)]; exact hpre
  rw [show fR D s.heap 6 a0 2 = dd from hdd]
  refine q_gi (T := TX5) C S.1 gdd 3 kF_X6_44 dX6_readHouse_4 rfl rfl (by decide) rfl (by decide) rfl ?_
  have r2 : 0 ≤ (fI D s.heap 5 dd 3).toInt ∧ (fI D s.heap 5 dd 3).toInt ≤ 6 := S.1.rng gdd rfl (by decide) rfl
  refine lv_bipush (v := 6) hx hb dX6_readHouse_7 (by decide) ?_
  have k_6 : (6 : Int32).toInt = 6 := by decide
  refine lv_icmp_lt (tgt := 20) hx hb dX6_readHouse_9 (by decide) (fun c3 => ?_) (fun c3 => ?_)
  · have b3 : (fI D s.heap 5 dd 3).toInt < (6 : Int32).toInt := i_lt.mp c3
    have hc4 : ¬ sg 0 = 6 := by omega
    refine lv_aload_n hx hb dX6_readHouse_20 rfl (lv_at hl 0 rfl) ?_
    refine q_grD (T := TX6) C S.1 ga0 2 kF_X6_11 dX6_readHouse_21 rfl rfl (by decide) rfl (by decide) rfl (fun g5 => ?_)
    replace g5 : G (fR D s.heap 6 a0 2) = 23 := by rw [S.2.1.fR ga0 rfl (by decide) (by decide +kernel)]; exact hpre
    rw [show fR D s.heap 6 a0 2 = dd from hdd]
    refine q_gr (T := TX5) C S.1 gdd 0 kF_X6_53 dX6_readHouse_24 rfl rfl (by decide) rfl (by decide) rfl (fun g6 => ?_)
    refine lv_aload_n hx hb dX6_readHouse_27 rfl (lv_at hl 0 rfl) ?_
    refine q_grD (T := TX6) C S.1 ga0 2 kF_X6_11 dX6_readHouse_28 rfl rfl (by decide) rfl (by decide) rfl (fun g7 => ?_)
    replace g7 : G (fR D s.heap 6 a0 2) = 23 := by rw [S.2.1.fR ga0 rfl (by decide) (by decide +kernel)]; exact hpre
    rw [show fR D s.heap 6 a0 2 = dd from hdd]
    refine q_gi (T := TX5) C S.1 gdd 3 kF_X6_44 dX6_readHouse_31 rfl rfl (by decide) rfl (by decide) rfl ?_
    refine q_aald C S.1 g6 (by omega) (by omega) dX6_readHouse_34 rfl (by decide) rfl rfl (fun g8 => ?_)
    have bhs : ∀ q, G q = 7 → q ≠ (eR s.heap (fR D s.heap 5 dd 0) (fI D s.heap 5 dd 3).toInt.toNat) → fI D s.heap 2 q 4 = fI D s.heap 2 q 4 := fun _ _ _ => rfl
    have h06 : 0 ≤ sg 0 ∧ sg 0 < 6 := ⟨by omega, by omega⟩
    have row6 : (sg 0).toNat < 6 := by omega
    have er0 : (eR s.heap (fR D s.heap 5 dd 0) (fI D s.heap 5 dd 3).toInt.toNat) = hoA D s.heap dd (sg 0).toNat := congrArg (fun z9 : Int => eR s.heap (fR D s.heap 5 dd 0) z9.toNat) ct0
    refine lv_astore_n (lv' := [(1, .ref (eR s.heap (fR D s.heap 5 dd 0) (fI D s.heap 5 dd 3).toInt.toNat)), (0, .ref a0)]) hx hb dX6_readHouse_35 rfl hl (by decide) rfl (fun ls hl => ?_)
    refine lv_aload_n hx hb dX6_readHouse_36 rfl (lv_at hl 0 rfl) ?_
    refine lv_aload_n hx hb dX6_readHouse_37 rfl (lv_at hl 1 rfl) ?_
    refine q_lds C ks_X6_19 dX6_readHouse_38 (fun a9 ha9 wa9 => ?_)
    refine lv_iconst (v := 0) hx hb dX6_readHouse_40 (by decide) ?_
    refine lv_sipush (v := 999) hx hb dX6_readHouse_41 (by decide) ?_
    have k_0 : (0 : Int32).toInt = 0 := by decide
    have k_999 : (999 : Int32).toInt = 999 := by decide
    refine callV_Ei C S (c_X6_numberAfter_f l D G a0 a9 5 (0 : Int32) (999 : Int32) w_house 0 999 tp T b ga0 ha9 (by omega) (Wc.of wa9 kw_house) (by omega) (by omega)) kV_X6_57 ga0 (⟨trivial, ⟨htp, ts0⟩⟩) (by decide +kernel) dX6_readHouse_44 hl.1 rfl rfl (by decide) cd_X6_numberAfter ⟨Nat.le_of_ble_eq_true rfl, Nat.le_of_ble_eq_true rfl, Nat.le_of_ble_eq_true rfl, Nat.le_of_ble_eq_true rfl, Nat.le_of_ble_eq_true rfl⟩ (fun v10 H10 L10 S10 K10 q10 => ?_)
    obtain ⟨q10, fq10⟩ := q10
    have tk10 : Gd D G s.heap → Gd D G H10 := fun h9  => (tk0 h9).keep K10 (by decide +kernel)
    have dv10 := dv_keep dv0 S.1 (Or.inr gdd) K10
    have ct10 : (fI D H10 5 dd 3).toInt = sg 0 := by rw [K10.fI gdd rfl (by decide) (by decide +kernel)]; exact ct0
    have bh10 : ∀ q, G q = 7 → q ≠ (eR s.heap (fR D s.heap 5 dd 0) (fI D s.heap 5 dd 3).toInt.toNat) → fI D H10 2 q 4 = fI D s.heap 2 q 4 := fun q hq hn => (K10.fI hq rfl (by decide) (by decide +kernel)).trans (bhs q hq hn)
    rcases fq10 with ⟨w10, y10, z10, ts10⟩ | ⟨w10, y10, z10, wr10⟩ | ⟨w10, z10, wr10⟩
    · clear q10
      have u10 : 0 ≤ v10.toInt ∧ v10.toInt ≤ 999 := by have z9 := num_r (T := T) (b := nx T b) (lo := 0) (hi := 999) (by decide); omega
      refine q_put (T := TX2) C S10 g8 0 kF_X6_61 dX6_readHouse_47 rfl rfl (by decide) (by decide) rfl rfl rfl rfl rfl (vok_a rfl) (by decide +kernel) (fun H11 L11 S11 P11 => ?_)
      have tk11 : Gd D G s.heap → Gd D G H11 := fun h9  => (tk10 h9).put g8 P11 (Or.inl (by decide))
      have ts11 := ts10.cells S10.1 gtp g8 (by decide) (by decide) P11.2.2.1
      have dv11 := dv_keep dv10 S10.1 (Or.inr gdd) (Pt.keep g8 rfl (by decide) P11)
      have ct11 : (fI D H11 5 dd 3).toInt = sg 0 := by rw [Pt.f P11 (ne_role gdd g8 (by decide))]; exact ct10
      have bh11 : ∀ q, G q = 7 → q ≠ (eR s.heap (fR D s.heap 5 dd 0) (fI D s.heap 5 dd 3).toInt.toNat) → fI D H11 2 q 4 = fI D s.heap 2 q 4 := fun q hq hn => (Pt.any P11 (by decide) (by decide) q).trans (bh10 q hq hn)
      refine lv_aload_n hx hb dX6_readHouse_50 rfl (lv_at hl 0 rfl) ?_
      refine q_gi (T := TX2) C S11.1 g8 0 kF_X6_61 dX6_readHouse_51 rfl rfl (by decide) rfl (by decide) rfl ?_
      have c12 : (fI D H11 2 (eR s.heap (fR D s.heap 5 dd 0) (fI D s.heap 5 dd 3).toInt.toNat) 0).toInt = v10.toInt := by rw [Pt.i P11]
      refine lv_iconst (v := -1) hx hb dX6_readHouse_54 (by decide) ?_
      have k_m1 : (-1 : Int32).toInt = -1 := by decide
      refine lv_icmp_ne (tgt := 60) hx hb dX6_readHouse_55 (by decide) (fun c13 => ?_) (fun c13 => ?_)
      · have b13 : ¬ (fI D H11 2 (eR s.heap (fR D s.heap 5 dd 0) (fI D s.heap 5 dd 3).toInt.toNat) 0).toInt = (-1 : Int32).toInt := fun z9 => c13 (i_eq.mpr z9)
        refine lv_aload_n hx hb dX6_readHouse_60 rfl (lv_at hl 0 rfl) ?_
        refine lv_aload_n hx hb dX6_readHouse_61 rfl (lv_at hl 1 rfl) ?_
        refine q_lds C ks_X6_66 dX6_readHouse_62 (fun a14 ha14 wa14 => ?_)
        refine lv_iconst (v := 0) hx hb dX6_readHouse_64 (by decide) ?_
        refine lv_bipush (v := 30) hx hb dX6_readHouse_65 (by decide) ?_
        have k_30 : (30 : Int32).toInt = 30 := by decide
        refine callV_Ei C S11 (c_X6_numberAfter_f l D G a0 a14 7 (0 : Int32) (30 : Int32) w_windows 0 30 tp T (nx T (nx T b)) ga0 ha14 (by omega) (Wc.of wa14 kw_windows) (by omega) (by omega)) kV_X6_57 ga0 (⟨trivial, ⟨(S11.2.1.fR ga0 rfl (by decide) (by decide +kernel)).trans htp, ts11⟩⟩) (by decide +kernel) dX6_readHouse_67 hl.1 rfl rfl (by decide) cd_X6_numberAfter ⟨Nat.le_of_ble_eq_true rfl, Nat.le_of_ble_eq_true rfl, Nat.le_of_ble_eq_true rfl, Nat.le_of_ble_eq_true rfl, Nat.le_of_ble_eq_true rfl⟩ (fun v15 H15 L15 S15 K15 q15 => ?_)
        obtain ⟨q15, fq15⟩ := q15
        have tk15 : Gd D G s.heap → Gd D G H15 := fun h9  => (tk11 h9).keep K15 (by decide +kernel)
        have dv15 := dv_keep dv11 S11.1 (Or.inr gdd) K15
        have ct15 : (fI D H15 5 dd 3).toInt = sg 0 := by rw [K15.fI gdd rfl (by decide) (by decide +kernel)]; exact ct11
        have bh15 : ∀ q, G q = 7 → q ≠ (eR s.heap (fR D s.heap 5 dd 0) (fI D s.heap 5 dd 3).toInt.toNat) → fI D H15 2 q 4 = fI D s.heap 2 q 4 := fun q hq hn => (K15.fI hq rfl (by decide) (by decide +kernel)).trans (bh11 q hq hn)
        rcases fq15 with ⟨w15, y15, z15, ts15⟩ | ⟨w15, y15, z15, wr15⟩ | ⟨w15, z15, wr15⟩
        · clear q15
          have u15 : 0 ≤ v15.toInt ∧ v15.toInt ≤ 30 := by have z9 := num_r (T := T) (b := nx T (nx T (nx T b))) (lo := 0) (hi := 30) (by decide); omega
          refine q_put (T := TX2) C S15 g8 2 kF_X6_68 dX6_readHouse_70 rfl rfl (by decide) (by decide) rfl rfl rfl rfl rfl (vok_a rfl) (by decide +kernel) (fun H16 L16 S16 P16 => ?_)
          have tk16 : Gd D G s.heap → Gd D G H16 := fun h9  => (tk15 h9).put g8 P16 (Or.inl (by decide))
          have ts16 := ts15.cells S15.1 gtp g8 (by decide) (by decide) P16.2.2.1
          have dv16 := dv_keep dv15 S15.1 (Or.inr gdd) (Pt.keep g8 rfl (by decide) P16)
          have ct16 : (fI D H16 5 dd 3).toInt = sg 0 := by rw [Pt.f P16 (ne_role gdd g8 (by decide))]; exact ct15
          have bh16 : ∀ q, G q = 7 → q ≠ (eR s.heap (fR D s.heap 5 dd 0) (fI D s.heap 5 dd 3).toInt.toNat) → fI D H16 2 q 4 = fI D s.heap 2 q 4 := fun q hq hn => (Pt.any P16 (by decide) (by decide) q).trans (bh15 q hq hn)
          refine lv_aload_n hx hb dX6_readHouse_73 rfl (lv_at hl 0 rfl) ?_
          refine q_gi (T := TX2) C S16.1 g8 2 kF_X6_68 dX6_readHouse_74 rfl rfl (by decide) rfl (by decide) rfl ?_
          have c17 : (fI D H16 2 (eR s.heap (fR D s.heap 5 dd 0) (fI D s.heap 5 dd 3).toInt.toNat) 2).toInt = v15.toInt := by rw [Pt.i P16]
          refine lv_iconst (v := -1) hx hb dX6_readHouse_77 (by decide) ?_
          refine lv_icmp_ne (tgt := 83) hx hb dX6_readHouse_78 (by decide) (fun c18 => ?_) (fun c18 => ?_)
          · have b18 : ¬ (fI D H16 2 (eR s.heap (fR D s.heap 5 dd 0) (fI D s.heap 5 dd 3).toInt.toNat) 2).toInt = (-1 : Int32).toInt := fun z9 => c18 (i_eq.mpr z9)
            refine lv_aload_n hx hb dX6_readHouse_83 rfl (lv_at hl 0 rfl) ?_
            refine lv_iconst (v := 0) hx hb dX6_readHouse_84 (by decide) ?_
            refine q_put (T := TX2) C S16 g8 3 kF_X6_70 dX6_readHouse_85 rfl rfl (by decide) (by decide) rfl rfl rfl rfl rfl (vok_a rfl) (by decide +kernel) (fun H19 L19 S19 P19 => ?_)
            have tk19 : Gd D G s.heap → Gd D G H19 := fun h9  => (tk16 h9).put g8 P19 (Or.inl (by decide))
            have ts19 := ts16.cells S16.1 gtp g8 (by decide) (by decide) P19.2.2.1
            have dv19 := dv_keep dv16 S16.1 (Or.inr gdd) (Pt.keep g8 rfl (by decide) P19)
            have ct19 : (fI D H19 5 dd 3).toInt = sg 0 := by rw [Pt.f P19 (ne_role gdd g8 (by decide))]; exact ct16
            have bh19 : ∀ q, G q = 7 → q ≠ (eR s.heap (fR D s.heap 5 dd 0) (fI D s.heap 5 dd 3).toInt.toNat) → fI D H19 2 q 4 = fI D s.heap 2 q 4 := fun q hq hn => (Pt.any P19 (by decide) (by decide) q).trans (bh16 q hq hn)
            refine lv_aload_n hx hb dX6_readHouse_88 rfl (lv_at hl 0 rfl) ?_
            refine lv_iconst (v := 0) hx hb dX6_readHouse_89 (by decide) ?_
            refine q_put (T := TX2) C S19 g8 4 kF_X6_73 dX6_readHouse_90 rfl rfl (by decide) (by decide) rfl rfl rfl rfl rfl (vok_a rfl) (by decide +kernel) (fun H20 L20 S20 P20 => ?_)
            have tk20 : Gd D G s.heap → Gd D G H20 := fun h9  => (tk19 h9).put g8 P20 (Or.inl (by decide))
            have ts20 := ts19.cells S19.1 gtp g8 (by decide) (by decide) P20.2.2.1
            have ct20 : (fI D H20 5 dd 3).toInt = sg 0 := by rw [Pt.f P20 (ne_role gdd g8 (by decide))]; exact ct19
            have bh20 : ∀ q, G q = 7 → q ≠ (eR s.heap (fR D s.heap 5 dd 0) (fI D s.heap 5 dd 3).toInt.toNat) → fI D H20 2 q 4 = fI D s.heap 2 q 4 := fun q hq hn => (Pt.f P20 hn).trans (bh19 q hq hn)
            have bv20 : fI D H20 2 (eR s.heap (fR D s.heap 5 dd 0) (fI D s.heap 5 dd 3).toInt.toNat) 4 = (0 : Int32) := Pt.i P20
            refine lv_aload_n hx hb dX6_readHouse_93 rfl (lv_at hl 0 rfl) ?_
            refine lv_aload_n hx hb dX6_readHouse_94 rfl (lv_at hl 1 rfl) ?_
            refine q_grS (T := TX6) C S20.1 ga0 0 kF_X6_15 dX6_readHouse_95 rfl rfl (by decide) rfl (by decide) kSF_X6_tape (fun g21 => ?_)
            rw [show fR D H20 6 a0 0 = tp from (S20.2.1.fR ga0 rfl (by decide) (by decide +kernel)).trans htp]
            refine q_lds C ks_X6_76 dX6_readHouse_98 (fun a22 ha22 wa22 => ?_)
            refine callV_Pi C S20.1 S20.2.1.2.1 (c_X9_isWord_f l D G tp a22 5 w_paper T (nx T (nx T (nx T (nx T b)))) gtp ha22 (Wc.of wa22 kw_paper)) kV_X6_21 gtp (⟨trivial, ts20⟩) dX6_readHouse_100 hl.1 rfl rfl (by decide) cd_X9_isWord ⟨Nat.le_of_ble_eq_true rfl, Nat.le_of_ble_eq_true rfl, Nat.le_of_ble_eq_true rfl, Nat.le_of_ble_eq_true rfl, Nat.le_of_ble_eq_true rfl⟩ (fun v23 q23 => ?_)
            obtain ⟨q23, fq23⟩ := q23
            rcases fq23 with ⟨z23, y23⟩ | ⟨z23, y23⟩
            · skip
              refine q_put (T := TX2) C S20 g8 1 kF_X6_78 dX6_readHouse_103 rfl rfl (by decide) (by decide) rfl rfl rfl (nar_z (by omega) (by omega)) (fit_z (by omega) (by omega)) (vok_i rfl (by omega) (by omega)) (by decide +kernel) (fun H24 L24 S24 P24 => ?_)
              have tk24 : Gd D G s.heap → Gd D G H24 := fun h9  => (tk20 h9).put g8 P24 (Or.inl (by decide))
              have ts24 := ts20.cells S20.1 gtp g8 (by decide) (by decide) P24.2.2.1
              have ct24 : (fI D H24 5 dd 3).toInt = sg 0 := by rw [Pt.f P24 (ne_role gdd g8 (by decide))]; exact ct20
              have bh24 : ∀ q, G q = 7 → q ≠ (eR s.heap (fR D s.heap 5 dd 0) (fI D s.heap 5 dd 3).toInt.toNat) → fI D H24 2 q 4 = fI D s.heap 2 q 4 := fun q hq hn => (Pt.any P24 (by decide) (by decide) q).trans (bh20 q hq hn)
              have bv24 : fI D H24 2 (eR s.heap (fR D s.heap 5 dd 0) (fI D s.heap 5 dd 3).toInt.toNat) 4 = (0 : Int32) := (Pt.any P24 (by decide) (by decide) _).trans bv20
              refine lv_aload_n hx hb dX6_readHouse_106 rfl (lv_at hl 0 rfl) ?_
              refine q_gi (T := TX2) C S24.1 g8 1 kF_X6_78 dX6_readHouse_107 rfl rfl (by decide) rfl (by decide) rfl ?_
              have c25 : (fI D H24 2 (eR s.heap (fR D s.heap 5 dd 0) (fI D s.heap 5 dd 3).toInt.toNat) 1).toInt = v23.toInt := by rw [Pt.i P24]
              have r26 : 0 ≤ (fI D H24 2 (eR s.heap (fR D s.heap 5 dd 0) (fI D s.heap 5 dd 3).toInt.toNat) 1).toInt ∧ (fI D H24 2 (eR s.heap (fR D s.heap 5 dd 0) (fI D s.heap 5 dd 3).toInt.toNat) 1).toInt ≤ 1 := S24.1.rng g8 rfl (by decide) rfl
              refine lv_if_eq (tgt := 120) hx hb dX6_readHouse_110 (by decide) (fun c27 => ?_) (fun c27 => ?_)
              · have b27 : (fI D H24 2 (eR s.heap (fR D s.heap 5 dd 0) (fI D s.heap 5 dd 3).toInt.toNat) 1).toInt = (0 : Int32).toInt := i_eq.mp c27
                exact absurd b27 (by omega)
              · have b27 : ¬ (fI D H24 2 (eR s.heap (fR D s.heap 5 dd 0) (fI D s.heap 5 dd 3).toInt.toNat) 1).toInt = (0 : Int32).toInt := fun z9 => c27 (i_eq.mpr z9)
                refine lv_aload_n hx hb dX6_readHouse_113 rfl (lv_at hl 1 rfl) ?_
                refine q_grS (T := TX6) C S24.1 ga0 0 kF_X6_15 dX6_readHouse_114 rfl rfl (by decide) rfl (by decide) kSF_X6_tape (fun g28 => ?_)
                rw [show fR D H24 6 a0 0 = tp from (S24.2.1.fR ga0 rfl (by decide) (by decide +kernel)).trans htp]
                refine callV_Ev C S24 (c_X9_next_f l D G tp T (nx T (nx T (nx T (nx T b)))) gtp) kV_X6_81 gtp (⟨trivial, ts24⟩) (by decide +kernel) dX6_readHouse_117 hl.1 rfl rfl (by decide) cd_X9_next ⟨Nat.le_of_ble_eq_true rfl, Nat.le_of_ble_eq_true rfl, Nat.le_of_ble_eq_true rfl, Nat.le_of_ble_eq_true rfl, Nat.le_of_ble_eq_true rfl⟩ (fun H29 L29 S29 K29 q29 => ?_)
                obtain ⟨q29, fq29⟩ := q29
                have tk29 : Gd D G s.heap → Gd D G H29 := fun h9  => (tk24 h9).keep K29 (by decide +kernel)
                have ct29 : (fI D H29 5 dd 3).toInt = sg 0 := by rw [K29.fI gdd rfl (by decide) (by decide +kernel)]; exact ct24
                have bh29 : ∀ q, G q = 7 → q ≠ (eR s.heap (fR D s.heap 5 dd 0) (fI D s.heap 5 dd 3).toInt.toNat) → fI D H29 2 q 4 = fI D s.heap 2 q 4 := fun q hq hn => (K29.fI hq rfl (by decide) (by decide +kernel)).trans (bh24 q hq hn)
                have bv29 : fI D H29 2 (eR s.heap (fR D s.heap 5 dd 0) (fI D s.heap 5 dd 3).toInt.toNat) 4 = (0 : Int32) := (K29.fI g8 rfl (by decide) (by decide +kernel)).trans bv24
                refine lv_aload_n hx hb dX6_readHouse_120 rfl (lv_at hl 1 rfl) ?_
                refine q_grS (T := TX6) C S29.1 ga0 0 kF_X6_15 dX6_readHouse_121 rfl rfl (by decide) rfl (by decide) kSF_X6_tape (fun g30 => ?_)
                rw [show fR D H29 6 a0 0 = tp from (S29.2.1.fR ga0 rfl (by decide) (by decide +kernel)).trans htp]
                refine q_lds C ks_X6_85 dX6_readHouse_124 (fun a31 ha31 wa31 => ?_)
                refine callV_Pi C S29.1 S29.2.1.2.1 (c_X9_isWord_f l D G tp a31 5 w_tells T (nx T (nx T (nx T (nx T (nx T b))))) gtp ha31 (Wc.of wa31 kw_tells)) kV_X6_21 gtp (⟨trivial, fq29⟩) dX6_readHouse_126 hl.1 rfl rfl (by decide) cd_X9_isWord ⟨Nat.le_of_ble_eq_true rfl, Nat.le_of_ble_eq_true rfl, Nat.le_of_ble_eq_true rfl, Nat.le_of_ble_eq_true rfl, Nat.le_of_ble_eq_true rfl⟩ (fun v32 q32 => ?_)
                obtain ⟨q32, fq32⟩ := q32
                rcases fq32 with ⟨z32, y32⟩ | ⟨z32, y32⟩
                · skip
                  refine lv_if_eq (tgt := 155) hx hb dX6_readHouse_129 (by decide) (fun c33 => ?_) (fun c33 => ?_)
                  · have b33 : v32.toInt = (0 : Int32).toInt := i_eq.mp c33
                    exact absurd b33 (by omega)
                  · have b33 : ¬ v32.toInt = (0 : Int32).toInt := fun z9 => c33 (i_eq.mpr z9)
                    refine lv_aload_n hx hb dX6_readHouse_132 rfl (lv_at hl 0 rfl) ?_
                    refine lv_aload_n hx hb dX6_readHouse_133 rfl (lv_at hl 1 rfl) ?_
                    refine q_lds C ks_X6_85 dX6_readHouse_134 (fun a34 ha34 wa34 => ?_)
                    refine lv_iconst (v := 0) hx hb dX6_readHouse_136 (by decide) ?_
                    refine lv_bipush (v := 100) hx hb dX6_readHouse_137 (by decide) ?_
                    have k_100 : (100 : Int32).toInt = 100 := by decide
                    refine callV_Ei C S29 (c_X6_numberAfter_f l D G a0 a34 5 (0 : Int32) (100 : Int32) w_tells 0 100 tp T (nx T (nx T (nx T (nx T (nx T b))))) ga0 ha34 (by omega) (Wc.of wa34 kw_tells) (by omega) (by omega)) kV_X6_57 ga0 (⟨trivial, ⟨(S29.2.1.fR ga0 rfl (by decide) (by decide +kernel)).trans htp, fq29⟩⟩) (by decide +kernel) dX6_readHouse_139 hl.1 rfl rfl (by decide) cd_X6_numberAfter ⟨Nat.le_of_ble_eq_true rfl, Nat.le_of_ble_eq_true rfl, Nat.le_of_ble_eq_true rfl, Nat.le_of_ble_eq_true rfl, Nat.le_of_ble_eq_true rfl⟩ (fun v35 H35 L35 S35 K35 q35 => ?_)
                    obtain ⟨q35, fq35⟩ := q35
                    have tk35 : Gd D G s.heap → Gd D G H35 := fun h9  => (tk29 h9).keep K35 (by decide +kernel)
                    have ct35 : (fI D H35 5 dd 3).toInt = sg 0 := by rw [K35.fI gdd rfl (by decide) (by decide +kernel)]; exact ct29
                    have bh35 : ∀ q, G q = 7 → q ≠ (eR s.heap (fR D s.heap 5 dd 0) (fI D s.heap 5 dd 3).toInt.toNat) → fI D H35 2 q 4 = fI D s.heap 2 q 4 := fun q hq hn => (K35.fI hq rfl (by decide) (by decide +kernel)).trans (bh29 q hq hn)
                    have bv35 : fI D H35 2 (eR s.heap (fR D s.heap 5 dd 0) (fI D s.heap 5 dd 3).toInt.toNat) 4 = (0 : Int32) := (K35.fI g8 rfl (by decide) (by decide +kernel)).trans bv29
                    rcases fq35 with ⟨w35, y35, z35, ts35⟩ | ⟨w35, y35, z35, wr35⟩ | ⟨w35, z35, wr35⟩
                    · clear q35
                      have u35 : 0 ≤ v35.toInt ∧ v35.toInt ≤ 100 := by have z9 := num_r (T := T) (b := nx T (nx T (nx T (nx T (nx T (nx T b)))))) (lo := 0) (hi := 100) (by decide); omega
                      refine q_put (T := TX2) C S35 g8 4 kF_X6_73 dX6_readHouse_142 rfl rfl (by decide) (by decide) rfl rfl rfl rfl rfl (vok_a rfl) (by decide +kernel) (fun H36 L36 S36 P36 => ?_)
                      have tk36 : Gd D G s.heap → Gd D G H36 := fun h9  => (tk35 h9).put g8 P36 (Or.inl (by decide))
                      have ts36 := ts35.cells S35.1 gtp g8 (by decide) (by decide) P36.2.2.1
                      have ct36 : (fI D H36 5 dd 3).toInt = sg 0 := by rw [Pt.f P36 (ne_role gdd g8 (by decide))]; exact ct35
                      have bh36 : ∀ q, G q = 7 → q ≠ (eR s.heap (fR D s.heap 5 dd 0) (fI D s.heap 5 dd 3).toInt.toNat) → fI D H36 2 q 4 = fI D s.heap 2 q 4 := fun q hq hn => (Pt.f P36 hn).trans (bh35 q hq hn)
                      have bv36 : fI D H36 2 (eR s.heap (fR D s.heap 5 dd 0) (fI D s.heap 5 dd 3).toInt.toNat) 4 = v35 := Pt.i P36
                      refine lv_aload_n hx hb dX6_readHouse_145 rfl (lv_at hl 0 rfl) ?_
                      refine q_gi (T := TX2) C S36.1 g8 4 kF_X6_73 dX6_readHouse_146 rfl rfl (by decide) rfl (by decide) rfl ?_
                      have c37 : (fI D H36 2 (eR s.heap (fR D s.heap 5 dd 0) (fI D s.heap 5 dd 3).toInt.toNat) 4).toInt = v35.toInt := by rw [Pt.i P36]
                      refine lv_iconst (v := -1) hx hb dX6_readHouse_149 (by decide) ?_
                      refine lv_icmp_ne (tgt := 155) hx hb dX6_readHouse_150 (by decide) (fun c38 => ?_) (fun c38 => ?_)
                      · have b38 : ¬ (fI D H36 2 (eR s.heap (fR D s.heap 5 dd 0) (fI D s.heap 5 dd 3).toInt.toNat) 4).toInt = (-1 : Int32).toInt := fun z9 => c38 (i_eq.mpr z9)
                        refine lv_aload_n hx hb dX6_readHouse_155 rfl (lv_at hl 1 rfl) ?_
                        refine q_grD (T := TX6) C S36.1 ga0 2 kF_X6_11 dX6_readHouse_156 rfl rfl (by decide) rfl (by decide) rfl (fun g39 => ?_)
                        replace g39 : G (fR D H36 6 a0 2) = 23 := by rw [S36.2.1.fR ga0 rfl (by decide) (by decide +kernel)]; exact hpre
                        rw [show fR D H36 6 a0 2 = dd from (S36.2.1.fR ga0 rfl (by decide) (by decide +kernel)).trans hdd]
                        refine lv_dup hx hb dX6_readHouse_159 rfl ?_
                        refine q_gi (T := TX5) C S36.1 gdd 3 kF_X6_44 dX6_readHouse_160 rfl rfl (by decide) rfl (by decide) rfl ?_
                        have c40 : (fI D H36 5 dd 3).toInt = (fI D s.heap 5 dd 3).toInt := by rw [Pt.f P36 (ne_role gdd g8 (by decide)), K35.fI gdd rfl (by decide) (by decide +kernel), K29.fI gdd rfl (by decide) (by decide +kernel), Pt.f P24 (ne_role gdd g8 (by decide)), Pt.f P20 (ne_role gdd g8 (by decide)), Pt.f P19 (ne_role gdd g8 (by decide)), Pt.f P16 (ne_role gdd g8 (by decide)), K15.fI gdd rfl (by decide) (by decide +kernel), Pt.f P11 (ne_role gdd g8 (by decide)), K10.fI gdd rfl (by decide) (by decide +kernel)]
                        have r41 : 0 ≤ (fI D H36 5 dd 3).toInt ∧ (fI D H36 5 dd 3).toInt ≤ 6 := S36.1.rng gdd rfl (by decide) rfl
                        refine lv_iconst (v := 1) hx hb dX6_readHouse_163 (by decide) ?_
                        have k_1 : (1 : Int32).toInt = 1 := by decide
                        refine lv_iadd hx hb dX6_readHouse_164 ?_
                        refine lv_topi (fun v42 ev42 => ?_)
                        have f43 : v42.toInt = (fI D H36 5 dd 3).toInt + (1 : Int32).toInt := by rw [ev42]; exact i_add (by omega) (by omega)
                        refine q_put (T := TX5) C S36 gdd 3 kF_X6_44 dX6_readHouse_165 rfl rfl (by decide) (by decide) rfl rfl rfl rfl rfl (vok_i rfl (by omega) (by omega)) (by decide +kernel) (fun H44 L44 S44 P44 => ?_)
                        have tk44 : Gd D G s.heap → Gd D G H44 := fun h9  => (tk36 h9).put gdd P44 (Or.inl (by decide))
                        have ts44 := ts36.cells S36.1 gtp gdd (by decide) (by decide) P44.2.2.1
                        have bh44 : ∀ q, G q = 7 → q ≠ (eR s.heap (fR D s.heap 5 dd 0) (fI D s.heap 5 dd 3).toInt.toNat) → fI D H44 2 q 4 = fI D s.heap 2 q 4 := fun q hq hn => (Pt.f P44 (ne_role hq gdd (by decide))).trans (bh36 q hq hn)
                        have bv44 : fI D H44 2 (eR s.heap (fR D s.heap 5 dd 0) (fI D s.heap 5 dd 3).toInt.toNat) 4 = v35 := (Pt.f P44 (ne_role g8 gdd (by decide))).trans bv36
                        refine lv_iconst (v := 1) hx hb dX6_readHouse_168 (by decide) ?_
                        exact retE_z hQ C S44 hr dX6_readHouse_169 (z01 (by omega) (by omega)) (⟨⟨by omega, fun _ h9 => tk44 h9⟩, RsP.ok (s1 := hup sg (num T (nx T (nx T (nx T (nx T (nx T (nx T b)))))) 0 100)) (by simp [houF, houW, houP, houT, hc4, w10, y10, w15, y15, y23, y32, w35, y35]) (by omega) ts44 (DV.house (v := num T (nx T (nx T (nx T (nx T (nx T (nx T b)))))) 0 100) dv0 hO gdd ds0 S44.2.1 (by rw [Pt.i P44]; omega) bh44 (by rw [bv44]; first | omega | decide) er0 h06), fun q hq hm => bh44 q hq (fun z9 => hm _ row6 (z9.trans er0))⟩)
                      · have b38 : (fI D H36 2 (eR s.heap (fR D s.heap 5 dd 0) (fI D s.heap 5 dd 3).toInt.toNat) 4).toInt = (-1 : Int32).toInt := i_eq.mp c38
                        exact absurd b38 (by omega)
                    · clear q35
                      refine q_put (T := TX2) C S35 g8 4 kF_X6_73 dX6_readHouse_142 rfl rfl (by decide) (by decide) rfl rfl rfl rfl rfl (vok_a rfl) (by decide +kernel) (fun H45 L45 S45 P45 => ?_)
                      have tk45 : Gd D G s.heap → Gd D G H45 := fun h9  => (tk35 h9).put g8 P45 (Or.inl (by decide))
                      have wr45 : (fI D H45 9 tp 2).toInt = (((nx T (nx T (nx T (nx T (nx T (nx T b)))))) : Nat) : Int) := by rw [Pt.f P45 (ne_role gtp g8 (by decide))]; exact wr35
                      have ct45 : (fI D H45 5 dd 3).toInt = sg 0 := by rw [Pt.f P45 (ne_role gdd g8 (by decide))]; exact ct35
                      have bh45 : ∀ q, G q = 7 → q ≠ (eR s.heap (fR D s.heap 5 dd 0) (fI D s.heap 5 dd 3).toInt.toNat) → fI D H45 2 q 4 = fI D s.heap 2 q 4 := fun q hq hn => (Pt.f P45 hn).trans (bh35 q hq hn)
                      have bv45 : fI D H45 2 (eR s.heap (fR D s.heap 5 dd 0) (fI D s.heap 5 dd 3).toInt.toNat) 4 = v35 := Pt.i P45
                      refine lv_aload_n hx hb dX6_readHouse_145 rfl (lv_at hl 0 rfl) ?_
                      refine q_gi (T := TX2) C S45.1 g8 4 kF_X6_73 dX6_readHouse_146 rfl rfl (by decide) rfl (by decide) rfl ?_
                      have c46 : (fI D H45 2 (eR s.heap (fR D s.heap 5 dd 0) (fI D s.heap 5 dd 3).toInt.toNat) 4).toInt = v35.toInt := by rw [Pt.i P45]
                      refine lv_iconst (v := -1) hx hb dX6_readHouse_149 (by decide) ?_
                      refine lv_icmp_ne (tgt := 155) hx hb dX6_readHouse_150 (by decide) (fun c47 => ?_) (fun c47 => ?_)
                      · have b47 : ¬ (fI D H45 2 (eR s.heap (fR D s.heap 5 dd 0) (fI D s.heap 5 dd 3).toInt.toNat) 4).toInt = (-1 : Int32).toInt := fun z9 => c47 (i_eq.mpr z9)
                        exact absurd b47 (by omega)
                      · have b47 : (fI D H45 2 (eR s.heap (fR D s.heap 5 dd 0) (fI D s.heap 5 dd 3).toInt.toNat) 4).toInt = (-1 : Int32).toInt := i_eq.mp c47
                        refine lv_iconst (v := 0) hx hb dX6_readHouse_153 (by decide) ?_
                        exact retE_z hQ C S45 hr dX6_readHouse_154 (z01 (by omega) (by omega)) (⟨⟨by omega, fun _ h9 => tk45 h9⟩, RsP.no (s1 := sg) (by simp [houF, houW, houP, houT, hc4, w10, y10, w15, y15, y23, y32, w35, y35]) (by omega) wr45, fun q hq hm => bh45 q hq (fun z9 => hm _ row6 (z9.trans er0))⟩)
                    · exact absurd y32 (by rw [w35]; decide)
                · skip
                  refine lv_if_eq (tgt := 155) hx hb dX6_readHouse_129 (by decide) (fun c48 => ?_) (fun c48 => ?_)
                  · have b48 : v32.toInt = (0 : Int32).toInt := i_eq.mp c48
                    refine lv_aload_n hx hb dX6_readHouse_155 rfl (lv_at hl 1 rfl) ?_
                    refine q_grD (T := TX6) C S29.1 ga0 2 kF_X6_11 dX6_readHouse_156 rfl rfl (by decide) rfl (by decide) rfl (fun g49 => ?_)
                    replace g49 : G (fR D H29 6 a0 2) = 23 := by rw [S29.2.1.fR ga0 rfl (by decide) (by decide +kernel)]; exact hpre
                    rw [show fR D H29 6 a0 2 = dd from (S29.2.1.fR ga0 rfl (by decide) (by decide +kernel)).trans hdd]
                    refine lv_dup hx hb dX6_readHouse_159 rfl ?_
                    refine q_gi (T := TX5) C S29.1 gdd 3 kF_X6_44 dX6_readHouse_160 rfl rfl (by decide) rfl (by decide) rfl ?_
                    have c50 : (fI D H29 5 dd 3).toInt = (fI D s.heap 5 dd 3).toInt := by rw [K29.fI gdd rfl (by decide) (by decide +kernel), Pt.f P24 (ne_role gdd g8 (by decide)), Pt.f P20 (ne_role gdd g8 (by decide)), Pt.f P19 (ne_role gdd g8 (by decide)), Pt.f P16 (ne_role gdd g8 (by decide)), K15.fI gdd rfl (by decide) (by decide +kernel), Pt.f P11 (ne_role gdd g8 (by decide)), K10.fI gdd rfl (by decide) (by decide +kernel)]
                    have r51 : 0 ≤ (fI D H29 5 dd 3).toInt ∧ (fI D H29 5 dd 3).toInt ≤ 6 := S29.1.rng gdd rfl (by decide) rfl
                    refine lv_iconst (v := 1) hx hb dX6_readHouse_163 (by decide) ?_
                    have k_1 : (1 : Int32).toInt = 1 := by decide
                    refine lv_iadd hx hb dX6_readHouse_164 ?_
                    refine lv_topi (fun v52 ev52 => ?_)
                    have f53 : v52.toInt = (fI D H29 5 dd 3).toInt + (1 : Int32).toInt := by rw [ev52]; exact i_add (by omega) (by omega)
                    refine q_put (T := TX5) C S29 gdd 3 kF_X6_44 dX6_readHouse_165 rfl rfl (by decide) (by decide) rfl rfl rfl rfl rfl (vok_i rfl (by omega) (by omega)) (by decide +kernel) (fun H54 L54 S54 P54 => ?_)
                    have tk54 : Gd D G s.heap → Gd D G H54 := fun h9  => (tk29 h9).put gdd P54 (Or.inl (by decide))
                    have ts54 := fq29.cells S29.1 gtp gdd (by decide) (by decide) P54.2.2.1
                    have bh54 : ∀ q, G q = 7 → q ≠ (eR s.heap (fR D s.heap 5 dd 0) (fI D s.heap 5 dd 3).toInt.toNat) → fI D H54 2 q 4 = fI D s.heap 2 q 4 := fun q hq hn => (Pt.f P54 (ne_role hq gdd (by decide))).trans (bh29 q hq hn)
                    have bv54 : fI D H54 2 (eR s.heap (fR D s.heap 5 dd 0) (fI D s.heap 5 dd 3).toInt.toNat) 4 = (0 : Int32) := (Pt.f P54 (ne_role g8 gdd (by decide))).trans bv29
                    refine lv_iconst (v := 1) hx hb dX6_readHouse_168 (by decide) ?_
                    exact retE_z hQ C S54 hr dX6_readHouse_169 (z01 (by omega) (by omega)) (⟨⟨by omega, fun _ h9 => tk54 h9⟩, RsP.ok (s1 := hup sg 0) (by simp [houF, houW, houP, houT, hc4, w10, y10, w15, y15, y23, y32]) (by omega) ts54 (DV.house (v := 0) dv0 hO gdd ds0 S54.2.1 (by rw [Pt.i P54]; omega) bh54 (by rw [bv54]; first | omega | decide) er0 h06), fun q hq hm => bh54 q hq (fun z9 => hm _ row6 (z9.trans er0))⟩)
                  · have b48 : ¬ v32.toInt = (0 : Int32).toInt := fun z9 => c48 (i_eq.mpr z9)
                    exact absurd b48 (by omega)
            · skip
              refine q_put (T := TX2) C S20 g8 1 kF_X6_78 dX6_readHouse_103 rfl rfl (by decide) (by decide) rfl rfl rfl (nar_z (by omega) (by omega)) (fit_z (by omega) (by omega)) (vok_i rfl (by omega) (by omega)) (by decide +kernel) (fun H55 L55 S55 P55 => ?_)
              have tk55 : Gd D G s.heap → Gd D G H55 := fun h9  => (tk20 h9).put g8 P55 (Or.inl (by decide))
              have ts55 := ts20.cells S20.1 gtp g8 (by decide) (by decide) P55.2.2.1
              have ct55 : (fI D H55 5 dd 3).toInt = sg 0 := by rw [Pt.f P55 (ne_role gdd g8 (by decide))]; exact ct20
              have bh55 : ∀ q, G q = 7 → q ≠ (eR s.heap (fR D s.heap 5 dd 0) (fI D s.heap 5 dd 3).toInt.toNat) → fI D H55 2 q 4 = fI D s.heap 2 q 4 := fun q hq hn => (Pt.any P55 (by decide) (by decide) q).trans (bh20 q hq hn)
              have bv55 : fI D H55 2 (eR s.heap (fR D s.heap 5 dd 0) (fI D s.heap 5 dd 3).toInt.toNat) 4 = (0 : Int32) := (Pt.any P55 (by decide) (by decide) _).trans bv20
              refine lv_aload_n hx hb dX6_readHouse_106 rfl (lv_at hl 0 rfl) ?_
              refine q_gi (T := TX2) C S55.1 g8 1 kF_X6_78 dX6_readHouse_107 rfl rfl (by decide) rfl (by decide) rfl ?_
              have c56 : (fI D H55 2 (eR s.heap (fR D s.heap 5 dd 0) (fI D s.heap 5 dd 3).toInt.toNat) 1).toInt = v23.toInt := by rw [Pt.i P55]
              have r57 : 0 ≤ (fI D H55 2 (eR s.heap (fR D s.heap 5 dd 0) (fI D s.heap 5 dd 3).toInt.toNat) 1).toInt ∧ (fI D H55 2 (eR s.heap (fR D s.heap 5 dd 0) (fI D s.heap 5 dd 3).toInt.toNat) 1).toInt ≤ 1 := S55.1.rng g8 rfl (by decide) rfl
              refine lv_if_eq (tgt := 120) hx hb dX6_readHouse_110 (by decide) (fun c58 => ?_) (fun c58 => ?_)
              · have b58 : (fI D H55 2 (eR s.heap (fR D s.heap 5 dd 0) (fI D s.heap 5 dd 3).toInt.toNat) 1).toInt = (0 : Int32).toInt := i_eq.mp c58
                refine lv_aload_n hx hb dX6_readHouse_120 rfl (lv_at hl 1 rfl) ?_
                refine q_grS (T := TX6) C S55.1 ga0 0 kF_X6_15 dX6_readHouse_121 rfl rfl (by decide) rfl (by decide) kSF_X6_tape (fun g59 => ?_)
                rw [show fR D H55 6 a0 0 = tp from (S55.2.1.fR ga0 rfl (by decide) (by decide +kernel)).trans htp]
                refine q_lds C ks_X6_85 dX6_readHouse_124 (fun a60 ha60 wa60 => ?_)
                refine callV_Pi C S55.1 S55.2.1.2.1 (c_X9_isWord_f l D G tp a60 5 w_tells T (nx T (nx T (nx T (nx T b)))) gtp ha60 (Wc.of wa60 kw_tells)) kV_X6_21 gtp (⟨trivial, ts55⟩) dX6_readHouse_126 hl.1 rfl rfl (by decide) cd_X9_isWord ⟨Nat.le_of_ble_eq_true rfl, Nat.le_of_ble_eq_true rfl, Nat.le_of_ble_eq_true rfl, Nat.le_of_ble_eq_true rfl, Nat.le_of_ble_eq_true rfl⟩ (fun v61 q61 => ?_)
                obtain ⟨q61, fq61⟩ := q61
                rcases fq61 with ⟨z61, y61⟩ | ⟨z61, y61⟩
                · skip
                  refine lv_if_eq (tgt := 155) hx hb dX6_readHouse_129 (by decide) (fun c62 => ?_) (fun c62 => ?_)
                  · have b62 : v61.toInt = (0 : Int32).toInt := i_eq.mp c62
                    exact absurd b62 (by omega)
                  · have b62 : ¬ v61.toInt = (0 : Int32).toInt := fun z9 => c62 (i_eq.mpr z9)
                    refine lv_aload_n hx hb dX6_readHouse_132 rfl (lv_at hl 0 rfl) ?_
                    refine lv_aload_n hx hb dX6_readHouse_133 rfl (lv_at hl 1 rfl) ?_
                    refine q_lds C ks_X6_85 dX6_readHouse_134 (fun a63 ha63 wa63 => ?_)
                    refine lv_iconst (v := 0) hx hb dX6_readHouse_136 (by decide) ?_
                    refine lv_bipush (v := 100) hx hb dX6_readHouse_137 (by decide) ?_
                    have k_100 : (100 : Int32).toInt = 100 := by decide
                    refine callV_Ei C S55 (c_X6_numberAfter_f l D G a0 a63 5 (0 : Int32) (100 : Int32) w_tells 0 100 tp T (nx T (nx T (nx T (nx T b)))) ga0 ha63 (by omega) (Wc.of wa63 kw_tells) (by omega) (by omega)) kV_X6_57 ga0 (⟨trivial, ⟨(S55.2.1.fR ga0 rfl (by decide) (by decide +kernel)).trans htp, ts55⟩⟩) (by decide +kernel) dX6_readHouse_139 hl.1 rfl rfl (by decide) cd_X6_numberAfter ⟨Nat.le_of_ble_eq_true rfl, Nat.le_of_ble_eq_true rfl, Nat.le_of_ble_eq_true rfl, Nat.le_of_ble_eq_true rfl, Nat.le_of_ble_eq_true rfl⟩ (fun v64 H64 L64 S64 K64 q64 => ?_)
                    obtain ⟨q64, fq64⟩ := q64
                    have tk64 : Gd D G s.heap → Gd D G H64 := fun h9  => (tk55 h9).keep K64 (by decide +kernel)
                    have ct64 : (fI D H64 5 dd 3).toInt = sg 0 := by rw [K64.fI gdd rfl (by decide) (by decide +kernel)]; exact ct55
                    have bh64 : ∀ q, G q = 7 → q ≠ (eR s.heap (fR D s.heap 5 dd 0) (fI D s.heap 5 dd 3).toInt.toNat) → fI D H64 2 q 4 = fI D s.heap 2 q 4 := fun q hq hn => (K64.fI hq rfl (by decide) (by decide +kernel)).trans (bh55 q hq hn)
                    have bv64 : fI D H64 2 (eR s.heap (fR D s.heap 5 dd 0) (fI D s.heap 5 dd 3).toInt.toNat) 4 = (0 : Int32) := (K64.fI g8 rfl (by decide) (by decide +kernel)).trans bv55
                    rcases fq64 with ⟨w64, y64, z64, ts64⟩ | ⟨w64, y64, z64, wr64⟩ | ⟨w64, z64, wr64⟩
                    · clear q64
                      have u64 : 0 ≤ v64.toInt ∧ v64.toInt ≤ 100 := by have z9 := num_r (T := T) (b := nx T (nx T (nx T (nx T (nx T b))))) (lo := 0) (hi := 100) (by decide); omega
                      refine q_put (T := TX2) C S64 g8 4 kF_X6_73 dX6_readHouse_142 rfl rfl (by decide) (by decide) rfl rfl rfl rfl rfl (vok_a rfl) (by decide +kernel) (fun H65 L65 S65 P65 => ?_)
                      have tk65 : Gd D G s.heap → Gd D G H65 := fun h9  => (tk64 h9).put g8 P65 (Or.inl (by decide))
                      have ts65 := ts64.cells S64.1 gtp g8 (by decide) (by decide) P65.2.2.1
                      have ct65 : (fI D H65 5 dd 3).toInt = sg 0 := by rw [Pt.f P65 (ne_role gdd g8 (by decide))]; exact ct64
                      have bh65 : ∀ q, G q = 7 → q ≠ (eR s.heap (fR D s.heap 5 dd 0) (fI D s.heap 5 dd 3).toInt.toNat) → fI D H65 2 q 4 = fI D s.heap 2 q 4 := fun q hq hn => (Pt.f P65 hn).trans (bh64 q hq hn)
                      have bv65 : fI D H65 2 (eR s.heap (fR D s.heap 5 dd 0) (fI D s.heap 5 dd 3).toInt.toNat) 4 = v64 := Pt.i P65
                      refine lv_aload_n hx hb dX6_readHouse_145 rfl (lv_at hl 0 rfl) ?_
                      refine q_gi (T := TX2) C S65.1 g8 4 kF_X6_73 dX6_readHouse_146 rfl rfl (by decide) rfl (by decide) rfl ?_
                      have c66 : (fI D H65 2 (eR s.heap (fR D s.heap 5 dd 0) (fI D s.heap 5 dd 3).toInt.toNat) 4).toInt = v64.toInt := by rw [Pt.i P65]
                      refine lv_iconst (v := -1) hx hb dX6_readHouse_149 (by decide) ?_
                      refine lv_icmp_ne (tgt := 155) hx hb dX6_readHouse_150 (by decide) (fun c67 => ?_) (fun c67 => ?_)
                      · have b67 : ¬ (fI D H65 2 (eR s.heap (fR D s.heap 5 dd 0) (fI D s.heap 5 dd 3).toInt.toNat) 4).toInt = (-1 : Int32).toInt := fun z9 => c67 (i_eq.mpr z9)
                        refine lv_aload_n hx hb dX6_readHouse_155 rfl (lv_at hl 1 rfl) ?_
                        refine q_grD (T := TX6) C S65.1 ga0 2 kF_X6_11 dX6_readHouse_156 rfl rfl (by decide) rfl (by decide) rfl (fun g68 => ?_)
                        replace g68 : G (fR D H65 6 a0 2) = 23 := by rw [S65.2.1.fR ga0 rfl (by decide) (by decide +kernel)]; exact hpre
                        rw [show fR D H65 6 a0 2 = dd from (S65.2.1.fR ga0 rfl (by decide) (by decide +kernel)).trans hdd]
                        refine lv_dup hx hb dX6_readHouse_159 rfl ?_
                        refine q_gi (T := TX5) C S65.1 gdd 3 kF_X6_44 dX6_readHouse_160 rfl rfl (by decide) rfl (by decide) rfl ?_
                        have c69 : (fI D H65 5 dd 3).toInt = (fI D s.heap 5 dd 3).toInt := by rw [Pt.f P65 (ne_role gdd g8 (by decide)), K64.fI gdd rfl (by decide) (by decide +kernel), Pt.f P55 (ne_role gdd g8 (by decide)), Pt.f P20 (ne_role gdd g8 (by decide)), Pt.f P19 (ne_role gdd g8 (by decide)), Pt.f P16 (ne_role gdd g8 (by decide)), K15.fI gdd rfl (by decide) (by decide +kernel), Pt.f P11 (ne_role gdd g8 (by decide)), K10.fI gdd rfl (by decide) (by decide +kernel)]
                        have r70 : 0 ≤ (fI D H65 5 dd 3).toInt ∧ (fI D H65 5 dd 3).toInt ≤ 6 := S65.1.rng gdd rfl (by decide) rfl
                        refine lv_iconst (v := 1) hx hb dX6_readHouse_163 (by decide) ?_
                        have k_1 : (1 : Int32).toInt = 1 := by decide
                        refine lv_iadd hx hb dX6_readHouse_164 ?_
                        refine lv_topi (fun v71 ev71 => ?_)
                        have f72 : v71.toInt = (fI D H65 5 dd 3).toInt + (1 : Int32).toInt := by rw [ev71]; exact i_add (by omega) (by omega)
                        refine q_put (T := TX5) C S65 gdd 3 kF_X6_44 dX6_readHouse_165 rfl rfl (by decide) (by decide) rfl rfl rfl rfl rfl (vok_i rfl (by omega) (by omega)) (by decide +kernel) (fun H73 L73 S73 P73 => ?_)
                        have tk73 : Gd D G s.heap → Gd D G H73 := fun h9  => (tk65 h9).put gdd P73 (Or.inl (by decide))
                        have ts73 := ts65.cells S65.1 gtp gdd (by decide) (by decide) P73.2.2.1
                        have bh73 : ∀ q, G q = 7 → q ≠ (eR s.heap (fR D s.heap 5 dd 0) (fI D s.heap 5 dd 3).toInt.toNat) → fI D H73 2 q 4 = fI D s.heap 2 q 4 := fun q hq hn => (Pt.f P73 (ne_role hq gdd (by decide))).trans (bh65 q hq hn)
                        have bv73 : fI D H73 2 (eR s.heap (fR D s.heap 5 dd 0) (fI D s.heap 5 dd 3).toInt.toNat) 4 = v64 := (Pt.f P73 (ne_role g8 gdd (by decide))).trans bv65
                        refine lv_iconst (v := 1) hx hb dX6_readHouse_168 (by decide) ?_
                        exact retE_z hQ C S73 hr dX6_readHouse_169 (z01 (by omega) (by omega)) (⟨⟨by omega, fun _ h9 => tk73 h9⟩, RsP.ok (s1 := hup sg (num T (nx T (nx T (nx T (nx T (nx T b))))) 0 100)) (by simp [houF, houW, houP, houT, hc4, w10, y10, w15, y15, y23, y61, w64, y64]) (by omega) ts73 (DV.house (v := num T (nx T (nx T (nx T (nx T (nx T b))))) 0 100) dv0 hO gdd ds0 S73.2.1 (by rw [Pt.i P73]; omega) bh73 (by rw [bv73]; first | omega | decide) er0 h06), fun q hq hm => bh73 q hq (fun z9 => hm _ row6 (z9.trans er0))⟩)
                      · have b67 : (fI D H65 2 (eR s.heap (fR D s.heap 5 dd 0) (fI D s.heap 5 dd 3).toInt.toNat) 4).toInt = (-1 : Int32).toInt := i_eq.mp c67
                        exact absurd b67 (by omega)
                    · clear q64
                      refine q_put (T := TX2) C S64 g8 4 kF_X6_73 dX6_readHouse_142 rfl rfl (by decide) (by decide) rfl rfl rfl rfl rfl (vok_a rfl) (by decide +kernel) (fun H74 L74 S74 P74 => ?_)
                      have tk74 : Gd D G s.heap → Gd D G H74 := fun h9  => (tk64 h9).put g8 P74 (Or.inl (by decide))
                      have wr74 : (fI D H74 9 tp 2).toInt = (((nx T (nx T (nx T (nx T (nx T b))))) : Nat) : Int) := by rw [Pt.f P74 (ne_role gtp g8 (by decide))]; exact wr64
                      have ct74 : (fI D H74 5 dd 3).toInt = sg 0 := by rw [Pt.f P74 (ne_role gdd g8 (by decide))]; exact ct64
                      have bh74 : ∀ q, G q = 7 → q ≠ (eR s.heap (fR D s.heap 5 dd 0) (fI D s.heap 5 dd 3).toInt.toNat) → fI D H74 2 q 4 = fI D s.heap 2 q 4 := fun q hq hn => (Pt.f P74 hn).trans (bh64 q hq hn)
                      have bv74 : fI D H74 2 (eR s.heap (fR D s.heap 5 dd 0) (fI D s.heap 5 dd 3).toInt.toNat) 4 = v64 := Pt.i P74
                      refine lv_aload_n hx hb dX6_readHouse_145 rfl (lv_at hl 0 rfl) ?_
                      refine q_gi (T := TX2) C S74.1 g8 4 kF_X6_73 dX6_readHouse_146 rfl rfl (by decide) rfl (by decide) rfl ?_
                      have c75 : (fI D H74 2 (eR s.heap (fR D s.heap 5 dd 0) (fI D s.heap 5 dd 3).toInt.toNat) 4).toInt = v64.toInt := by rw [Pt.i P74]
                      refine lv_iconst (v := -1) hx hb dX6_readHouse_149 (by decide) ?_
                      refine lv_icmp_ne (tgt := 155) hx hb dX6_readHouse_150 (by decide) (fun c76 => ?_) (fun c76 => ?_)
                      · have b76 : ¬ (fI D H74 2 (eR s.heap (fR D s.heap 5 dd 0) (fI D s.heap 5 dd 3).toInt.toNat) 4).toInt = (-1 : Int32).toInt := fun z9 => c76 (i_eq.mpr z9)
                        exact absurd b76 (by omega)
                      · have b76 : (fI D H74 2 (eR s.heap (fR D s.heap 5 dd 0) (fI D s.heap 5 dd 3).toInt.toNat) 4).toInt = (-1 : Int32).toInt := i_eq.mp c76
                        refine lv_iconst (v := 0) hx hb dX6_readHouse_153 (by decide) ?_
                        exact retE_z hQ C S74 hr dX6_readHouse_154 (z01 (by omega) (by omega)) (⟨⟨by omega, fun _ h9 => tk74 h9⟩, RsP.no (s1 := sg) (by simp [houF, houW, houP, houT, hc4, w10, y10, w15, y15, y23, y61, w64, y64]) (by omega) wr74, fun q hq hm => bh74 q hq (fun z9 => hm _ row6 (z9.trans er0))⟩)
                    · exact absurd y61 (by rw [w64]; decide)
                · skip
                  refine lv_if_eq (tgt := 155) hx hb dX6_readHouse_129 (by decide) (fun c77 => ?_) (fun c77 => ?_)
                  · have b77 : v61.toInt = (0 : Int32).toInt := i_eq.mp c77
                    refine lv_aload_n hx hb dX6_readHouse_155 rfl (lv_at hl 1 rfl) ?_
                    refine q_grD (T := TX6) C S55.1 ga0 2 kF_X6_11 dX6_readHouse_156 rfl rfl (by decide) rfl (by decide) rfl (fun g78 => ?_)
                    replace g78 : G (fR D H55 6 a0 2) = 23 := by rw [S55.2.1.fR ga0 rfl (by decide) (by decide +kernel)]; exact hpre
                    rw [show fR D H55 6 a0 2 = dd from (S55.2.1.fR ga0 rfl (by decide) (by decide +kernel)).trans hdd]
                    refine lv_dup hx hb dX6_readHouse_159 rfl ?_
                    refine q_gi (T := TX5) C S55.1 gdd 3 kF_X6_44 dX6_readHouse_160 rfl rfl (by decide) rfl (by decide) rfl ?_
                    have c79 : (fI D H55 5 dd 3).toInt = (fI D s.heap 5 dd 3).toInt := by rw [Pt.f P55 (ne_role gdd g8 (by decide)), Pt.f P20 (ne_role gdd g8 (by decide)), Pt.f P19 (ne_role gdd g8 (by decide)), Pt.f P16 (ne_role gdd g8 (by decide)), K15.fI gdd rfl (by decide) (by decide +kernel), Pt.f P11 (ne_role gdd g8 (by decide)), K10.fI gdd rfl (by decide) (by decide +kernel)]
                    have r80 : 0 ≤ (fI D H55 5 dd 3).toInt ∧ (fI D H55 5 dd 3).toInt ≤ 6 := S55.1.rng gdd rfl (by decide) rfl
                    refine lv_iconst (v := 1) hx hb dX6_readHouse_163 (by decide) ?_
                    have k_1 : (1 : Int32).toInt = 1 := by decide
                    refine lv_iadd hx hb dX6_readHouse_164 ?_
                    refine lv_topi (fun v81 ev81 => ?_)
                    have f82 : v81.toInt = (fI D H55 5 dd 3).toInt + (1 : Int32).toInt := by rw [ev81]; exact i_add (by omega) (by omega)
                    refine q_put (T := TX5) C S55 gdd 3 kF_X6_44 dX6_readHouse_165 rfl rfl (by decide) (by decide) rfl rfl rfl rfl rfl (vok_i rfl (by omega) (by omega)) (by decide +kernel) (fun H83 L83 S83 P83 => ?_)
                    have tk83 : Gd D G s.heap → Gd D G H83 := fun h9  => (tk55 h9).put gdd P83 (Or.inl (by decide))
                    have ts83 := ts55.cells S55.1 gtp gdd (by decide) (by decide) P83.2.2.1
                    have bh83 : ∀ q, G q = 7 → q ≠ (eR s.heap (fR D s.heap 5 dd 0) (fI D s.heap 5 dd 3).toInt.toNat) → fI D H83 2 q 4 = fI D s.heap 2 q 4 := fun q hq hn => (Pt.f P83 (ne_role hq gdd (by decide))).trans (bh55 q hq hn)
                    have bv83 : fI D H83 2 (eR s.heap (fR D s.heap 5 dd 0) (fI D s.heap 5 dd 3).toInt.toNat) 4 = (0 : Int32) := (Pt.f P83 (ne_role g8 gdd (by decide))).trans bv55
                    refine lv_iconst (v := 1) hx hb dX6_readHouse_168 (by decide) ?_
                    exact retE_z hQ C S83 hr dX6_readHouse_169 (z01 (by omega) (by omega)) (⟨⟨by omega, fun _ h9 => tk83 h9⟩, RsP.ok (s1 := hup sg 0) (by simp [houF, houW, houP, houT, hc4, w10, y10, w15, y15, y23, y61]) (by omega) ts83 (DV.house (v := 0) dv0 hO gdd ds0 S83.2.1 (by rw [Pt.i P83]; omega) bh83 (by rw [bv83]; first | omega | decide) er0 h06), fun q hq hm => bh83 q hq (fun z9 => hm _ row6 (z9.trans er0))⟩)
                  · have b77 : ¬ v61.toInt = (0 : Int32).toInt := fun z9 => c77 (i_eq.mpr z9)
                    exact absurd b77 (by omega)
              · have b58 : ¬ (fI D H55 2 (eR s.heap (fR D s.heap 5 dd 0) (fI D s.heap 5 dd 3).toInt.toNat) 1).toInt = (0 : Int32).toInt := fun z9 => c58 (i_eq.mpr z9)
                exact absurd b58 (by omega)
          · have b18 : (fI D H16 2 (eR s.heap (fR D s.heap 5 dd 0) (fI D s.heap 5 dd 3).toInt.toNat) 2).toInt = (-1 : Int32).toInt := i_eq.mp c18
            exact absurd b18 (by omega)
        · clear q15
          refine q_put (T := TX2) C S15 g8 2 kF_X6_68 dX6_readHouse_70 rfl rfl (by decide) (by decide) rfl rfl rfl rfl rfl (vok_a rfl) (by decide +kernel) (fun H84 L84 S84 P84 => ?_)
          have tk84 : Gd D G s.heap → Gd D G H84 := fun h9  => (tk15 h9).put g8 P84 (Or.inl (by decide))
          have wr84 : (fI D H84 9 tp 2).toInt = (((nx T (nx T (nx T b))) : Nat) : Int) := by rw [Pt.f P84 (ne_role gtp g8 (by decide))]; exact wr15
          have dv84 := dv_keep dv15 S15.1 (Or.inr gdd) (Pt.keep g8 rfl (by decide) P84)
          have ct84 : (fI D H84 5 dd 3).toInt = sg 0 := by rw [Pt.f P84 (ne_role gdd g8 (by decide))]; exact ct15
          have bh84 : ∀ q, G q = 7 → q ≠ (eR s.heap (fR D s.heap 5 dd 0) (fI D s.heap 5 dd 3).toInt.toNat) → fI D H84 2 q 4 = fI D s.heap 2 q 4 := fun q hq hn => (Pt.any P84 (by decide) (by decide) q).trans (bh15 q hq hn)
          refine lv_aload_n hx hb dX6_readHouse_73 rfl (lv_at hl 0 rfl) ?_
          refine q_gi (T := TX2) C S84.1 g8 2 kF_X6_68 dX6_readHouse_74 rfl rfl (by decide) rfl (by decide) rfl ?_
          have c85 : (fI D H84 2 (eR s.heap (fR D s.heap 5 dd 0) (fI D s.heap 5 dd 3).toInt.toNat) 2).toInt = v15.toInt := by rw [Pt.i P84]
          refine lv_iconst (v := -1) hx hb dX6_readHouse_77 (by decide) ?_
          refine lv_icmp_ne (tgt := 83) hx hb dX6_readHouse_78 (by decide) (fun c86 => ?_) (fun c86 => ?_)
          · have b86 : ¬ (fI D H84 2 (eR s.heap (fR D s.heap 5 dd 0) (fI D s.heap 5 dd 3).toInt.toNat) 2).toInt = (-1 : Int32).toInt := fun z9 => c86 (i_eq.mpr z9)
            exact absurd b86 (by omega)
          · have b86 : (fI D H84 2 (eR s.heap (fR D s.heap 5 dd 0) (fI D s.heap 5 dd 3).toInt.toNat) 2).toInt = (-1 : Int32).toInt := i_eq.mp c86
            refine lv_iconst (v := 0) hx hb dX6_readHouse_81 (by decide) ?_
            exact retE_z hQ C S84 hr dX6_readHouse_82 (z01 (by omega) (by omega)) (⟨⟨by omega, fun _ h9 => tk84 h9⟩, RsP.no (s1 := sg) (by simp [houF, houW, houP, houT, hc4, w10, y10, w15, y15]) (by omega) wr84, fun q hq hm => bh84 q hq (fun z9 => hm _ row6 (z9.trans er0))⟩)
        · clear q15
          refine q_put (T := TX2) C S15 g8 2 kF_X6_68 dX6_readHouse_70 rfl rfl (by decide) (by decide) rfl rfl rfl rfl rfl (vok_a rfl) (by decide +kernel) (fun H87 L87 S87 P87 => ?_)
          have tk87 : Gd D G s.heap → Gd D G H87 := fun h9  => (tk15 h9).put g8 P87 (Or.inl (by decide))
          have wr87 : (fI D H87 9 tp 2).toInt = (((nx T (nx T b)) : Nat) : Int) := by rw [Pt.f P87 (ne_role gtp g8 (by decide))]; exact wr15
          have dv87 := dv_keep dv15 S15.1 (Or.inr gdd) (Pt.keep g8 rfl (by decide) P87)
          have ct87 : (fI D H87 5 dd 3).toInt = sg 0 := by rw [Pt.f P87 (ne_role gdd g8 (by decide))]; exact ct15
          have bh87 : ∀ q, G q = 7 → q ≠ (eR s.heap (fR D s.heap 5 dd 0) (fI D s.heap 5 dd 3).toInt.toNat) → fI D H87 2 q 4 = fI D s.heap 2 q 4 := fun q hq hn => (Pt.any P87 (by decide) (by decide) q).trans (bh15 q hq hn)
          refine lv_aload_n hx hb dX6_readHouse_73 rfl (lv_at hl 0 rfl) ?_
          refine q_gi (T := TX2) C S87.1 g8 2 kF_X6_68 dX6_readHouse_74 rfl rfl (by decide) rfl (by decide) rfl ?_
          have c88 : (fI D H87 2 (eR s.heap (fR D s.heap 5 dd 0) (fI D s.heap 5 dd 3).toInt.toNat) 2).toInt = v15.toInt := by rw [Pt.i P87]
          refine lv_iconst (v := -1) hx hb dX6_readHouse_77 (by decide) ?_
          refine lv_icmp_ne (tgt := 83) hx hb dX6_readHouse_78 (by decide) (fun c89 => ?_) (fun c89 => ?_)
          · have b89 : ¬ (fI D H87 2 (eR s.heap (fR D s.heap 5 dd 0) (fI D s.heap 5 dd 3).toInt.toNat) 2).toInt = (-1 : Int32).toInt := fun z9 => c89 (i_eq.mpr z9)
            exact absurd b89 (by omega)
          · have b89 : (fI D H87 2 (eR s.heap (fR D s.heap 5 dd 0) (fI D s.heap 5 dd 3).toInt.toNat) 2).toInt = (-1 : Int32).toInt := i_eq.mp c89
            refine lv_iconst (v := 0) hx hb dX6_readHouse_81 (by decide) ?_
            exact retE_z hQ C S87 hr dX6_readHouse_82 (z01 (by omega) (by omega)) (⟨⟨by omega, fun _ h9 => tk87 h9⟩, RsP.no (s1 := sg) (by simp [houF, houW, houP, houT, hc4, w10, y10, w15]) (by omega) wr87, fun q hq hm => bh87 q hq (fun z9 => hm _ row6 (z9.trans er0))⟩)
      · have b13 : (fI D H11 2 (eR s.heap (fR D s.heap 5 dd 0) (fI D s.heap 5 dd 3).toInt.toNat) 0).toInt = (-1 : Int32).toInt := i_eq.mp c13
        exact absurd b13 (by omega)
    · clear q10
      refine q_put (T := TX2) C S10 g8 0 kF_X6_61 dX6_readHouse_47 rfl rfl (by decide) (by decide) rfl rfl rfl rfl rfl (vok_a rfl) (by decide +kernel) (fun H90 L90 S90 P90 => ?_)
      have tk90 : Gd D G s.heap → Gd D G H90 := fun h9  => (tk10 h9).put g8 P90 (Or.inl (by decide))
      have wr90 : (fI D H90 9 tp 2).toInt = (((nx T b) : Nat) : Int) := by rw [Pt.f P90 (ne_role gtp g8 (by decide))]; exact wr10
      have dv90 := dv_keep dv10 S10.1 (Or.inr gdd) (Pt.keep g8 rfl (by decide) P90)
      have ct90 : (fI D H90 5 dd 3).toInt = sg 0 := by rw [Pt.f P90 (ne_role gdd g8 (by decide))]; exact ct10
      have bh90 : ∀ q, G q = 7 → q ≠ (eR s.heap (fR D s.heap 5 dd 0) (fI D s.heap 5 dd 3).toInt.toNat) → fI D H90 2 q 4 = fI D s.heap 2 q 4 := fun q hq hn => (Pt.any P90 (by decide) (by decide) q).trans (bh10 q hq hn)
      refine lv_aload_n hx hb dX6_readHouse_50 rfl (lv_at hl 0 rfl) ?_
      refine q_gi (T := TX2) C S90.1 g8 0 kF_X6_61 dX6_readHouse_51 rfl rfl (by decide) rfl (by decide) rfl ?_
      have c91 : (fI D H90 2 (eR s.heap (fR D s.heap 5 dd 0) (fI D s.heap 5 dd 3).toInt.toNat) 0).toInt = v10.toInt := by rw [Pt.i P90]
      refine lv_iconst (v := -1) hx hb dX6_readHouse_54 (by decide) ?_
      have k_m1 : (-1 : Int32).toInt = -1 := by decide
      refine lv_icmp_ne (tgt := 60) hx hb dX6_readHouse_55 (by decide) (fun c92 => ?_) (fun c92 => ?_)
      · have b92 : ¬ (fI D H90 2 (eR s.heap (fR D s.heap 5 dd 0) (fI D s.heap 5 dd 3).toInt.toNat) 0).toInt = (-1 : Int32).toInt := fun z9 => c92 (i_eq.mpr z9)
        exact absurd b92 (by omega)
      · have b92 : (fI D H90 2 (eR s.heap (fR D s.heap 5 dd 0) (fI D s.heap 5 dd 3).toInt.toNat) 0).toInt = (-1 : Int32).toInt := i_eq.mp c92
        refine lv_iconst (v := 0) hx hb dX6_readHouse_58 (by decide) ?_
        exact retE_z hQ C S90 hr dX6_readHouse_59 (z01 (by omega) (by omega)) (⟨⟨by omega, fun _ h9 => tk90 h9⟩, RsP.no (s1 := sg) (by simp [houF, houW, houP, houT, hc4, w10, y10]) (by omega) wr90, fun q hq hm => bh90 q hq (fun z9 => hm _ row6 (z9.trans er0))⟩)
    · exact absurd hw0 (by rw [w10]; decide)
  · have b3 : ¬ (fI D s.heap 5 dd 3).toInt < (6 : Int32).toInt := fun z9 => c3 (i_lt.mpr z9)
    have hc93 : sg 0 = 6 := by omega
    refine lv_aload_n hx hb dX6_readHouse_12 rfl (lv_at hl 0 rfl) ?_
    refine q_grS (T := TX6) C S.1 ga0 0 kF_X6_15 dX6_readHouse_13 rfl rfl (by decide) rfl (by decide) kSF_X6_tape (fun g94 => ?_)
    rw [show fR D s.heap 6 a0 0 = tp from htp]
    refine callV_Ei C S (c_X9_refuse_f l D G tp T b gtp) kV_X6_50 gtp (⟨trivial, ts0⟩) (by decide +kernel) dX6_readHouse_16 hl.1 rfl rfl (by decide) cd_X9_refuse ⟨Nat.le_of_ble_eq_true rfl, Nat.le_of_ble_eq_true rfl, Nat.le_of_ble_eq_true rfl, Nat.le_of_ble_eq_true rfl, Nat.le_of_ble_eq_true rfl⟩ (fun v95 H95 L95 S95 K95 q95 => ?_)
    obtain ⟨q95, fq95⟩ := q95
    have tk95 : Gd D G s.heap → Gd D G H95 := fun h9  => (tk0 h9).keep K95 (by decide +kernel)
    have dv95 := dv_keep dv0 S.1 (Or.inr gdd) K95
    have ct95 : (fI D H95 5 dd 3).toInt = sg 0 := by rw [K95.fI gdd rfl (by decide) (by decide +kernel)]; exact ct0
    have z95 := fq95.1
    exact retE_z hQ C S95 hr dX6_readHouse_19 (z01 (by omega) (by omega)) (⟨⟨by omega, fun _ h9 => tk95 h9⟩, RsP.no (s1 := sg) (by simp [houF, houW, houP, houT, hc93]) (by omega) fq95.2, fun q hq _ => K95.fI hq rfl (by decide) (by decide +kernel)⟩)
