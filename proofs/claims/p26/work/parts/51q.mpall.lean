set_option maxRecDepth 100000 in
set_option maxHeartbeats 4000000 in
theorem c_X12_readAll_tf (l : Launch) (D : DD) (G : Nat → Nat) (a0 : Nat) (x1 : Int32) (sg : Sg) (T : Tx) (ga0 : G a0 = 30) (ix1 : 1 ≤ x1.toInt ∧ x1.toInt ≤ 1) : CE l D G yX12_readAll cX12_readAll 3 (some .int) 30 [.ref a0, .int x1] (fun H => (True) ∧ (tM D H a0 = T ∧ MV D H a0 sg ∧ PV sg)) [(30, 0), (30, 9), (30, 10), (30, 11), (30, 12), (30, 16), (31, 0), (30, 13), (31, 1)] (xI (fun H r H1 => ((-1 ≤ r.toInt ∧ r.toInt ≤ 14) ∧ (fI D H1 11 a0 9).toInt = 0) ∧ (((0 ≤ r.toInt ∧ ∃ c s1, parF T sg = (true, c, s1) ∧ MV D H1 a0 s1 ∧ PV s1) ∨ (r.toInt = -1 ∧ ∃ e s1, parF T sg = (false, e, s1) ∧ (fI D H1 11 a0 12).toInt = ((e : Nat) : Int))) ∧ (fI D H1 11 a0 0).toInt = 0))) := by
  refine enter (by decide) (Nat.le_of_ble_eq_true rfl) ?_
  intro p e s m args below meth c ls Q hA hQ C hr hO hpre hl
  have hx := C.1
  have hb := C.2.1
  have S : Sd D G [(30, 0), (30, 9), (30, 10), (30, 11), (30, 12), (30, 16), (31, 0), (30, 13), (31, 1)] s.heap s.heap [] := Sd.start hO
  have hl : lv_has ls 3 [(0, .ref a0), (1, .int x1)] := hl
  obtain ⟨hpre, hf⟩ := hpre
  obtain ⟨hTM, mv0, pv0⟩ := hf
  have hT : T.2 ≤ 400 := by rw [← hTM]; exact tM_le hO ga0
  refine lv_aload_n hx hb dX12_readAll_0 rfl (lv_at hl 0 rfl) ?_
  refine callV_Ev C S (c_X12_uses_f l D G a0 T ga0) kV_X12_235 ga0 (hTM) (by decide +kernel) dX12_readAll_1 hl.1 rfl rfl (by decide) cd_X12_uses ⟨Nat.le_of_ble_eq_true rfl, Nat.le_of_ble_eq_true rfl, Nat.le_of_ble_eq_true rfl, Nat.le_of_ble_eq_true rfl, Nat.le_of_ble_eq_true rfl⟩ (fun H1 L1 S1 K1 q1 => ?_)
  have y1_12 : (fI D H1 11 a0 12).toInt = (fI D s.heap 11 a0 12).toInt := congrArg Int32.toInt (K1.fI ga0 rfl (by decide) (by decide +kernel))
  have mv1 := mv0.keep S.1 ga0 K1 (by decide +kernel) (by decide +kernel)
  have tz := q1.1.1
  have pz := q1.1.2
  have hmu := q1.2.1
  have hth := q1.2.2
  refine lv_aload_n hx hb dX12_readAll_4 rfl (lv_at hl 0 rfl) ?_
  refine lv_iconst (v := 0) hx hb dX12_readAll_5 (by decide) ?_
  have k_0 : (0 : Int32).toInt = 0 := by decide
  refine q_put (T := TX12) C S1 ga0 16 kF_X12_182 dX12_readAll_6 rfl rfl (by decide) (by decide) rfl rfl rfl rfl rfl (vok_i rfl (by omega) (by omega)) (by decide +kernel) (fun H2 L2 S2 P2 => ?_)
  have y2_9 : (fI D H2 11 a0 9).toInt = (fI D H1 11 a0 9).toInt := congrArg Int32.toInt (Pt.o P2 (by decide) (by decide))
  have y2_0 : (fI D H2 11 a0 0).toInt = (fI D H1 11 a0 0).toInt := congrArg Int32.toInt (Pt.o P2 (by decide) (by decide))
  have y2_10 : (fI D H2 11 a0 10).toInt = (fI D H1 11 a0 10).toInt := congrArg Int32.toInt (Pt.o P2 (by decide) (by decide))
  have y2_11 : (fI D H2 11 a0 11).toInt = (fI D H1 11 a0 11).toInt := congrArg Int32.toInt (Pt.o P2 (by decide) (by decide))
  have y2_12 : (fI D H2 11 a0 12).toInt = (fI D H1 11 a0 12).toInt := congrArg Int32.toInt (Pt.o P2 (by decide) (by decide))
  have mv2 := mv1.keep S1.1 ga0 (Pt.keep ga0 rfl (by decide) P2) (by decide) (by decide)
  have hm9 : mT D H2 a0 = T := (mT_put S1.1 ga0 P2 (by decide) (by decide)).trans hmu
  refine lv_aload_n hx hb dX12_readAll_9 rfl (lv_at hl 0 rfl) ?_
  refine callV_Ev C S2 (c_X12_blanks_f l D G a0 T 0 ga0) kV_X12_90 ga0 (⟨hm9, by omega⟩) (by decide +kernel) dX12_readAll_10 hl.1 rfl rfl (by decide) cd_X12_blanks ⟨Nat.le_of_ble_eq_true rfl, Nat.le_of_ble_eq_true rfl, Nat.le_of_ble_eq_true rfl, Nat.le_of_ble_eq_true rfl, Nat.le_of_ble_eq_true rfl⟩ (fun H3 L3 S3 K3 q3 => ?_)
  have y3_9 : (fI D H3 11 a0 9).toInt = (fI D H2 11 a0 9).toInt := congrArg Int32.toInt (K3.fI ga0 rfl (by decide) (by decide +kernel))
  have y3_0 : (fI D H3 11 a0 0).toInt = (fI D H2 11 a0 0).toInt := congrArg Int32.toInt (K3.fI ga0 rfl (by decide) (by decide +kernel))
  have y3_11 : (fI D H3 11 a0 11).toInt = (fI D H2 11 a0 11).toInt := congrArg Int32.toInt (K3.fI ga0 rfl (by decide) (by decide +kernel))
  have mv3 := mv2.keep S2.1 ga0 K3 (by decide +kernel) (by decide +kernel)
  have bp := q3.1
  have bsk := q3.2
  have hmb : mT D H3 a0 = T := (mT_keep S2.1 ga0 K3 (by decide +kernel) (by decide +kernel) (by decide +kernel)).trans hm9
  have tl9 : T.2 = (fI D H3 11 a0 11).toInt.toNat := (congrArg Prod.snd hmb).symm
  have sk0 : sk T 0 ≤ T.2 := sk_le (Nat.zero_le _)
  refine lv_aload_n hx hb dX12_readAll_13 rfl (lv_at hl 0 rfl) ?_
  refine q_gi (T := TX12) C S3.1 ga0 10 kF_X12_78 dX12_readAll_14 rfl rfl (by decide) rfl (by decide) rfl ?_
  have r4 : 0 ≤ (fI D H3 11 a0 10).toInt ∧ (fI D H3 11 a0 10).toInt ≤ 400 := S3.1.rng ga0 rfl (by decide) rfl
  refine lv_aload_n hx hb dX12_readAll_17 rfl (lv_at hl 0 rfl) ?_
  refine q_gi (T := TX12) C S3.1 ga0 11 kF_X12_81 dX12_readAll_18 rfl rfl (by decide) rfl (by decide) rfl ?_
  have r5 : 0 ≤ (fI D H3 11 a0 11).toInt ∧ (fI D H3 11 a0 11).toInt ≤ 400 := S3.1.rng ga0 rfl (by decide) rfl
  refine lv_icmp_ne (tgt := 26) hx hb dX12_readAll_21 (by decide) (fun c6 => ?_) (fun c6 => ?_)
  · have b6 : ¬ (fI D H3 11 a0 10).toInt = (fI D H3 11 a0 11).toInt := fun z9 => c6 (i_eq.mpr z9)
    have tl9 : T.2 = (fI D H3 11 a0 11).toInt.toNat := (congrArg Prod.snd hmb).symm
    have hk0 : ¬ kd T (sk T 0) = 0 := fun z9 => by have z8 := kd_e.mp z9; omega
    have rb26 : RB D H3 a0 T (sk T 0) := rb_at hmb (c := sk T 0) (by omega) sk0 (sk_idem hT)
    refine lv_iconst (v := 0) hx hb dX12_readAll_26 (by decide) ?_
    refine lv_istore_n (lv' := [(2, .int (0 : Int32)), (0, .ref a0), (1, .int x1)]) hx hb dX12_readAll_27 rfl hl (by decide) rfl (fun ls hl => ?_)
    have Lp28 : ∀ (n : Nat) (x2_28 : Int32) (sg_28 : Sg) (b_28 : Nat) (H_28 : Heap) (L_28 : List Loc) (ls : Array Slot), (Sd D G [(30, 0), (30, 9), (30, 10), (30, 11), (30, 12), (30, 16), (31, 0), (30, 13), (31, 1)] s.heap H_28 L_28) → (0 ≤ x2_28.toInt ∧ x2_28.toInt ≤ 14) → (MV D H_28 a0 sg_28) → (PV sg_28) → ((fI D H_28 11 a0 9).toInt = 0 ∧ (fI D H_28 11 a0 0).toInt = 0) → (RB D H_28 a0 T b_28) → (parF T sg = plsR T (14 - x2_28.toInt.toNat) sg_28 b_28) → 15 - x2_28.toInt ≤ (n : Int) → lv_has ls 3 [(2, .int x2_28), (0, .ref a0), (1, .int x1)] → W p l e (rmU 30 0 0) s m args below meth c H_28 L_28 0 0 Q (F0 m 28 ls []) := by
      intro n
      induction n with
      | zero =>
        intro x2_28 sg_28 b_28 H_28 L_28 ls S_28 j28_0 u28_0 u28_1 u28_2 u28_3 u28_4 hn hl
        exact absurd hn (by omega)
      | succ n ih28 =>
        intro x2_28 sg_28 b_28 H_28 L_28 ls S_28 j28_0 u28_0 u28_1 u28_2 u28_3 u28_4 hn hl
        refine lv_aload_n hx hb dX12_readAll_28 rfl (lv_at hl 1 rfl) ?_
        refine lv_iload_n hx hb dX12_readAll_29 rfl (lv_at hl 2 rfl) ?_
        refine lv_iload_n hx hb dX12_readAll_30 rfl (lv_at hl 0 rfl) ?_
        refine callV_Ei C S_28 (c_X12_readLine_tf l D G a0 x1 x2_28 sg_28 T b_28 ga0 (by omega) (by omega)) kV_X12_238 ga0 (⟨trivial, u28_3, u28_0, u28_1⟩) (by decide +kernel) dX12_readAll_31 hl.1 rfl rfl (by decide) cd_X12_readLine ⟨Nat.le_of_ble_eq_true rfl, Nat.le_of_ble_eq_true rfl, Nat.le_of_ble_eq_true rfl, Nat.le_of_ble_eq_true rfl, Nat.le_of_ble_eq_true rfl⟩ (fun v7 H7 L7 S7 K7 q7 => ?_)
        obtain ⟨q7, fq7⟩ := q7
        obtain ⟨q7, sa7⟩ := q7
        have y7_9 : (fI D H7 11 a0 9).toInt = (fI D H_28 11 a0 9).toInt := congrArg Int32.toInt (K7.fI ga0 rfl (by decide) (by decide +kernel))
        have y7_0 : (fI D H7 11 a0 0).toInt = (fI D H_28 11 a0 0).toInt := congrArg Int32.toInt (K7.fI ga0 rfl (by decide) (by decide +kernel))
        have y7_11 : (fI D H7 11 a0 11).toInt = (fI D H_28 11 a0 11).toInt := congrArg Int32.toInt (K7.fI ga0 rfl (by decide) (by decide +kernel))
        rcases fq7 with ⟨c7, s7, y7, z7, ts7, dv7, pv7⟩ | ⟨e7, s7, y7, z7, wr7⟩
        · skip
          refine lv_if_ne (tgt := 39) hx hb dX12_readAll_34 (by decide) (fun c8 => ?_) (fun c8 => ?_)
          · have b8 : ¬ v7.toInt = (0 : Int32).toInt := fun z9 => c8 (i_eq.mpr z9)
            refine lv_aload_n hx hb dX12_readAll_39 rfl (lv_at hl 1 rfl) ?_
            have rp8 : 0 ≤ (fI D H7 11 a0 10).toInt ∧ (fI D H7 11 a0 10).toInt ≤ 400 := S7.1.rng ga0 rfl (by decide) rfl
            have hmc := ts7.1
            have bdc := ts7.bd
            have skc := ts7.2.2
            have lin9 := plnN_t (k := x2_28.toInt.toNat) (by rw [show ((x2_28.toInt.toNat : Nat) : Int) = x2_28.toInt by omega]; exact y7)
            refine callV_Ev C S7 (c_X12_blanks_f l D G a0 T ((fI D H7 11 a0 10).toInt.toNat) ga0) kV_X12_90 ga0 (⟨hmc, by omega⟩) (by decide +kernel) dX12_readAll_40 hl.1 rfl rfl (by decide) cd_X12_blanks ⟨Nat.le_of_ble_eq_true rfl, Nat.le_of_ble_eq_true rfl, Nat.le_of_ble_eq_true rfl, Nat.le_of_ble_eq_true rfl, Nat.le_of_ble_eq_true rfl⟩ (fun H9 L9 S9 K9 q9 => ?_)
            have y9_9 : (fI D H9 11 a0 9).toInt = (fI D H7 11 a0 9).toInt := congrArg Int32.toInt (K9.fI ga0 rfl (by decide) (by decide +kernel))
            have y9_0 : (fI D H9 11 a0 0).toInt = (fI D H7 11 a0 0).toInt := congrArg Int32.toInt (K9.fI ga0 rfl (by decide) (by decide +kernel))
            have y9_11 : (fI D H9 11 a0 11).toInt = (fI D H7 11 a0 11).toInt := congrArg Int32.toInt (K9.fI ga0 rfl (by decide) (by decide +kernel))
            have mv9 := dv7.keep S7.1 ga0 K9 (by decide +kernel) (by decide +kernel)
            have bp := q9.1
            have bsk := q9.2
            have hmd : mT D H9 a0 = T := (mT_keep S7.1 ga0 K9 (by decide +kernel) (by decide +kernel) (by decide +kernel)).trans hmc
            have tl9 : T.2 = (fI D H9 11 a0 11).toInt.toNat := (congrArg Prod.snd hmd).symm
            rw [skc] at bsk
            refine lv_aload_n hx hb dX12_readAll_43 rfl (lv_at hl 1 rfl) ?_
            refine q_gi (T := TX12) C S9.1 ga0 10 kF_X12_78 dX12_readAll_44 rfl rfl (by decide) rfl (by decide) rfl ?_
            have r10 : 0 ≤ (fI D H9 11 a0 10).toInt ∧ (fI D H9 11 a0 10).toInt ≤ 400 := S9.1.rng ga0 rfl (by decide) rfl
            refine lv_aload_n hx hb dX12_readAll_47 rfl (lv_at hl 1 rfl) ?_
            refine q_gi (T := TX12) C S9.1 ga0 11 kF_X12_81 dX12_readAll_48 rfl rfl (by decide) rfl (by decide) rfl ?_
            have r11 : 0 ≤ (fI D H9 11 a0 11).toInt ∧ (fI D H9 11 a0 11).toInt ≤ 400 := S9.1.rng ga0 rfl (by decide) rfl
            refine lv_icmp_ne (tgt := 58) hx hb dX12_readAll_51 (by decide) (fun c12 => ?_) (fun c12 => ?_)
            · have b12 : ¬ (fI D H9 11 a0 10).toInt = (fI D H9 11 a0 11).toInt := fun z9 => c12 (i_eq.mpr z9)
              refine lv_aload_n hx hb dX12_readAll_58 rfl (lv_at hl 1 rfl) ?_
              refine lv_bipush (v := 59) hx hb dX12_readAll_59 (by decide) ?_
              refine lv_bipush (v := 59) hx hb dX12_readAll_61 (by decide) ?_
              have k_59 : (59 : Int32).toInt = 59 := by decide
              refine callV_Pi C S9.1 S9.2.1.2.1 (c_X12_isAt_f l D G a0 (59 : Int32) (59 : Int32) T ga0 (by omega) (by omega)) kV_X12_84 ga0 (hmd) dX12_readAll_63 hl.1 rfl rfl (by decide) cd_X12_isAt ⟨Nat.le_of_ble_eq_true rfl, Nat.le_of_ble_eq_true rfl, Nat.le_of_ble_eq_true rfl, Nat.le_of_ble_eq_true rfl, Nat.le_of_ble_eq_true rfl⟩ (fun v13 q13 => ?_)
              have nb9 : (fI D H9 11 a0 10).toInt.toNat = c7 := by omega
              rw [nb9] at q13
              refine lv_if_ne (tgt := 71) hx hb dX12_readAll_66 (by decide) (fun c14 => ?_) (fun c14 => ?_)
              · have b14 : ¬ v13.toInt = (0 : Int32).toInt := fun z9 => c14 (i_eq.mpr z9)
                have yS : isS T c7 59 = true := isS_t.mpr (by omega)
                refine lv_aload_n hx hb dX12_readAll_71 rfl (lv_at hl 1 rfl) ?_
                refine lv_dup hx hb dX12_readAll_72 rfl ?_
                refine q_gi (T := TX12) C S9.1 ga0 10 kF_X12_78 dX12_readAll_73 rfl rfl (by decide) rfl (by decide) rfl ?_
                refine lv_iconst (v := 1) hx hb dX12_readAll_76 (by decide) ?_
                have k_1 : (1 : Int32).toInt = 1 := by decide
                refine lv_iadd hx hb dX12_readAll_77 ?_
                refine lv_topi (fun v15 ev15 => ?_)
                have f16 : v15.toInt = (fI D H9 11 a0 10).toInt + (1 : Int32).toInt := by rw [ev15]; exact i_add (by omega) (by omega)
                refine q_put (T := TX12) C S9 ga0 10 kF_X12_78 dX12_readAll_78 rfl rfl (by decide) (by decide) rfl rfl rfl rfl rfl (vok_i rfl (by omega) (by omega)) (by decide +kernel) (fun H17 L17 S17 P17 => ?_)
                have y17_9 : (fI D H17 11 a0 9).toInt = (fI D H9 11 a0 9).toInt := congrArg Int32.toInt (Pt.o P17 (by decide) (by decide))
                have y17_0 : (fI D H17 11 a0 0).toInt = (fI D H9 11 a0 0).toInt := congrArg Int32.toInt (Pt.o P17 (by decide) (by decide))
                have y17_10 : (fI D H17 11 a0 10).toInt = v15.toInt := congrArg Int32.toInt (Pt.i P17)
                have y17_11 : (fI D H17 11 a0 11).toInt = (fI D H9 11 a0 11).toInt := congrArg Int32.toInt (Pt.o P17 (by decide) (by decide))
                have y17_12 : (fI D H17 11 a0 12).toInt = (fI D H9 11 a0 12).toInt := congrArg Int32.toInt (Pt.o P17 (by decide) (by decide))
                have mv17 := mv9.keep S9.1 ga0 (Pt.keep ga0 rfl (by decide) P17) (by decide) (by decide)
                have ks : kd T c7 = 3 := isS_k (c := 59) (by decide) yS
                have rb81 : RB D H17 a0 T (nx T c7) := rb_at ((mT_put S9.1 ga0 P17 (by decide) (by decide)).trans hmd) (c := c7 + 1) (by rw [Pt.i P17]; omega) (by have z5 := isS_b yS; omega) (by unfold nx; rw [af_s ks])
                obtain ⟨v18, ev18⟩ : ∃ y : Int32, y = x2_28 + (1) := ⟨_, rfl⟩
                have f19 : v18.toInt = x2_28.toInt + (1) := by rw [ev18]; exact i_addc k_1 (by omega) (by omega)
                refine lv_iinc (v := v18) (lv' := [(2, .int v18), (0, .ref a0), (1, .int x1)]) hx hb dX12_readAll_81 hl (k := 0) rfl (by rw [ev18]; rfl) (by decide) rfl (fun ls hl => ?_)
                refine lv_goto (tgt := 28) hx hb dX12_readAll_84 (by decide) ?_
                exact ih28 v18 s7 (nx T c7) H17 L17 ls S17 (by omega) mv17 pv7 (by omega) rb81 (by rw [u28_4, pls_st (m := 14 - (x2_28.toInt.toNat + 1)) (d := nx T c7) (by omega) lin9.2.1 lin9.2.2 (by rw [ks]; decide) (by unfold tkS; rw [if_pos yS])]; exact congrArg (fun m9 => plsR T m9 _ _) (by omega)) (by omega) (lv_sub hl [0, 1, 2] rfl)
              · have b14 : v13.toInt = (0 : Int32).toInt := i_eq.mp c14
                refine lv_iconst (v := -1) hx hb dX12_readAll_69 (by decide) ?_
                have k_m1 : (-1 : Int32).toInt = -1 := by decide
                exact retE_i hQ C S9 hr dX12_readAll_70 (⟨⟨by omega, by omega⟩, ⟨Or.inr ⟨by omega, _, _, u28_4.trans (pls_sg (m := 14 - (x2_28.toInt.toNat + 1)) (by omega) lin9.2.1 lin9.2.2 (kd_in (by omega)) (by unfold tkS; rw [if_neg (fun z8 => by have z7 := isS_t.mp z8; omega)])), by show _ = ((c7 : Nat) : Int); omega⟩, by omega⟩⟩)
            · have b12 : (fI D H9 11 a0 10).toInt = (fI D H9 11 a0 11).toInt := i_eq.mp c12
              refine lv_iload_n hx hb dX12_readAll_54 rfl (lv_at hl 0 rfl) ?_
              refine lv_iconst (v := 1) hx hb dX12_readAll_55 (by decide) ?_
              have k_1 : (1 : Int32).toInt = 1 := by decide
              refine lv_iadd hx hb dX12_readAll_56 ?_
              refine lv_topi (fun v20 ev20 => ?_)
              have f21 : v20.toInt = x2_28.toInt + (1 : Int32).toInt := by rw [ev20]; exact i_add (by omega) (by omega)
              exact retE_i hQ C S9 hr dX12_readAll_57 (⟨⟨by omega, by omega⟩, ⟨Or.inl ⟨by omega, _, _, u28_4.trans (pls_end (m := 14 - (x2_28.toInt.toNat + 1)) (by omega) lin9.2.1 lin9.2.2 (kd_e.mpr (by omega))), mv9, pv7⟩, by omega⟩⟩)
          · have b8 : v7.toInt = (0 : Int32).toInt := i_eq.mp c8
            exact absurd b8 (by omega)
        · skip
          refine lv_if_ne (tgt := 39) hx hb dX12_readAll_34 (by decide) (fun c22 => ?_) (fun c22 => ?_)
          · have b22 : ¬ v7.toInt = (0 : Int32).toInt := fun z9 => c22 (i_eq.mpr z9)
            exact absurd b22 (by omega)
          · have b22 : v7.toInt = (0 : Int32).toInt := i_eq.mp c22
            refine lv_iconst (v := -1) hx hb dX12_readAll_37 (by decide) ?_
            have k_m1 : (-1 : Int32).toInt = -1 := by decide
            exact retE_i hQ C S7 hr dX12_readAll_38 (⟨⟨by omega, by omega⟩, ⟨by have z9 := plsN_no (k := x2_28.toInt.toNat) u28_4 (by omega) (by rw [show ((x2_28.toInt.toNat : Nat) : Int) = x2_28.toInt by omega]; exact y7); exact Or.inr ⟨by omega, (parF T sg).2.1, (parF T sg).2.2, Prod.ext z9.1 rfl, by rw [z9.2]; exact wr7⟩, by omega⟩⟩)
    have rp9 : 0 ≤ (fI D H3 11 a0 10).toInt ∧ (fI D H3 11 a0 10).toInt ≤ 400 := S3.1.rng ga0 rfl (by decide) rfl
    exact Lp28 15 (0 : Int32) sg (sk T 0) H3 L3 ls S3 (by omega) mv3 pv0 (by omega) rb26 (by rw [show (0 : Int32).toInt.toNat = 0 by decide]; exact if_neg hk0)  (by omega) (lv_sub hl [0, 1, 2] rfl)
  · have b6 : (fI D H3 11 a0 10).toInt = (fI D H3 11 a0 11).toInt := i_eq.mp c6
    refine lv_iconst (v := 0) hx hb dX12_readAll_24 (by decide) ?_
    exact retE_i hQ C S3 hr dX12_readAll_25 (⟨⟨by omega, by omega⟩, ⟨Or.inl ⟨by omega, _, _, if_pos (kd_e.mpr (by omega)), mv3, pv0⟩, by omega⟩⟩)
