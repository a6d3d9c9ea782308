set_option maxRecDepth 100000 in
set_option maxHeartbeats 4000000 in
theorem c_X5_bitsOf_df (l : Launch) (D : DD) (G : Nat → Nat) (a0 : Nat) (x1 : Int32) (sg : Sg) (ga0 : G a0 = 23) : CP l D G yX5_bitsOf cX5_bitsOf 4 (some .int) 0 [.ref a0, .int x1] (fun H => SV (pv D H a0) sg) (pI (fun H r => (0 ≤ r.toInt ∧ r.toInt ≤ 4095) ∧ r.toInt = ((bto sg x1.toInt (sg 1).toNat : Nat) : Int))) := by
  refine enter (by decide) (Nat.le_of_ble_eq_true rfl) ?_
  intro p e s m args below meth c ls Q hA hQ C hr hO hpre hl
  have hx := C.1
  have hb := C.2.1
  have hl : lv_has ls 4 [(0, .ref a0), (1, .int x1)] := hl
  have ct0 := dv_1 hpre
  refine lv_iconst (v := 0) hx hb dX5_bitsOf_0 (by decide) ?_
  refine lv_istore_n (lv' := [(2, .int (0 : Int32)), (0, .ref a0), (1, .int x1)]) hx hb dX5_bitsOf_1 rfl hl (by decide) rfl (fun ls hl => ?_)
  refine lv_iconst (v := 0) hx hb dX5_bitsOf_2 (by decide) ?_
  refine lv_istore_n (lv' := [(3, .int (0 : Int32)), (2, .int (0 : Int32)), (0, .ref a0), (1, .int x1)]) hx hb dX5_bitsOf_3 rfl hl (by decide) rfl (fun ls hl => ?_)
  have Lp4 : ∀ (n : Nat) (x3_4 : Int32) (x2_4 : Int32) (ls : Array Slot), (0 ≤ x3_4.toInt ∧ x3_4.toInt ≤ 12) → (0 ≤ x2_4.toInt ∧ x2_4.toInt ≤ 4095) → (x2_4.toInt = ((bto sg x1.toInt x3_4.toInt.toNat : Nat) : Int)) → 13 - x3_4.toInt ≤ (n : Int) → lv_has ls 4 [(3, .int x3_4), (2, .int x2_4), (0, .ref a0), (1, .int x1)] → W p l e (rmU 0 0 0) s m args below meth c s.heap [] 0 0 Q (F0 m 4 ls []) := by
    intro n
    induction n with
    | zero =>
      intro x3_4 x2_4 ls j4_0 j4_1 u4_0 hn hl
      exact absurd hn (by omega)
    | succ n ih4 =>
      intro x3_4 x2_4 ls j4_0 j4_1 u4_0 hn hl
      refine lv_iload_n hx hb dX5_bitsOf_4 rfl (lv_at hl 0 rfl) ?_
      refine lv_aload_n hx hb dX5_bitsOf_5 rfl (lv_at hl 2 rfl) ?_
      refine q_gi (T := TX5) C hO ga0 4 kF_X5_34 dX5_bitsOf_6 rfl rfl (by decide) rfl (by decide) rfl ?_
      have r1 : 0 ≤ (fI D s.heap 5 a0 4).toInt ∧ (fI D s.heap 5 a0 4).toInt ≤ 12 := hO.rng ga0 rfl (by decide) rfl
      refine lv_icmp_ge (tgt := 37) hx hb dX5_bitsOf_9 (by decide) (fun c2 => ?_) (fun c2 => ?_)
      · have b2 : (fI D s.heap 5 a0 4).toInt ≤ x3_4.toInt := i_le.mp c2
        refine lv_iload_n hx hb dX5_bitsOf_37 rfl (lv_at hl 1 rfl) ?_
        exact retP_i hQ C hr dX5_bitsOf_38 (⟨by omega, by rw [show (sg 1).toNat = x3_4.toInt.toNat by omega]; exact u4_0⟩)
      · have b2 : ¬ (fI D s.heap 5 a0 4).toInt ≤ x3_4.toInt := fun z9 => c2 (i_le.mpr z9)
        refine lv_aload_n hx hb dX5_bitsOf_12 rfl (lv_at hl 2 rfl) ?_
        refine q_gr (T := TX5) C hO ga0 1 kF_X5_19 dX5_bitsOf_13 rfl rfl (by decide) rfl (by decide) rfl (fun g3 => ?_)
        refine lv_iload_n hx hb dX5_bitsOf_16 rfl (lv_at hl 0 rfl) ?_
        refine q_aald C hO g3 (by omega) (by omega) dX5_bitsOf_17 rfl (by decide) rfl rfl (fun g4 => ?_)
        refine q_gi (T := TX1) C hO g4 0 kF_X5_77 dX5_bitsOf_18 rfl rfl (by decide) rfl (by decide) rfl ?_
        have r5 : -1 ≤ (fI D s.heap 1 (eR s.heap (fR D s.heap 5 a0 1) x3_4.toInt.toNat) 0).toInt ∧ (fI D s.heap 1 (eR s.heap (fR D s.heap 5 a0 1) x3_4.toInt.toNat) 0).toInt ≤ 5 := hO.rng g4 rfl (by decide) rfl
        refine lv_iload_n hx hb dX5_bitsOf_21 rfl (lv_at hl 3 rfl) ?_
        refine lv_icmp_ne (tgt := 31) hx hb dX5_bitsOf_22 (by decide) (fun c6 => ?_) (fun c6 => ?_)
        · have b6 : ¬ (fI D s.heap 1 (eR s.heap (fR D s.heap 5 a0 1) x3_4.toInt.toNat) 0).toInt = x1.toInt := fun z9 => c6 (i_eq.mpr z9)
          obtain ⟨v7, ev7⟩ : ∃ y : Int32, y = x3_4 + (1) := ⟨_, rfl⟩
          have k_1 : (1 : Int32).toInt = 1 := by decide
          have f8 : v7.toInt = x3_4.toInt + (1) := by rw [ev7]; exact i_addc k_1 (by omega) (by omega)
          refine lv_iinc (v := v7) (lv' := [(3, .int v7), (2, .int x2_4), (0, .ref a0), (1, .int x1)]) hx hb dX5_bitsOf_31 hl (k := 0) rfl (by rw [ev7]; rfl) (by decide) rfl (fun ls hl => ?_)
          refine lv_goto (tgt := 4) hx hb dX5_bitsOf_34 (by decide) ?_
          exact ih4 v7 x2_4 ls (by omega) (by omega) (by rw [show v7.toInt.toNat = x3_4.toInt.toNat + 1 by omega, bto_o (by rw [← hpre _ (by omega), pv_h (by omega)]; exact fun z9 => absurd z9 (by show ¬ (fI D s.heap 1 (eR s.heap (fR D s.heap 5 a0 1) x3_4.toInt.toNat) 0).toInt = x1.toInt; omega))]; exact u4_0) (by omega) (lv_sub hl [0, 1, 2, 3] rfl)
        · have b6 : (fI D s.heap 1 (eR s.heap (fR D s.heap 5 a0 1) x3_4.toInt.toNat) 0).toInt = x1.toInt := i_eq.mp c6
          refine lv_iload_n hx hb dX5_bitsOf_25 rfl (lv_at hl 1 rfl) ?_
          refine lv_iconst (v := 1) hx hb dX5_bitsOf_26 (by decide) ?_
          refine lv_iload_n hx hb dX5_bitsOf_27 rfl (lv_at hl 0 rfl) ?_
          have k_1 : (1 : Int32).toInt = 1 := by decide
          refine lv_ishl hx hb dX5_bitsOf_28 ?_
          refine lv_topi (fun v9 ev9 => ?_)
          have f10 : 1 ≤ v9.toInt ∧ v9.toInt ≤ 2048 := by rw [ev9]; exact i_shl1 11 (by omega) (by omega) (by decide)
          refine lv_ior hx hb dX5_bitsOf_29 ?_
          refine lv_topi (fun v11 ev11 => ?_)
          have f12 : 0 ≤ v11.toInt ∧ v11.toInt < 4096 := by rw [ev11]; exact i_or 12 (by omega) (by omega) (by omega) (by omega)
          refine lv_istore_n (lv' := [(2, .int v11), (3, .int x3_4), (0, .ref a0), (1, .int x1)]) hx hb dX5_bitsOf_30 rfl hl (by decide) rfl (fun ls hl => ?_)
          obtain ⟨v13, ev13⟩ : ∃ y : Int32, y = x3_4 + (1) := ⟨_, rfl⟩
          have f14 : v13.toInt = x3_4.toInt + (1) := by rw [ev13]; exact i_addc k_1 (by omega) (by omega)
          refine lv_iinc (v := v13) (lv' := [(3, .int v13), (2, .int v11), (0, .ref a0), (1, .int x1)]) hx hb dX5_bitsOf_31 hl (k := 1) rfl (by rw [ev13]; rfl) (by decide) rfl (fun ls hl => ?_)
          refine lv_goto (tgt := 4) hx hb dX5_bitsOf_34 (by decide) ?_
          exact ih4 v13 v11 ls (by omega) (by omega) (by rw [show v13.toInt.toNat = x3_4.toInt.toNat + 1 by omega, bto_s (by rw [← hpre _ (by omega), pv_h (by omega)]; show (fI D s.heap 1 (eR s.heap (fR D s.heap 5 a0 1) x3_4.toInt.toNat) 0).toInt = x1.toInt; omega), ev11]; exact or_add u4_0 (bto_lt _ _ _) (sh1 (by omega) (by omega) ev9) (by omega)) (by omega) (lv_sub hl [0, 1, 2, 3] rfl)
  have k_0 : (0 : Int32).toInt = 0 := by decide
  exact Lp4 13 (0 : Int32) (0 : Int32) ls (by omega) (by omega) (by decide)  (by omega) (lv_sub hl [0, 1, 2, 3] rfl)

set_option maxRecDepth 100000 in
set_option maxHeartbeats 4000000 in
theorem c_X6_numberAfter_f (l : Launch) (D : DD) (G : Nat → Nat) (a0 : Nat) (a1 n1 : Nat) (x2 : Int32) (x3 : Int32) (w : List Nat) (lo : Int) (hi : Int) (tp : Nat) (T : Tx) (b : Nat) (ga0 : G a0 = 20) (sa1 : D.1.2 99 a1 = n1 + 1) (ix2 : 0 ≤ x2.toInt ∧ x2.toInt ≤ 1000) (hw : Wc D a1 n1 w) (hlo : x2.toInt = lo) (hhi : x3.toInt = hi) : CE l D G yX6_numberAfter cX6_numberAfter 4 (some .int) 6 [.ref a0, .ref a1, .int x2, .int x3] (fun H => (True) ∧ (fR D H 6 a0 0 = tp ∧ TS D H tp T b)) [(2, 3), (2, 4), (2, 5), (2, 6), (2, 2)] (xI (fun H r H1 => (r.toInt = -1 ∨ (x2.toInt ≤ r.toInt ∧ r.toInt ≤ x3.toInt)) ∧ ((isW T b w = true ∧ num T (nx T b) lo hi ≠ -1 ∧ r.toInt = num T (nx T b) lo hi ∧ TS D H1 tp T (nx T (nx T b))) ∨ (isW T b w = true ∧ num T (nx T b) lo hi = -1 ∧ r.toInt = -1 ∧ (fI D H1 9 tp 2).toInt = (((nx T b) : Nat) : Int)) ∨ (isW T b w = false ∧ r.toInt = -1 ∧ (fI D H1 9 tp 2).toInt = (((b) : Nat) : Int))))) := by
  refine enter (by decide) (Nat.le_of_ble_eq_true rfl) ?_
  intro p e s m args below meth c ls Q hA hQ C hr hO hpre hl
  have hx := C.1
  have hb := C.2.1
  have S : Sd D G [(2, 3), (2, 4), (2, 5), (2, 6), (2, 2)] s.heap s.heap [] := Sd.start hO
  have hl : lv_has ls 4 [(0, .ref a0), (1, .ref a1), (2, .int x2), (3, .int x3)] := hl
  obtain ⟨hpre, hf⟩ := hpre
  obtain ⟨htp, ts0⟩ := hf
  have gtp : G tp = 2 := by rw [← htp]; exact hO.rol ga0 rfl (by decide) rfl
  have hT : T.2 ≤ 400 := ts0.le hO gtp
  refine lv_aload_n hx hb dX6_numberAfter_0 rfl (lv_at hl 0 rfl) ?_
  refine q_grS (T := TX6) C S.1 ga0 0 kF_X6_15 dX6_numberAfter_1 rfl rfl (by decide) rfl (by decide) kSF_X6_tape (fun g1 => ?_)
  rw [show fR D s.heap 6 a0 0 = tp from htp]
  refine lv_aload_n hx hb dX6_numberAfter_4 rfl (lv_at hl 1 rfl) ?_
  refine callV_Ei C S (c_X9_takeWord_f l D G tp a1 n1 w T b gtp sa1 hw) kV_X6_108 gtp (⟨trivial, ts0⟩) (by decide +kernel) dX6_numberAfter_5 hl.1 rfl rfl (by decide) cd_X9_takeWord ⟨Nat.le_of_ble_eq_true rfl, Nat.le_of_ble_eq_true rfl, Nat.le_of_ble_eq_true rfl, Nat.le_of_ble_eq_true rfl, Nat.le_of_ble_eq_true rfl⟩ (fun v2 H2 L2 S2 K2 q2 => ?_)
  obtain ⟨q2, fq2⟩ := q2
  rcases fq2 with ⟨c2, y2, z2, ts2⟩ | ⟨e2, y2, z2, wr2⟩
  · skip
    have k_0 : (0 : Int32).toInt = 0 := by decide
    refine lv_if_ne (tgt := 13) hx hb dX6_numberAfter_8 (by decide) (fun c3 => ?_) (fun c3 => ?_)
    · have b3 : ¬ v2.toInt = (0 : Int32).toInt := fun z9 => c3 (i_eq.mpr z9)
      refine lv_aload_n hx hb dX6_numberAfter_13 rfl (lv_at hl 0 rfl) ?_
      refine q_grS (T := TX6) C S2.1 ga0 0 kF_X6_15 dX6_numberAfter_14 rfl rfl (by decide) rfl (by decide) kSF_X6_tape (fun g4 => ?_)
      rw [show fR D H2 6 a0 0 = tp from (S2.2.1.fR ga0 rfl (by decide) (by decide +kernel)).trans htp]
      refine lv_iload_n hx hb dX6_numberAfter_17 rfl (lv_at hl 2 rfl) ?_
      refine lv_iload_n hx hb dX6_numberAfter_18 rfl (lv_at hl 3 rfl) ?_
      refine callV_Ei C S2 (c_X9_takeNumber_f l D G tp x2 x3 lo hi T c2 gtp (by omega) hlo hhi) kV_X6_86 gtp (⟨trivial, ts2⟩) (by decide +kernel) dX6_numberAfter_19 hl.1 rfl rfl (by decide) cd_X9_takeNumber ⟨Nat.le_of_ble_eq_true rfl, Nat.le_of_ble_eq_true rfl, Nat.le_of_ble_eq_true rfl, Nat.le_of_ble_eq_true rfl, Nat.le_of_ble_eq_true rfl⟩ (fun v5 H5 L5 S5 K5 q5 => ?_)
      obtain ⟨q5, fq5⟩ := q5
      rcases fq5 with ⟨z5, y5, ts5⟩ | ⟨z5, y5, wr5⟩
      · skip
        exact retE_i hQ C S5 hr dX6_numberAfter_22 (⟨by omega, Or.inl ⟨y2, y5, by omega, ts5⟩⟩)
      · skip
        exact retE_i hQ C S5 hr dX6_numberAfter_22 (⟨by omega, Or.inr (Or.inl ⟨y2, y5, by omega, wr5⟩)⟩)
    · have b3 : v2.toInt = (0 : Int32).toInt := i_eq.mp c3
      exact absurd b3 (by omega)
  · skip
    have k_0 : (0 : Int32).toInt = 0 := by decide
    refine lv_if_ne (tgt := 13) hx hb dX6_numberAfter_8 (by decide) (fun c6 => ?_) (fun c6 => ?_)
    · have b6 : ¬ v2.toInt = (0 : Int32).toInt := fun z9 => c6 (i_eq.mpr z9)
      exact absurd b6 (by omega)
    · have b6 : v2.toInt = (0 : Int32).toInt := i_eq.mp c6
      refine lv_iconst (v := -1) hx hb dX6_numberAfter_11 (by decide) ?_
      have k_m1 : (-1 : Int32).toInt = -1 := by decide
      exact retE_i hQ C S2 hr dX6_numberAfter_12 (⟨by omega, Or.inr (Or.inr ⟨y2, by omega, wr2⟩)⟩)

set_option maxRecDepth 100000 in
set_option maxHeartbeats 4000000 in
theorem c_X6_presentKind_f (l : Launch) (D : DD) (G : Nat → Nat) (a0 : Nat) (tp : Nat) (T : Tx) (b : Nat) (ga0 : G a0 = 20) : CP l D G yX6_presentKind cX6_presentKind 1 (some .int) 5 [.ref a0] (fun H => (True) ∧ (fR D H 6 a0 0 = tp ∧ TS D H tp T b)) (pI (fun H r => (-1 ≤ r.toInt ∧ r.toInt ≤ 3) ∧ (r.toInt = kin T b))) := by
  refine enter (by decide) (Nat.le_of_ble_eq_true rfl) ?_
  intro p e s m args below meth c ls Q hA hQ C hr hO hpre hl
  have hx := C.1
  have hb := C.2.1
  have hl : lv_has ls 1 [(0, .ref a0)] := hl
  obtain ⟨hpre, hf⟩ := hpre
  obtain ⟨htp, ts0⟩ := hf
  have gtp : G tp = 2 := by rw [← htp]; exact hO.rol ga0 rfl (by decide) rfl
  have hT : T.2 ≤ 400 := ts0.le hO gtp
  refine lv_aload_n hx hb dX6_presentKind_0 rfl (lv_at hl 0 rfl) ?_
  refine q_grS (T := TX6) C hO ga0 0 kF_X6_15 dX6_presentKind_1 rfl rfl (by decide) rfl (by decide) kSF_X6_tape (fun g1 => ?_)
  rw [show fR D s.heap 6 a0 0 = tp from htp]
  refine q_lds C ks_X6_131 dX6_presentKind_4 (fun a2 ha2 wa2 => ?_)
  refine callV_Pi C hO (fun _ _ _ => rfl) (c_X9_isWord_f l D G tp a2 4 w_fire T b gtp ha2 (Wc.of wa2 kw_fire)) kV_X6_21 gtp (⟨trivial, ts0⟩) dX6_presentKind_6 hl.1 rfl rfl (by decide) cd_X9_isWord ⟨Nat.le_of_ble_eq_true rfl, Nat.le_of_ble_eq_true rfl, Nat.le_of_ble_eq_true rfl, Nat.le_of_ble_eq_true rfl, Nat.le_of_ble_eq_true rfl⟩ (fun v3 q3 => ?_)
  obtain ⟨q3, fq3⟩ := q3
  rcases fq3 with ⟨z3, y3⟩ | ⟨z3, y3⟩
  · skip
    have k_0 : (0 : Int32).toInt = 0 := by decide
    refine lv_if_eq (tgt := 14) hx hb dX6_presentKind_9 (by decide) (fun c4 => ?_) (fun c4 => ?_)
    · have b4 : v3.toInt = (0 : Int32).toInt := i_eq.mp c4
      exact absurd b4 (by omega)
    · have b4 : ¬ v3.toInt = (0 : Int32).toInt := fun z9 => c4 (i_eq.mpr z9)
      refine lv_iconst (v := 0) hx hb dX6_presentKind_12 (by decide) ?_
      exact retP_i hQ C hr dX6_presentKind_13 (⟨by omega, by rw [show kin T b = 0 by simp [kin, y3]]; omega⟩)
  · skip
    have k_0 : (0 : Int32).toInt = 0 := by decide
    refine lv_if_eq (tgt := 14) hx hb dX6_presentKind_9 (by decide) (fun c5 => ?_) (fun c5 => ?_)
    · have b5 : v3.toInt = (0 : Int32).toInt := i_eq.mp c5
      refine lv_aload_n hx hb dX6_presentKind_14 rfl (lv_at hl 0 rfl) ?_
      refine q_grS (T := TX6) C hO ga0 0 kF_X6_15 dX6_presentKind_15 rfl rfl (by decide) rfl (by decide) kSF_X6_tape (fun g6 => ?_)
      rw [show fR D s.heap 6 a0 0 = tp from htp]
      refine q_lds C ks_X6_133 dX6_presentKind_18 (fun a7 ha7 wa7 => ?_)
      refine callV_Pi C hO (fun _ _ _ => rfl) (c_X9_isWord_f l D G tp a7 4 w_oven T b gtp ha7 (Wc.of wa7 kw_oven)) kV_X6_21 gtp (⟨trivial, ts0⟩) dX6_presentKind_20 hl.1 rfl rfl (by decide) cd_X9_isWord ⟨Nat.le_of_ble_eq_true rfl, Nat.le_of_ble_eq_true rfl, Nat.le_of_ble_eq_true rfl, Nat.le_of_ble_eq_true rfl, Nat.le_of_ble_eq_true rfl⟩ (fun v8 q8 => ?_)
      obtain ⟨q8, fq8⟩ := q8
      rcases fq8 with ⟨z8, y8⟩ | ⟨z8, y8⟩
      · skip
        refine lv_if_eq (tgt := 28) hx hb dX6_presentKind_23 (by decide) (fun c9 => ?_) (fun c9 => ?_)
        · have b9 : v8.toInt = (0 : Int32).toInt := i_eq.mp c9
          exact absurd b9 (by omega)
        · have b9 : ¬ v8.toInt = (0 : Int32).toInt := fun z9 => c9 (i_eq.mpr z9)
          refine lv_iconst (v := 1) hx hb dX6_presentKind_26 (by decide) ?_
          have k_1 : (1 : Int32).toInt = 1 := by decide
          exact retP_i hQ C hr dX6_presentKind_27 (⟨by omega, by rw [show kin T b = 1 by simp [kin, y3, y8]]; omega⟩)
      · skip
        refine lv_if_eq (tgt := 28) hx hb dX6_presentKind_23 (by decide) (fun c10 => ?_) (fun c10 => ?_)
        · have b10 : v8.toInt = (0 : Int32).toInt := i_eq.mp c10
          refine lv_aload_n hx hb dX6_presentKind_28 rfl (lv_at hl 0 rfl) ?_
          refine q_grS (T := TX6) C hO ga0 0 kF_X6_15 dX6_presentKind_29 rfl rfl (by decide) rfl (by decide) kSF_X6_tape (fun g11 => ?_)
          rw [show fR D s.heap 6 a0 0 = tp from htp]
          refine q_lds C ks_X6_135 dX6_presentKind_32 (fun a12 ha12 wa12 => ?_)
          refine callV_Pi C hO (fun _ _ _ => rfl) (c_X9_isWord_f l D G tp a12 5 w_forge T b gtp ha12 (Wc.of wa12 kw_forge)) kV_X6_21 gtp (⟨trivial, ts0⟩) dX6_presentKind_34 hl.1 rfl rfl (by decide) cd_X9_isWord ⟨Nat.le_of_ble_eq_true rfl, Nat.le_of_ble_eq_true rfl, Nat.le_of_ble_eq_true rfl, Nat.le_of_ble_eq_true rfl, Nat.le_of_ble_eq_true rfl⟩ (fun v13 q13 => ?_)
          obtain ⟨q13, fq13⟩ := q13
          rcases fq13 with ⟨z13, y13⟩ | ⟨z13, y13⟩
          · skip
            refine lv_if_eq (tgt := 42) hx hb dX6_presentKind_37 (by decide) (fun c14 => ?_) (fun c14 => ?_)
            · have b14 : v13.toInt = (0 : Int32).toInt := i_eq.mp c14
              exact absurd b14 (by omega)
            · have b14 : ¬ v13.toInt = (0 : Int32).toInt := fun z9 => c14 (i_eq.mpr z9)
              refine lv_iconst (v := 2) hx hb dX6_presentKind_40 (by decide) ?_
              have k_2 : (2 : Int32).toInt = 2 := by decide
              exact retP_i hQ C hr dX6_presentKind_41 (⟨by omega, by rw [show kin T b = 2 by simp [kin, y3, y8, y13]]; omega⟩)
          · skip
            refine lv_if_eq (tgt := 42) hx hb dX6_presentKind_37 (by decide) (fun c15 => ?_) (fun c15 => ?_)
            · have b15 : v13.toInt = (0 : Int32).toInt := i_eq.mp c15
              refine lv_aload_n hx hb dX6_presentKind_42 rfl (lv_at hl 0 rfl) ?_
              refine q_grS (T := TX6) C hO ga0 0 kF_X6_15 dX6_presentKind_43 rfl rfl (by decide) rfl (by decide) kSF_X6_tape (fun g16 => ?_)
              rw [show fR D s.heap 6 a0 0 = tp from htp]
              refine q_lds C ks_X6_137 dX6_presentKind_46 (fun a17 ha17 wa17 => ?_)
              refine callV_Pi C hO (fun _ _ _ => rfl) (c_X9_isWord_f l D G tp a17 3 w_pot T b gtp ha17 (Wc.of wa17 kw_pot)) kV_X6_21 gtp (⟨trivial, ts0⟩) dX6_presentKind_48 hl.1 rfl rfl (by decide) cd_X9_isWord ⟨Nat.le_of_ble_eq_true rfl, Nat.le_of_ble_eq_true rfl, Nat.le_of_ble_eq_true rfl, Nat.le_of_ble_eq_true rfl, Nat.le_of_ble_eq_true rfl⟩ (fun v18 q18 => ?_)
              obtain ⟨q18, fq18⟩ := q18
              rcases fq18 with ⟨z18, y18⟩ | ⟨z18, y18⟩
              · skip
                refine lv_if_eq (tgt := 58) hx hb dX6_presentKind_51 (by decide) (fun c19 => ?_) (fun c19 => ?_)
                · have b19 : v18.toInt = (0 : Int32).toInt := i_eq.mp c19
                  exact absurd b19 (by omega)
                · have b19 : ¬ v18.toInt = (0 : Int32).toInt := fun z9 => c19 (i_eq.mpr z9)
                  refine lv_iconst (v := 3) hx hb dX6_presentKind_54 (by decide) ?_
                  refine lv_goto (tgt := 59) hx hb dX6_presentKind_55 (by decide) ?_
                  have k_3 : (3 : Int32).toInt = 3 := by decide
                  exact retP_i hQ C hr dX6_presentKind_59 (⟨by omega, by rw [show kin T b = 3 by simp [kin, y3, y8, y13, y18]]; omega⟩)
              · skip
                refine lv_if_eq (tgt := 58) hx hb dX6_presentKind_51 (by decide) (fun c20 => ?_) (fun c20 => ?_)
                · have b20 : v18.toInt = (0 : Int32).toInt := i_eq.mp c20
                  refine lv_iconst (v := -1) hx hb dX6_presentKind_58 (by decide) ?_
                  have k_m1 : (-1 : Int32).toInt = -1 := by decide
                  exact retP_i hQ C hr dX6_presentKind_59 (⟨by omega, by rw [show kin T b = -1 by simp [kin, y3, y8, y13, y18]]; omega⟩)
                · have b20 : ¬ v18.toInt = (0 : Int32).toInt := fun z9 => c20 (i_eq.mpr z9)
                  exact absurd b20 (by omega)
            · have b15 : ¬ v13.toInt = (0 : Int32).toInt := fun z9 => c15 (i_eq.mpr z9)
              exact absurd b15 (by omega)
        · have b10 : ¬ v8.toInt = (0 : Int32).toInt := fun z9 => c10 (i_eq.mpr z9)
          exact absurd b10 (by omega)
    · have b5 : ¬ v3.toInt = (0 : Int32).toInt := fun z9 => c5 (i_eq.mpr z9)
      exact absurd b5 (by omega)

set_option maxRecDepth 100000 in
set_option maxHeartbeats 4000000 in
theorem c_X6_roomyHouse_f (l : Launch) (D : DD) (G : Nat → Nat) (a0 : Nat) (dd : Nat) (sg : Sg) (tp : Nat) (T : Tx) (b : Nat) (ga0 : G a0 = 20) : CE l D G yX6_roomyHouse cX6_roomyHouse 2 (some .int) 2 [.ref a0] (fun H => (G (fR D H 6 a0 2) = 23) ∧ (fR D H 6 a0 0 = tp ∧ TS D H tp T b ∧ fR D H 6 a0 2 = dd ∧ DS D H dd ∧ SV (pv D H dd) sg)) [(2, 3), (2, 4), (2, 5), (2, 6), (2, 2)] (xI (fun H r H1 => (-1 ≤ r.toInt ∧ r.toInt ≤ 5) ∧ ((num T b 0 (sg 0 - 1) ≠ -1 ∧ ¬ 6 ≤ ones (bto sg (num T b 0 (sg 0 - 1)) (sg 1).toNat) ∧ r.toInt = num T b 0 (sg 0 - 1) ∧ TS D H1 tp T (nx T b)) ∨ ((num T b 0 (sg 0 - 1) = -1 ∨ 6 ≤ ones (bto sg (num T b 0 (sg 0 - 1)) (sg 1).toNat)) ∧ r.toInt = -1 ∧ (fI D H1 9 tp 2).toInt = (((b) : Nat) : Int))))) := by
  refine enter (by decide) (Nat.le_of_ble_eq_true rfl) ?_
  intro p e s m args below meth c ls Q hA hQ C hr hO hpre hl
  have hx := C.1
  have hb := C.2.1
  have S : Sd D G [(2, 3), (2, 4), (2, 5), (2, 6), (2, 2)] s.heap s.heap [] := Sd.start hO
  have hl : lv_has ls 2 [(0, .ref a0)] := hl
  obtain ⟨hpre, hf⟩ := hpre
  obtain ⟨htp, ts0, hdd, ds0, dv0⟩ := hf
  have gtp : G tp = 2 := by rw [← htp]; exact hO.rol ga0 rfl (by decide) rfl
  have gdd : G dd = 23 := by rw [← hdd]; exact hpre
  have hT : T.2 ≤ 400 := ts0.le hO gtp
  have ct0 : (fI D s.heap 5 dd 3).toInt = sg 0 := dv_0 dv0
  refine lv_aload_n hx hb dX6_roomyHouse_0 rfl (lv_at hl 0 rfl) ?_
  refine q_grS (T := TX6) C S.1 ga0 0 kF_X6_15 dX6_roomyHouse_1 rfl rfl (by decide) rfl (by decide) kSF_X6_tape (fun g1 => ?_)
  rw [show fR D s.heap 6 a0 0 = tp from htp]
  refine q_gi (T := TX9) C S.1 gtp 3 kF_X6_139 dX6_roomyHouse_4 rfl rfl (by decide) rfl (by decide) rfl ?_
  refine lv_iconst (v := 2) hx hb dX6_roomyHouse_7 (by decide) ?_
  have k_2 : (2 : Int32).toInt = 2 := by decide
  refine lv_icmp_ne (tgt := 37) hx hb dX6_roomyHouse_8 (by decide) (fun c2 => ?_) (fun c2 => ?_)
  · have b2 : ¬ (fI D s.heap 9 tp 3).toInt = (2 : Int32).toInt := fun z9 => c2 (i_eq.mpr z9)
    refine lv_iconst (v := 0) hx hb dX6_roomyHouse_37 (by decide) ?_
    refine lv_istore_n (lv' := [(1, .int (0 : Int32)), (0, .ref a0)]) hx hb dX6_roomyHouse_38 rfl hl (by decide) rfl (fun ls hl => ?_)
    refine lv_iload_n hx hb dX6_roomyHouse_39 rfl (lv_at hl 0 rfl) ?_
    have k_0 : (0 : Int32).toInt = 0 := by decide
    refine lv_if_eq (tgt := 53) hx hb dX6_roomyHouse_40 (by decide) (fun c3 => ?_) (fun c3 => ?_)
    · have b3 : (0 : Int32).toInt = (0 : Int32).toInt := i_eq.mp c3
      refine lv_aload_n hx hb dX6_roomyHouse_53 rfl (lv_at hl 1 rfl) ?_
      refine q_grS (T := TX6) C S.1 ga0 0 kF_X6_15 dX6_roomyHouse_54 rfl rfl (by decide) rfl (by decide) kSF_X6_tape (fun g4 => ?_)
      rw [show fR D s.heap 6 a0 0 = tp from htp]
      refine lv_iconst (v := 0) hx hb dX6_roomyHouse_57 (by decide) ?_
      refine lv_aload_n hx hb dX6_roomyHouse_58 rfl (lv_at hl 1 rfl) ?_
      refine q_grD (T := TX6) C S.1 ga0 2 kF_X6_11 dX6_roomyHouse_59 rfl rfl (by decide) rfl (by decide) rfl (fun g5 => ?_)
      replace g5 : G (fR D s.heap 6 a0 2) = 23 := by rw [S.2.1.fR ga0 rfl (by decide) (by decide +kernel)]; exact hpre
      rw [show fR D s.heap 6 a0 2 = dd from hdd]
      refine q_gi (T := TX5) C S.1 gdd 3 kF_X6_44 dX6_roomyHouse_62 rfl rfl (by decide) rfl (by decide) rfl ?_
      have r6 : 0 ≤ (fI D s.heap 5 dd 3).toInt ∧ (fI D s.heap 5 dd 3).toInt ≤ 6 := S.1.rng gdd rfl (by decide) rfl
      refine lv_iconst (v := 1) hx hb dX6_roomyHouse_65 (by decide) ?_
      have k_1 : (1 : Int32).toInt = 1 := by decide
      refine lv_isub hx hb dX6_roomyHouse_66 ?_
      refine lv_topi (fun v7 ev7 => ?_)
      have f8 : v7.toInt = (fI D s.heap 5 dd 3).toInt - (1 : Int32).toInt := by rw [ev7]; exact i_sub (by omega) (by omega)
      refine callV_Ei C S (c_X9_takeNumber_f l D G tp (0 : Int32) v7 0 (sg 0 - 1) T b gtp (by omega) (by omega) (by omega)) kV_X6_86 gtp (⟨trivial, ts0⟩) (by decide +kernel) dX6_roomyHouse_67 hl.1 rfl rfl (by decide) cd_X9_takeNumber ⟨Nat.le_of_ble_eq_true rfl, Nat.le_of_ble_eq_true rfl, Nat.le_of_ble_eq_true rfl, Nat.le_of_ble_eq_true rfl, Nat.le_of_ble_eq_true rfl⟩ (fun v9 H9 L9 S9 K9 q9 => ?_)
      obtain ⟨q9, fq9⟩ := q9
      have dv9 := dv_keep dv0 S.1 (Or.inr gdd) K9
      have ct9 : (fI D H9 5 dd 3).toInt = sg 0 := by rw [K9.fI gdd rfl (by decide) (by decide +kernel)]; exact ct0
      rcases fq9 with ⟨z9, y9, ts9⟩ | ⟨z9, y9, wr9⟩
      · skip
        exact retE_i hQ C S9 hr dX6_roomyHouse_70 (⟨by omega, Or.inl ⟨y9, fun h7 => (num_r (T := T) (b := b) (lo := 0) (hi := sg 0 - 1) (by decide)).elim (fun h9 => absurd h9 y9) (fun h9 => by rw [h9.2.2.2] at h7; have z8 := ts0.2.1; have z7 := h9.1; omega), by omega, ts9⟩⟩)
      · skip
        exact retE_i hQ C S9 hr dX6_roomyHouse_70 (⟨by omega, Or.inr ⟨Or.inl y9, by omega, wr9⟩⟩)
    · have b3 : ¬ (0 : Int32).toInt = (0 : Int32).toInt := fun z9 => c3 (i_eq.mpr z9)
      exact absurd b3 (by omega)
  · have b2 : (fI D s.heap 9 tp 3).toInt = (2 : Int32).toInt := i_eq.mp c2
    refine lv_aload_n hx hb dX6_roomyHouse_11 rfl (lv_at hl 0 rfl) ?_
    refine q_grD (T := TX6) C S.1 ga0 2 kF_X6_11 dX6_roomyHouse_12 rfl rfl (by decide) rfl (by decide) rfl (fun g10 => ?_)
    replace g10 : G (fR D s.heap 6 a0 2) = 23 := by rw [S.2.1.fR ga0 rfl (by decide) (by decide +kernel)]; exact hpre
    rw [show fR D s.heap 6 a0 2 = dd from hdd]
    refine lv_aload_n hx hb dX6_roomyHouse_15 rfl (lv_at hl 0 rfl) ?_
    refine q_grS (T := TX6) C S.1 ga0 0 kF_X6_15 dX6_roomyHouse_16 rfl rfl (by decide) rfl (by decide) kSF_X6_tape (fun g11 => ?_)
    rw [show fR D s.heap 6 a0 0 = tp from htp]
    refine q_gi (T := TX9) C S.1 gtp 6 kF_X6_142 dX6_roomyHouse_19 rfl rfl (by decide) rfl (by decide) rfl ?_
    refine callV_Pi C S.1 S.2.1.2.1 (c_X5_bitsOf_df l D G dd (fI D s.heap 9 tp 6) sg gdd) kV_X6_145 gdd (dv0) dX6_roomyHouse_22 hl.1 rfl rfl (by decide) cd_X5_bitsOf ⟨Nat.le_of_ble_eq_true rfl, Nat.le_of_ble_eq_true rfl, Nat.le_of_ble_eq_true rfl, Nat.le_of_ble_eq_true rfl, Nat.le_of_ble_eq_true rfl⟩ (fun v12 q12 => ?_)
    have hvl : (fI D s.heap 9 tp 6).toInt = nv T b := ts0.2.2.2.1 (by have := ts0.2.1; omega)
    have hb2 : v12.toInt.toNat = bto sg (nv T b) (sg 1).toNat := by rw [← hvl]; have := q12.2; omega
    refine callS_Pi C S.1 S.2.1.2.1 (c_J6_bitCount_0f7a4 l D G v12) kS_X6_149 (trivial) dX6_roomyHouse_25 hl.1 cd_J6_bitCount_0f7a4 ⟨Nat.le_of_ble_eq_true rfl, Nat.le_of_ble_eq_true rfl, Nat.le_of_ble_eq_true rfl, Nat.le_of_ble_eq_true rfl, Nat.le_of_ble_eq_true rfl⟩ (fun v13 q13 => ?_)
    have hon := q13 (by omega)
    rw [hb2] at hon
    refine lv_bipush (v := 6) hx hb dX6_roomyHouse_28 (by decide) ?_
    have k_6 : (6 : Int32).toInt = 6 := by decide
    refine lv_icmp_lt (tgt := 37) hx hb dX6_roomyHouse_30 (by decide) (fun c14 => ?_) (fun c14 => ?_)
    · have b14 : v13.toInt < (6 : Int32).toInt := i_lt.mp c14
      refine lv_iconst (v := 0) hx hb dX6_roomyHouse_37 (by decide) ?_
      refine lv_istore_n (lv' := [(1, .int (0 : Int32)), (0, .ref a0)]) hx hb dX6_roomyHouse_38 rfl hl (by decide) rfl (fun ls hl => ?_)
      refine lv_iload_n hx hb dX6_roomyHouse_39 rfl (lv_at hl 0 rfl) ?_
      have k_0 : (0 : Int32).toInt = 0 := by decide
      refine lv_if_eq (tgt := 53) hx hb dX6_roomyHouse_40 (by decide) (fun c15 => ?_) (fun c15 => ?_)
      · have b15 : (0 : Int32).toInt = (0 : Int32).toInt := i_eq.mp c15
        refine lv_aload_n hx hb dX6_roomyHouse_53 rfl (lv_at hl 1 rfl) ?_
        refine q_grS (T := TX6) C S.1 ga0 0 kF_X6_15 dX6_roomyHouse_54 rfl rfl (by decide) rfl (by decide) kSF_X6_tape (fun g16 => ?_)
        rw [show fR D s.heap 6 a0 0 = tp from htp]
        refine lv_iconst (v := 0) hx hb dX6_roomyHouse_57 (by decide) ?_
        refine lv_aload_n hx hb dX6_roomyHouse_58 rfl (lv_at hl 1 rfl) ?_
        refine q_grD (T := TX6) C S.1 ga0 2 kF_X6_11 dX6_roomyHouse_59 rfl rfl (by decide) rfl (by decide) rfl (fun g17 => ?_)
        replace g17 : G (fR D s.heap 6 a0 2) = 23 := by rw [S.2.1.fR ga0 rfl (by decide) (by decide +kernel)]; exact hpre
        rw [show fR D s.heap 6 a0 2 = dd from hdd]
        refine q_gi (T := TX5) C S.1 gdd 3 kF_X6_44 dX6_roomyHouse_62 rfl rfl (by decide) rfl (by decide) rfl ?_
        have r18 : 0 ≤ (fI D s.heap 5 dd 3).toInt ∧ (fI D s.heap 5 dd 3).toInt ≤ 6 := S.1.rng gdd rfl (by decide) rfl
        refine lv_iconst (v := 1) hx hb dX6_roomyHouse_65 (by decide) ?_
        have k_1 : (1 : Int32).toInt = 1 := by decide
        refine lv_isub hx hb dX6_roomyHouse_66 ?_
        refine lv_topi (fun v19 ev19 => ?_)
        have f20 : v19.toInt = (fI D s.heap 5 dd 3).toInt - (1 : Int32).toInt := by rw [ev19]; exact i_sub (by omega) (by omega)
        refine callV_Ei C S (c_X9_takeNumber_f l D G tp (0 : Int32) v19 0 (sg 0 - 1) T b gtp (by omega) (by omega) (by omega)) kV_X6_86 gtp (⟨trivial, ts0⟩) (by decide +kernel) dX6_roomyHouse_67 hl.1 rfl rfl (by decide) cd_X9_takeNumber ⟨Nat.le_of_ble_eq_true rfl, Nat.le_of_ble_eq_true rfl, Nat.le_of_ble_eq_true rfl, Nat.le_of_ble_eq_true rfl, Nat.le_of_ble_eq_true rfl⟩ (fun v21 H21 L21 S21 K21 q21 => ?_)
        obtain ⟨q21, fq21⟩ := q21
        have dv21 := dv_keep dv0 S.1 (Or.inr gdd) K21
        have ct21 : (fI D H21 5 dd 3).toInt = sg 0 := by rw [K21.fI gdd rfl (by decide) (by decide +kernel)]; exact ct0
        rcases fq21 with ⟨z21, y21, ts21⟩ | ⟨z21, y21, wr21⟩
        · skip
          exact retE_i hQ C S21 hr dX6_roomyHouse_70 (⟨by omega, Or.inl ⟨y21, fun h7 => (num_r (T := T) (b := b) (lo := 0) (hi := sg 0 - 1) (by decide)).elim (fun h9 => absurd h9 y21) (fun h9 => by rw [h9.2.2.2] at h7; have z8 := ts0.2.1; have z7 := h9.1; omega), by omega, ts21⟩⟩)
        · skip
          exact retE_i hQ C S21 hr dX6_roomyHouse_70 (⟨by omega, Or.inr ⟨Or.inl y21, by omega, wr21⟩⟩)
      · have b15 : ¬ (0 : Int32).toInt = (0 : Int32).toInt := fun z9 => c15 (i_eq.mpr z9)
        exact absurd b15 (by omega)
    · have b14 : ¬ v13.toInt < (6 : Int32).toInt := fun z9 => c14 (i_lt.mpr z9)
      refine lv_iconst (v := 1) hx hb dX6_roomyHouse_33 (by decide) ?_
      refine lv_goto (tgt := 38) hx hb dX6_roomyHouse_34 (by decide) ?_
      refine lv_istore_n (lv' := [(1, .int (1 : Int32)), (0, .ref a0)]) hx hb dX6_roomyHouse_38 rfl hl (by decide) rfl (fun ls hl => ?_)
      refine lv_iload_n hx hb dX6_roomyHouse_39 rfl (lv_at hl 0 rfl) ?_
      have k_1 : (1 : Int32).toInt = 1 := by decide
      have k_0 : (0 : Int32).toInt = 0 := by decide
      refine lv_if_eq (tgt := 53) hx hb dX6_roomyHouse_40 (by decide) (fun c22 => ?_) (fun c22 => ?_)
      · have b22 : (1 : Int32).toInt = (0 : Int32).toInt := i_eq.mp c22
        exact absurd b22 (by omega)
      · have b22 : ¬ (1 : Int32).toInt = (0 : Int32).toInt := fun z9 => c22 (i_eq.mpr z9)
        refine lv_aload_n hx hb dX6_roomyHouse_43 rfl (lv_at hl 1 rfl) ?_
        refine q_grS (T := TX6) C S.1 ga0 0 kF_X6_15 dX6_roomyHouse_44 rfl rfl (by decide) rfl (by decide) kSF_X6_tape (fun g23 => ?_)
        rw [show fR D s.heap 6 a0 0 = tp from htp]
        refine callV_Ei C S (c_X9_refuse_f l D G tp T b gtp) kV_X6_50 gtp (⟨trivial, ts0⟩) (by decide +kernel) dX6_roomyHouse_47 hl.1 rfl rfl (by decide) cd_X9_refuse ⟨Nat.le_of_ble_eq_true rfl, Nat.le_of_ble_eq_true rfl, Nat.le_of_ble_eq_true rfl, Nat.le_of_ble_eq_true rfl, Nat.le_of_ble_eq_true rfl⟩ (fun v24 H24 L24 S24 K24 q24 => ?_)
        obtain ⟨q24, fq24⟩ := q24
        have dv24 := dv_keep dv0 S.1 (Or.inr gdd) K24
        have ct24 : (fI D H24 5 dd 3).toInt = sg 0 := by rw [K24.fI gdd rfl (by decide) (by decide +kernel)]; exact ct0
        have z24 := fq24.1
        refine lv_pop hx hb dX6_roomyHouse_50 rfl ?_
        refine lv_iconst (v := -1) hx hb dX6_roomyHouse_51 (by decide) ?_
        have k_m1 : (-1 : Int32).toInt = -1 := by decide
        exact retE_i hQ C S24 hr dX6_roomyHouse_52 (⟨by omega, Or.inr ⟨(num_r (T := T) (b := b) (lo := 0) (hi := sg 0 - 1) (by decide)).elim Or.inl (fun h9 => Or.inr (by rw [h9.2.2.2]; omega)), by omega, fq24.2⟩⟩)

set_option maxRecDepth 100000 in
set_option maxHeartbeats 4000000 in
theorem c_X6_readHouse_f (l : Launch) (D : DD) (G : Nat → Nat) (a0 : Nat) (dd : Nat) (sg : Sg) (tp : Nat) (T : Tx) (b : Nat) (ga0 : G a0 = 20) (hw0 : isW T b w_house = true) : CE l D G yX6_readHouse cX6_readHouse 2 (some .boolean) 7 [.ref a0] (fun H => (G (fR D H 6 a0 2) = 23) ∧ (fR D H 6 a0 0 = tp ∧ TS D H tp T b ∧ fR D H 6 a0 2 = dd ∧ DS D H dd ∧ SV (pv D H dd) sg)) [(2, 3), (2, 4), (2, 5), (2, 6), (2, 2), (7, 0), (7, 1), (7, 2), (7, 3), (7, 4), (23, 3)] (xI (fun H r H1 => ((0 ≤ r.toInt ∧ r.toInt ≤ 1) ∧ (r.toInt = 1 → Gd D G H → Gd D G H1)) ∧ (RsP D H1 tp dd T (houF T sg b) r) ∧ (FH D G H H1 dd))) := by
  refine enter (by decide) (Nat.le_of_ble_eq_true rfl) ?_
  intro p e s m args below meth c ls Q hA hQ C hr hO hpre hl
  have hx := C.1
  have hb := C.2.1
  have S : Sd D G [(2, 3), (2, 4), (2, 5), (2, 6), (2, 2), (7, 0), (7, 1), (7, 2), (7, 3), (7, 4), (23, 3)] s.heap s.heap [] := Sd.start hO
  have hl : lv_has ls 2 [(0, .ref a0)] := hl
  obtain ⟨hpre, hf⟩ := hpre
  obtain ⟨htp, ts0, hdd, ds0, dv0⟩ := hf
  have gtp : G tp = 2 := by rw [← htp]; exact hO.rol ga0 rfl (by decide) rfl
  have gdd : G dd = 23 := by rw [← hdd]; exact hpre
  have hT : T.2 ≤ 400 := ts0.le hO gtp
  have ct0 : (fI D s.heap 5 dd 3).toInt = sg 0 := dv_0 dv0
  have tk0 : Gd D G s.heap → Gd D G s.heap := fun h => h
  refine lv_aload_n hx hb dX6_readHouse_0 rfl (lv_at hl 0 rfl) ?_
  refine q_grD (T := TX6) C S.1 ga0 2 kF_X6_11 dX6_readHouse_1 rfl rfl (by decide) rfl (by decide) rfl (fun g1 => ?_)
  replace g1 : G (fR D s.heap 6 a0 2) = 23 := by rw [S.2.1.fR ga0 rfl (by decide) (by decide +kernel)]; exact hpre
  rw [show fR D s.heap 6 a0 2 = dd from hdd]
  refine q_gi (T := TX5) C S.1 gdd 3 kF_X6_44 dX6_readHouse_4 rfl rfl (by decide) rfl (by decide) rfl ?_
  have r2 : 0 ≤ (fI D s.heap 5 dd 3).toInt ∧ (fI D s.heap 5 dd 3).toInt ≤ 6 := S.1.rng gdd rfl (by decide) rfl
  refine lv_bipush (v := 6) hx hb dX6_readHouse_7 (by decide) ?_
  have k_6 : (6 : Int32).toInt = 6 := by decide
  refine lv_icmp_lt (tgt := 20) hx hb dX6_readHouse_9 (by decide) (fun c3 => ?_) (fun c3 => ?_)
  · have b3 : (fI D s.heap 5 dd 3).toInt < (6 : Int32).toInt := i_lt.mp c3
    have hc4 : ¬ sg 0 = 6 := by omega
    refine lv_aload_n hx hb dX6_readHouse_20 rfl (lv_at hl 0 rfl) ?_
    refine q_grD (T := TX6) C S.1 ga0 2 kF_X6_11 dX6_readHouse_21 rfl rfl (by decide) rfl (by decide) rfl (fun g5 => ?_)
    replace g5 : G (fR D s.heap 6 a0 2) = 23 := by rw [S.2.1.fR ga0 rfl (by decide) (by decide +kernel)]; exact hpre
    rw [show fR D s.heap 6 a0 2 = dd from hdd]
    refine q_gr (T := TX5) C S.1 gdd 0 kF_X6_53 dX6_readHouse_24 rfl rfl (by decide) rfl (by decide) rfl (fun g6 => ?_)
    refine lv_aload_n hx hb dX6_readHouse_27 rfl (lv_at hl 0 rfl) ?_
    refine q_grD (T := TX6) C S.1 ga0 2 kF_X6_11 dX6_readHouse_28 rfl rfl (by decide) rfl (by decide) rfl (fun g7 => ?_)
    replace g7 : G (fR D s.heap 6 a0 2) = 23 := by rw [S.2.1.fR ga0 rfl (by decide) (by decide +kernel)]; exact hpre
    rw [show fR D s.heap 6 a0 2 = dd from hdd]
    refine q_gi (T := TX5) C S.1 gdd 3 kF_X6_44 dX6_readHouse_31 rfl rfl (by decide) rfl (by decide) rfl ?_
    refine q_aald C S.1 g6 (by omega) (by omega) dX6_readHouse_34 rfl (by decide) rfl rfl (fun g8 => ?_)
    have bhs : ∀ q, G q = 7 → q ≠ (eR s.heap (fR D s.heap 5 dd 0) (fI D s.heap 5 dd 3).toInt.toNat) → fI D s.heap 2 q 4 = fI D s.heap 2 q 4 := fun _ _ _ => rfl
    refine lv_astore_n (lv' := [(1, .ref (eR s.heap (fR D s.heap 5 dd 0) (fI D s.heap 5 dd 3).toInt.toNat)), (0, .ref a0)]) hx hb dX6_readHouse_35 rfl hl (by decide) rfl (fun ls hl => ?_)
    refine lv_aload_n hx hb dX6_readHouse_36 rfl (lv_at hl 0 rfl) ?_
    refine lv_aload_n hx hb dX6_readHouse_37 rfl (lv_at hl 1 rfl) ?_
    refine q_lds C ks_X6_19 dX6_readHouse_38 (fun a9 ha9 wa9 => ?_)
    refine lv_iconst (v := 0) hx hb dX6_readHouse_40 (by decide) ?_
    refine lv_sipush (v := 999) hx hb dX6_readHouse_41 (by decide) ?_
    have k_0 : (0 : Int32).toInt = 0 := by decide
    have k_999 : (999 : Int32).toInt = 999 := by decide
    refine callV_Ei C S (c_X6_numberAfter_f l D G a0 a9 5 (0 : Int32) (999 : Int32) w_house 0 999 tp T b ga0 ha9 (by omega) (Wc.of wa9 kw_house) (by omega) (by omega)) kV_X6_57 ga0 (⟨trivial, ⟨htp, ts0⟩⟩) (by decide +kernel) dX6_readHouse_44 hl.1 rfl rfl (by decide) cd_X6_numberAfter ⟨Nat.le_of_ble_eq_true rfl, Nat.le_of_ble_eq_true rfl, Nat.le_of_ble_eq_true rfl, Nat.le_of_ble_eq_true rfl, Nat.le_of_ble_eq_true rfl⟩ (fun v10 H10 L10 S10 K10 q10 => ?_)
    obtain ⟨q10, fq10⟩ := q10
    have tk10 : Gd D G s.heap → Gd D G H10 := fun h9  => (tk0 h9).keep K10 (by decide +kernel)
    have dv10 := dv_keep dv0 S.1 (Or.inr gdd) K10
    have ct10 : (fI D H10 5 dd 3).toInt = sg 0 := by rw [K10.fI gdd rfl (by decide) (by decide +kernel)]; exact ct0
    have bh10 : ∀ q, G q = 7 → q ≠ (eR s.heap (fR D s.heap 5 dd 0) (fI D s.heap 5 dd 3).toInt.toNat) → fI D H10 2 q 4 = fI D s.heap 2 q 4 := fun q hq hn => (K10.fI hq rfl (by decide) (by decide +kernel)).trans (bhs q hq hn)
    rcases fq10 with ⟨w10, y10, z10, ts10⟩ | ⟨w10, y10, z10, wr10⟩ | ⟨w10, z10, wr10⟩
    · have u10 : 0 ≤ v10.toInt ∧ v10.toInt ≤ 999 := by have z9 := num_r (T := T) (b := nx T b) (lo := 0) (hi := 999) (by decide); omega
      refine q_put (T := TX2) C S10 g8 0 kF_X6_61 dX6_readHouse_47 rfl rfl (by decide) (by decide) rfl rfl rfl rfl rfl (vok_a rfl) (by decide +kernel) (fun H11 L11 S11 P11 => ?_)
      have tk11 : Gd D G s.heap → Gd D G H11 := fun h9  => (tk10 h9).put g8 P11 (Or.inl (by decide))
      have ts11 := ts10.cells S10.1 gtp g8 (by decide) (by decide) P11.2.2.1
      have dv11 := dv_keep dv10 S10.1 (Or.inr gdd) (Pt.keep g8 rfl (by decide) P11)
      have ct11 : (fI D H11 5 dd 3).toInt = sg 0 := by rw [Pt.f P11 (ne_role gdd g8 (by decide))]; exact ct10
      have bh11 : ∀ q, G q = 7 → q ≠ (eR s.heap (fR D s.heap 5 dd 0) (fI D s.heap 5 dd 3).toInt.toNat) → fI D H11 2 q 4 = fI D s.heap 2 q 4 := fun q hq hn => (Pt.any P11 (by decide) (by decide) q).trans (bh10 q hq hn)
      refine lv_aload_n hx hb dX6_readHouse_50 rfl (lv_at hl 0 rfl) ?_
      refine q_gi (T := TX2) C S11.1 g8 0 kF_X6_61 dX6_readHouse_51 rfl rfl (by decide) rfl (by decide) rfl ?_
      have c12 : (fI D H11 2 (eR s.heap (fR D s.heap 5 dd 0) (fI D s.heap 5 dd 3).toInt.toNat) 0).toInt = v10.toInt := by rw [Pt.i P11]
      refine lv_iconst (v := -1) hx hb dX6_readHouse_54 (by decide) ?_
      have k_m1 : (-1 : Int32).toInt = -1 := by decide
      refine lv_icmp_ne (tgt := 60) hx hb dX6_readHouse_55 (by decide) (fun c13 => ?_) (fun c13 => ?_)
      · have b13 : ¬ (fI D H11 2 (eR s.heap (fR D s.heap 5 dd 0) (fI D s.heap 5 dd 3).toInt.toNat) 0).toInt = (-1 : Int32).toInt := fun z9 => c13 (i_eq.mpr z9)
        refine lv_aload_n hx hb dX6_readHouse_60 rfl (lv_at hl 0 rfl) ?_
        refine lv_aload_n hx hb dX6_readHouse_61 rfl (lv_at hl 1 rfl) ?_
        refine q_lds C ks_X6_66 dX6_readHouse_62 (fun a14 ha14 wa14 => ?_)
        refine lv_iconst (v := 0) hx hb dX6_readHouse_64 (by decide) ?_
        refine lv_bipush (v := 30) hx hb dX6_readHouse_65 (by decide) ?_
        have k_30 : (30 : Int32).toInt = 30 := by decide
        refine callV_Ei C S11 (c_X6_numberAfter_f l D G a0 a14 7 (0 : Int32) (30 : Int32) w_windows 0 30 tp T (nx T (nx T b)) ga0 ha14 (by omega) (Wc.of wa14 kw_windows) (by omega) (by omega)) kV_X6_57 ga0 (⟨trivial, ⟨(S11.2.1.fR ga0 rfl (by decide) (by decide +kernel)).trans htp, ts11⟩⟩) (by decide +kernel) dX6_readHouse_67 hl.1 rfl rfl (by decide) cd_X6_numberAfter ⟨Nat.le_of_ble_eq_true rfl, Nat.le_of_ble_eq_true rfl, Nat.le_of_ble_eq_true rfl, Nat.le_of_ble_eq_true rfl, Nat.le_of_ble_eq_true rfl⟩ (fun v15 H15 L15 S15 K15 q15 => ?_)
        obtain ⟨q15, fq15⟩ := q15
        have tk15 : Gd D G s.heap → Gd D G H15 := fun h9  => (tk11 h9).keep K15 (by decide +kernel)
        have dv15 := dv_keep dv11 S11.1 (Or.inr gdd) K15
        have ct15 : (fI D H15 5 dd 3).toInt = sg 0 := by rw [K15.fI gdd rfl (by decide) (by decide +kernel)]; exact ct11
        have bh15 : ∀ q, G q = 7 → q ≠ (eR s.heap (fR D s.heap 5 dd 0) (fI D s.heap 5 dd 3).toInt.toNat) → fI D H15 2 q 4 = fI D s.heap 2 q 4 := fun q hq hn => (K15.fI hq rfl (by decide) (by decide +kernel)).trans (bh11 q hq hn)
        rcases fq15 with ⟨w15, y15, z15, ts15⟩ | ⟨w15, y15, z15, wr15⟩ | ⟨w15, z15, wr15⟩
        · have u15 : 0 ≤ v15.toInt ∧ v15.toInt ≤ 30 := by have z9 := num_r (T := T) (b := nx T (nx T (nx T b))) (lo := 0) (hi := 30) (by decide); omega
          refine q_put (T := TX2) C S15 g8 2 kF_X6_68 dX6_readHouse_70 rfl rfl (by decide) (by decide) rfl rfl rfl rfl rfl (vok_a rfl) (by decide +kernel) (fun H16 L16 S16 P16 => ?_)
          have tk16 : Gd D G s.heap → Gd D G H16 := fun h9  => (tk15 h9).put g8 P16 (Or.inl (by decide))
          have ts16 := ts15.cells S15.1 gtp g8 (by decide) (by decide) P16.2.2.1
          have dv16 := dv_keep dv15 S15.1 (Or.inr gdd) (Pt.keep g8 rfl (by decide) P16)
          have ct16 : (fI D H16 5 dd 3).toInt = sg 0 := by rw [Pt.f P16 (ne_role gdd g8 (by decide))]; exact ct15
          have bh16 : ∀ q, G q = 7 → q ≠ (eR s.heap (fR D s.heap 5 dd 0) (fI D s.heap 5 dd 3).toInt.toNat) → fI D H16 2 q 4 = fI D s.heap 2 q 4 := fun q hq hn => (Pt.any P16 (by decide) (by decide) q).trans (bh15 q hq hn)
          refine lv_aload_n hx hb dX6_readHouse_73 rfl (lv_at hl 0 rfl) ?_
          refine q_gi (T := TX2) C S16.1 g8 2 kF_X6_68 dX6_readHouse_74 rfl rfl (by decide) rfl (by decide) rfl ?_
          have c17 : (fI D H16 2 (eR s.heap (fR D s.heap 5 dd 0) (fI D s.heap 5 dd 3).toInt.toNat) 2).toInt = v15.toInt := by rw [Pt.i P16]
          refine lv_iconst (v := -1) hx hb dX6_readHouse_77 (by decide) ?_
          refine lv_icmp_ne (tgt := 83) hx hb dX6_readHouse_78 (by decide) (fun c18 => ?_) (fun c18 => ?_)
          · have b18 : ¬ (fI D H16 2 (eR s.heap (fR D s.heap 5 dd 0) (fI D s.heap 5 dd 3).toInt.toNat) 2).toInt = (-1 : Int32).toInt := fun z9 => c18 (i_eq.mpr z9)
            refine lv_aload_n hx hb dX6_readHouse_83 rfl (lv_at hl 0 rfl) ?_
            refine lv_iconst (v := 0) hx hb dX6_readHouse_84 (by decide) ?_
            refine q_put (T := TX2) C S16 g8 3 kF_X6_70 dX6_readHouse_85 rfl rfl (by decide) (by decide) rfl rfl rfl rfl rfl (vok_a rfl) (by decide +kernel) (fun H19 L19 S19 P19 => ?_)
            have tk19 : Gd D G s.heap → Gd D G H19 := fun h9  => (tk16 h9).put g8 P19 (Or.inl (by decide))
            have ts19 := ts16.cells S16.1 gtp g8 (by decide) (by decide) P19.2.2.1
            have dv19 := dv_keep dv16 S16.1 (Or.inr gdd) (Pt.keep g8 rfl (by decide) P19)
            have ct19 : (fI D H19 5 dd 3).toInt = sg 0 := by rw [Pt.f P19 (ne_role gdd g8 (by decide))]; exact ct16
            have bh19 : ∀ q, G q = 7 → q ≠ (eR s.heap (fR D s.heap 5 dd 0) (fI D s.heap 5 dd 3).toInt.toNat) → fI D H19 2 q 4 = fI D s.heap 2 q 4 := fun q hq hn => (Pt.any P19 (by decide) (by decide) q).trans (bh16 q hq hn)
            refine lv_aload_n hx hb dX6_readHouse_88 rfl (lv_at hl 0 rfl) ?_
            refine lv_iconst (v := 0) hx hb dX6_readHouse_89 (by decide) ?_
            refine q_put (T := TX2) C S19 g8 4 kF_X6_73 dX6_readHouse_90 rfl rfl (by decide) (by decide) rfl rfl rfl rfl rfl (vok_a rfl) (by decide +kernel) (fun H20 L20 S20 P20 => ?_)
            have tk20 : Gd D G s.heap → Gd D G H20 := fun h9  => (tk19 h9).put g8 P20 (Or.inl (by decide))
            have ts20 := ts19.cells S19.1 gtp g8 (by decide) (by decide) P20.2.2.1
            have ct20 : (fI D H20 5 dd 3).toInt = sg 0 := by rw [Pt.f P20 (ne_role gdd g8 (by decide))]; exact ct19
            have bh20 : ∀ q, G q = 7 → q ≠ (eR s.heap (fR D s.heap 5 dd 0) (fI D s.heap 5 dd 3).toInt.toNat) → fI D H20 2 q 4 = fI D s.heap 2 q 4 := fun q hq hn => (Pt.f P20 hn).trans (bh19 q hq hn)
            have bv20 : fI D H20 2 (eR s.heap (fR D s.heap 5 dd 0) (fI D s.heap 5 dd 3).toInt.toNat) 4 = (0 : Int32) := Pt.i P20
            refine lv_aload_n hx hb dX6_readHouse_93 rfl (lv_at hl 0 rfl) ?_
            refine lv_aload_n hx hb dX6_readHouse_94 rfl (lv_at hl 1 rfl) ?_
            refine q_grS (T := TX6) C S20.1 ga0 0 kF_X6_15 dX6_readHouse_95 rfl rfl (by decide) rfl (by decide) kSF_X6_tape (fun g21 => ?_)
            rw [show fR D H20 6 a0 0 = tp from (S20.2.1.fR ga0 rfl (by decide) (by decide +kernel)).trans htp]
            refine q_lds C ks_X6_76 dX6_readHouse_98 (fun a22 ha22 wa22 => ?_)
            refine callV_Pi C S20.1 S20.2.1.2.1 (c_X9_isWord_f l D G tp a22 5 w_paper T (nx T (nx T (nx T (nx T b)))) gtp ha22 (Wc.of wa22 kw_paper)) kV_X6_21 gtp (⟨trivial, ts20⟩) dX6_readHouse_100 hl.1 rfl rfl (by decide) cd_X9_isWord ⟨Nat.le_of_ble_eq_true rfl, Nat.le_of_ble_eq_true rfl, Nat.le_of_ble_eq_true rfl, Nat.le_of_ble_eq_true rfl, Nat.le_of_ble_eq_true rfl⟩ (fun v23 q23 => ?_)
            obtain ⟨q23, fq23⟩ := q23
            rcases fq23 with ⟨z23, y23⟩ | ⟨z23, y23⟩
            · skip
              refine q_put (T := TX2) C S20 g8 1 kF_X6_78 dX6_readHouse_103 rfl rfl (by decide) (by decide) rfl rfl rfl (nar_z (by omega) (by omega)) (fit_z (by omega) (by omega)) (vok_i rfl (by omega) (by omega)) (by decide +kernel) (fun H24 L24 S24 P24 => ?_)
              have tk24 : Gd D G s.heap → Gd D G H24 := fun h9  => (tk20 h9).put g8 P24 (Or.inl (by decide))
              have ts24 := ts20.cells S20.1 gtp g8 (by decide) (by decide) P24.2.2.1
              have ct24 : (fI D H24 5 dd 3).toInt = sg 0 := by rw [Pt.f P24 (ne_role gdd g8 (by decide))]; exact ct20
              have bh24 : ∀ q, G q = 7 → q ≠ (eR s.heap (fR D s.heap 5 dd 0) (fI D s.heap 5 dd 3).toInt.toNat) → fI D H24 2 q 4 = fI D s.heap 2 q 4 := fun q hq hn => (Pt.any P24 (by decide) (by decide) q).trans (bh20 q hq hn)
              have bv24 : fI D H24 2 (eR s.heap (fR D s.heap 5 dd 0) (fI D s.heap 5 dd 3).toInt.toNat) 4 = (0 : Int32) := (Pt.any P24 (by decide) (by decide) _).trans bv20
              refine lv_aload_n hx hb dX6_readHouse_106 rfl (lv_at hl 0 rfl) ?_
              refine q_gi (T := TX2) C S24.1 g8 1 kF_X6_78 dX6_readHouse_107 rfl rfl (by decide) rfl (by decide) rfl ?_
              have c25 : (fI D H24 2 (eR s.heap (fR D s.heap 5 dd 0) (fI D s.heap 5 dd 3).toInt.toNat) 1).toInt = v23.toInt := by rw [Pt.i P24]
              have r26 : 0 ≤ (fI D H24 2 (eR s.heap (fR D s.heap 5 dd 0) (fI D s.heap 5 dd 3).toInt.toNat) 1).toInt ∧ (fI D H24 2 (eR s.heap (fR D s.heap 5 dd 0) (fI D s.heap 5 dd 3).toInt.toNat) 1).toInt ≤ 1 := S24.1.rng g8 rfl (by decide) rfl
              refine lv_if_eq (tgt := 120) hx hb dX6_readHouse_110 (by decide) (fun c27 => ?_) (fun c27 => ?_)
              · have b27 : (fI D H24 2 (eR s.heap (fR D s.heap 5 dd 0) (fI D s.heap 5 dd 3).toInt.toNat) 1).toInt = (0 : Int32).toInt := i_eq.mp c27
                exact absurd b27 (by omega)
              · have b27 : ¬ (fI D H24 2 (eR s.heap (fR D s.heap 5 dd 0) (fI D s.heap 5 dd 3).toInt.toNat) 1).toInt = (0 : Int32).toInt := fun z9 => c27 (i_eq.mpr z9)
                refine lv_aload_n hx hb dX6_readHouse_113 rfl (lv_at hl 1 rfl) ?_
                refine q_grS (T := TX6) C S24.1 ga0 0 kF_X6_15 dX6_readHouse_114 rfl rfl (by decide) rfl (by decide) kSF_X6_tape (fun g28 => ?_)
                rw [show fR D H24 6 a0 0 = tp from (S24.2.1.fR ga0 rfl (by decide) (by decide +kernel)).trans htp]
                refine callV_Ev C S24 (c_X9_next_f l D G tp T (nx T (nx T (nx T (nx T b)))) gtp) kV_X6_81 gtp (⟨trivial, ts24⟩) (by decide +kernel) dX6_readHouse_117 hl.1 rfl rfl (by decide) cd_X9_next ⟨Nat.le_of_ble_eq_true rfl, Nat.le_of_ble_eq_true rfl, Nat.le_of_ble_eq_true rfl, Nat.le_of_ble_eq_true rfl, Nat.le_of_ble_eq_true rfl⟩ (fun H29 L29 S29 K29 q29 => ?_)
                obtain ⟨q29, fq29⟩ := q29
                have tk29 : Gd D G s.heap → Gd D G H29 := fun h9  => (tk24 h9).keep K29 (by decide +kernel)
                have ct29 : (fI D H29 5 dd 3).toInt = sg 0 := by rw [K29.fI gdd rfl (by decide) (by decide +kernel)]; exact ct24
                have bh29 : ∀ q, G q = 7 → q ≠ (eR s.heap (fR D s.heap 5 dd 0) (fI D s.heap 5 dd 3).toInt.toNat) → fI D H29 2 q 4 = fI D s.heap 2 q 4 := fun q hq hn => (K29.fI hq rfl (by decide) (by decide +kernel)).trans (bh24 q hq hn)
                have bv29 : fI D H29 2 (eR s.heap (fR D s.heap 5 dd 0) (fI D s.heap 5 dd 3).toInt.toNat) 4 = (0 : Int32) := (K29.fI g8 rfl (by decide) (by decide +kernel)).trans bv24
                refine lv_aload_n hx hb dX6_readHouse_120 rfl (lv_at hl 1 rfl) ?_
                refine q_grS (T := TX6) C S29.1 ga0 0 kF_X6_15 dX6_readHouse_121 rfl rfl (by decide) rfl (by decide) kSF_X6_tape (fun g30 => ?_)
                rw [show fR D H29 6 a0 0 = tp from (S29.2.1.fR ga0 rfl (by decide) (by decide +kernel)).trans htp]
                refine q_lds C ks_X6_85 dX6_readHouse_124 (fun a31 ha31 wa31 => ?_)
                refine callV_Pi C S29.1 S29.2.1.2.1 (c_X9_isWord_f l D G tp a31 5 w_tells T (nx T (nx T (nx T (nx T (nx T b))))) gtp ha31 (Wc.of wa31 kw_tells)) kV_X6_21 gtp (⟨trivial, fq29⟩) dX6_readHouse_126 hl.1 rfl rfl (by decide) cd_X9_isWord ⟨Nat.le_of_ble_eq_true rfl, Nat.le_of_ble_eq_true rfl, Nat.le_of_ble_eq_true rfl, Nat.le_of_ble_eq_true rfl, Nat.le_of_ble_eq_true rfl⟩ (fun v32 q32 => ?_)
                obtain ⟨q32, fq32⟩ := q32
                rcases fq32 with ⟨z32, y32⟩ | ⟨z32, y32⟩
                · skip
                  refine lv_if_eq (tgt := 155) hx hb dX6_readHouse_129 (by decide) (fun c33 => ?_) (fun c33 => ?_)
                  · have b33 : v32.toInt = (0 : Int32).toInt := i_eq.mp c33
                    exact absurd b33 (by omega)
                  · have b33 : ¬ v32.toInt = (0 : Int32).toInt := fun z9 => c33 (i_eq.mpr z9)
                    refine lv_aload_n hx hb dX6_readHouse_132 rfl (lv_at hl 0 rfl) ?_
                    refine lv_aload_n hx hb dX6_readHouse_133 rfl (lv_at hl 1 rfl) ?_
                    refine q_lds C ks_X6_85 dX6_readHouse_134 (fun a34 ha34 wa34 => ?_)
                    refine lv_iconst (v := 0) hx hb dX6_readHouse_136 (by decide) ?_
                    refine lv_bipush (v := 100) hx hb dX6_readHouse_137 (by decide) ?_
                    have k_100 : (100 : Int32).toInt = 100 := by decide
                    refine callV_Ei C S29 (c_X6_numberAfter_f l D G a0 a34 5 (0 : Int32) (100 : Int32) w_tells 0 100 tp T (nx T (nx T (nx T (nx T (nx T b))))) ga0 ha34 (by omega) (Wc.of wa34 kw_tells) (by omega) (by omega)) kV_X6_57 ga0 (⟨trivial, ⟨(S29.2.1.fR ga0 rfl (by decide) (by decide +kernel)).trans htp, fq29⟩⟩) (by decide +kernel) dX6_readHouse_139 hl.1 rfl rfl (by decide) cd_X6_numberAfter ⟨Nat.le_of_ble_eq_true rfl, Nat.le_of_ble_eq_true rfl, Nat.le_of_ble_eq_true rfl, Nat.le_of_ble_eq_true rfl, Nat.le_of_ble_eq_true rfl⟩ (fun v35 H35 L35 S35 K35 q35 => ?_)
                    obtain ⟨q35, fq35⟩ := q35
                    have tk35 : Gd D G s.heap → Gd D G H35 := fun h9  => (tk29 h9).keep K35 (by decide +kernel)
                    have ct35 : (fI D H35 5 dd 3).toInt = sg 0 := by rw [K35.fI gdd rfl (by decide) (by decide +kernel)]; exact ct29
                    have bh35 : ∀ q, G q = 7 → q ≠ (eR s.heap (fR D s.heap 5 dd 0) (fI D s.heap 5 dd 3).toInt.toNat) → fI D H35 2 q 4 = fI D s.heap 2 q 4 := fun q hq hn => (K35.fI hq rfl (by decide) (by decide +kernel)).trans (bh29 q hq hn)
                    have bv35 : fI D H35 2 (eR s.heap (fR D s.heap 5 dd 0) (fI D s.heap 5 dd 3).toInt.toNat) 4 = (0 : Int32) := (K35.fI g8 rfl (by decide) (by decide +kernel)).trans bv29
                    rcases fq35 with ⟨w35, y35, z35, ts35⟩ | ⟨w35, y35, z35, wr35⟩ | ⟨w35, z35, wr35⟩
                    · have u35 : 0 ≤ v35.toInt ∧ v35.toInt ≤ 100 := by have z9 := num_r (T := T) (b := nx T (nx T (nx T (nx T (nx T (nx T b)))))) (lo := 0) (hi := 100) (by decide); omega
                      refine q_put (T := TX2) C S35 g8 4 kF_X6_73 dX6_readHouse_142 rfl rfl (by decide) (by decide) rfl rfl rfl rfl rfl (vok_a rfl) (by decide +kernel) (fun H36 L36 S36 P36 => ?_)
                      have tk36 : Gd D G s.heap → Gd D G H36 := fun h9  => (tk35 h9).put g8 P36 (Or.inl (by decide))
                      have ts36 := ts35.cells S35.1 gtp g8 (by decide) (by decide) P36.2.2.1
                      have ct36 : (fI D H36 5 dd 3).toInt = sg 0 := by rw [Pt.f P36 (ne_role gdd g8 (by decide))]; exact ct35
                      have bh36 : ∀ q, G q = 7 → q ≠ (eR s.heap (fR D s.heap 5 dd 0) (fI D s.heap 5 dd 3).toInt.toNat) → fI D H36 2 q 4 = fI D s.heap 2 q 4 := fun q hq hn => (Pt.f P36 hn).trans (bh35 q hq hn)
                      have bv36 : fI D H36 2 (eR s.heap (fR D s.heap 5 dd 0) (fI D s.heap 5 dd 3).toInt.toNat) 4 = v35 := Pt.i P36
                      refine lv_aload_n hx hb dX6_readHouse_145 rfl (lv_at hl 0 rfl) ?_
                      refine q_gi (T := TX2) C S36.1 g8 4 kF_X6_73 dX6_readHouse_146 rfl rfl (by decide) rfl (by decide) rfl ?_
                      have c37 : (fI D H36 2 (eR s.heap (fR D s.heap 5 dd 0) (fI D s.heap 5 dd 3).toInt.toNat) 4).toInt = v35.toInt := by rw [Pt.i P36]
                      refine lv_iconst (v := -1) hx hb dX6_readHouse_149 (by decide) ?_
                      refine lv_icmp_ne (tgt := 155) hx hb dX6_readHouse_150 (by decide) (fun c38 => ?_) (fun c38 => ?_)
                      · have b38 : ¬ (fI D H36 2 (eR s.heap (fR D s.heap 5 dd 0) (fI D s.heap 5 dd 3).toInt.toNat) 4).toInt = (-1 : Int32).toInt := fun z9 => c38 (i_eq.mpr z9)
                        refine lv_aload_n hx hb dX6_readHouse_155 rfl (lv_at hl 1 rfl) ?_
                        refine q_grD (T := TX6) C S36.1 ga0 2 kF_X6_11 dX6_readHouse_156 rfl rfl (by decide) rfl (by decide) rfl (fun g39 => ?_)
                        replace g39 : G (fR D H36 6 a0 2) = 23 := by rw [S36.2.1.fR ga0 rfl (by decide) (by decide +kernel)]; exact hpre
                        rw [show fR D H36 6 a0 2 = dd from (S36.2.1.fR ga0 rfl (by decide) (by decide +kernel)).trans hdd]
                        refine lv_dup hx hb dX6_readHouse_159 rfl ?_
                        refine q_gi (T := TX5) C S36.1 gdd 3 kF_X6_44 dX6_readHouse_160 rfl rfl (by decide) rfl (by decide) rfl ?_
                        have c40 : (fI D H36 5 dd 3).toInt = (fI D s.heap 5 dd 3).toInt := by rw [Pt.f P36 (ne_role gdd g8 (by decide)), K35.fI gdd rfl (by decide) (by decide +kernel), K29.fI gdd rfl (by decide) (by decide +kernel), Pt.f P24 (ne_role gdd g8 (by decide)), Pt.f P20 (ne_role gdd g8 (by decide)), Pt.f P19 (ne_role gdd g8 (by decide)), Pt.f P16 (ne_role gdd g8 (by decide)), K15.fI gdd rfl (by decide) (by decide +kernel), Pt.f P11 (ne_role gdd g8 (by decide)), K10.fI gdd rfl (by decide) (by decide +kernel)]
                        have r41 : 0 ≤ (fI D H36 5 dd 3).toInt ∧ (fI D H36 5 dd 3).toInt ≤ 6 := S36.1.rng gdd rfl (by decide) rfl
                        refine lv_iconst (v := 1) hx hb dX6_readHouse_163 (by decide) ?_
                        have k_1 : (1 : Int32).toInt = 1 := by decide
                        refine lv_iadd hx hb dX6_readHouse_164 ?_
                        refine lv_topi (fun v42 ev42 => ?_)
                        have f43 : v42.toInt = (fI D H36 5 dd 3).toInt + (1 : Int32).toInt := by rw [ev42]; exact i_add (by omega) (by omega)
                        refine q_put (T := TX5) C S36 gdd 3 kF_X6_44 dX6_readHouse_165 rfl rfl (by decide) (by decide) rfl rfl rfl rfl rfl (vok_i rfl (by omega) (by omega)) (by decide +kernel) (fun H44 L44 S44 P44 => ?_)
                        have tk44 : Gd D G s.heap → Gd D G H44 := fun h9  => (tk36 h9).put gdd P44 (Or.inl (by decide))
                        have ts44 := ts36.cells S36.1 gtp gdd (by decide) (by decide) P44.2.2.1
                        have bh44 : ∀ q, G q = 7 → q ≠ (eR s.heap (fR D s.heap 5 dd 0) (fI D s.heap 5 dd 3).toInt.toNat) → fI D H44 2 q 4 = fI D s.heap 2 q 4 := fun q hq hn => (Pt.f P44 (ne_role hq gdd (by decide))).trans (bh36 q hq hn)
                        have bv44 : fI D H44 2 (eR s.heap (fR D s.heap 5 dd 0) (fI D s.heap 5 dd 3).toInt.toNat) 4 = v35 := (Pt.f P44 (ne_role g8 gdd (by decide))).trans bv36
                        refine lv_iconst (v := 1) hx hb dX6_readHouse_168 (by decide) ?_
                        exact retE_z hQ C S44 hr dX6_readHouse_169 (z01 (by omega) (by omega)) (⟨⟨by omega, fun _ h9 => tk44 h9⟩, RsP.ok (s1 := hup sg (num T (nx T (nx T (nx T (nx T (nx T (nx T b)))))) 0 100)) (by simp [houF, houW, houP, houT, hc4, w10, y10, w15, y15, y23, y32, w35, y35]) (by omega) ts44 (DV.house (v := num T (nx T (nx T (nx T (nx T (nx T (nx T b)))))) 0 100) dv0 hO gdd ds0 S44.2.1 (by rw [Pt.i P44]; omega) bh44 (by rw [bv44]; first | omega | decide) (by unfold hoA; rw [show (sg 0).toNat = (fI D s.heap 5 dd 3).toInt.toNat by omega]) ⟨by omega, by omega⟩), fun q hq hm => bh44 q hq (by have z9 := hm (sg 0).toNat (by omega); unfold hoA at z9; rw [show (sg 0).toNat = (fI D s.heap 5 dd 3).toInt.toNat by omega] at z9; exact z9)⟩)
                      · have b38 : (fI D H36 2 (eR s.heap (fR D s.heap 5 dd 0) (fI D s.heap 5 dd 3).toInt.toNat) 4).toInt = (-1 : Int32).toInt := i_eq.mp c38
                        exact absurd b38 (by omega)
                    · skip
                      refine q_put (T := TX2) C S35 g8 4 kF_X6_73 dX6_readHouse_142 rfl rfl (by decide) (by decide) rfl rfl rfl rfl rfl (vok_a rfl) (by decide +kernel) (fun H45 L45 S45 P45 => ?_)
                      have tk45 : Gd D G s.heap → Gd D G H45 := fun h9  => (tk35 h9).put g8 P45 (Or.inl (by decide))
                      have wr45 : (fI D H45 9 tp 2).toInt = (((nx T (nx T (nx T (nx T (nx T (nx T b)))))) : Nat) : Int) := by rw [Pt.f P45 (ne_role gtp g8 (by decide))]; exact wr35
                      have ct45 : (fI D H45 5 dd 3).toInt = sg 0 := by rw [Pt.f P45 (ne_role gdd g8 (by decide))]; exact ct35
                      have bh45 : ∀ q, G q = 7 → q ≠ (eR s.heap (fR D s.heap 5 dd 0) (fI D s.heap 5 dd 3).toInt.toNat) → fI D H45 2 q 4 = fI D s.heap 2 q 4 := fun q hq hn => (Pt.f P45 hn).trans (bh35 q hq hn)
                      have bv45 : fI D H45 2 (eR s.heap (fR D s.heap 5 dd 0) (fI D s.heap 5 dd 3).toInt.toNat) 4 = v35 := Pt.i P45
                      refine lv_aload_n hx hb dX6_readHouse_145 rfl (lv_at hl 0 rfl) ?_
                      refine q_gi (T := TX2) C S45.1 g8 4 kF_X6_73 dX6_readHouse_146 rfl rfl (by decide) rfl (by decide) rfl ?_
                      have c46 : (fI D H45 2 (eR s.heap (fR D s.heap 5 dd 0) (fI D s.heap 5 dd 3).toInt.toNat) 4).toInt = v35.toInt := by rw [Pt.i P45]
                      refine lv_iconst (v := -1) hx hb dX6_readHouse_149 (by decide) ?_
                      refine lv_icmp_ne (tgt := 155) hx hb dX6_readHouse_150 (by decide) (fun c47 => ?_) (fun c47 => ?_)
                      · have b47 : ¬ (fI D H45 2 (eR s.heap (fR D s.heap 5 dd 0) (fI D s.heap 5 dd 3).toInt.toNat) 4).toInt = (-1 : Int32).toInt := fun z9 => c47 (i_eq.mpr z9)
                        exact absurd b47 (by omega)
                      · have b47 : (fI D H45 2 (eR s.heap (fR D s.heap 5 dd 0) (fI D s.heap 5 dd 3).toInt.toNat) 4).toInt = (-1 : Int32).toInt := i_eq.mp c47
                        refine lv_iconst (v := 0) hx hb dX6_readHouse_153 (by decide) ?_
                        exact retE_z hQ C S45 hr dX6_readHouse_154 (z01 (by omega) (by omega)) (⟨⟨by omega, fun _ h9 => tk45 h9⟩, RsP.no (s1 := sg) (by simp [houF, houW, houP, houT, hc4, w10, y10, w15, y15, y23, y32, w35, y35]) (by omega) wr45, fun q hq hm => bh45 q hq (by have z9 := hm (sg 0).toNat (by omega); unfold hoA at z9; rw [show (sg 0).toNat = (fI D s.heap 5 dd 3).toInt.toNat by omega] at z9; exact z9)⟩)
                    · exact absurd y32 (by rw [w35]; decide)
                · skip
                  refine lv_if_eq (tgt := 155) hx hb dX6_readHouse_129 (by decide) (fun c48 => ?_) (fun c48 => ?_)
                  · have b48 : v32.toInt = (0 : Int32).toInt := i_eq.mp c48
                    refine lv_aload_n hx hb dX6_readHouse_155 rfl (lv_at hl 1 rfl) ?_
                    refine q_grD (T := TX6) C S29.1 ga0 2 kF_X6_11 dX6_readHouse_156 rfl rfl (by decide) rfl (by decide) rfl (fun g49 => ?_)
                    replace g49 : G (fR D H29 6 a0 2) = 23 := by rw [S29.2.1.fR ga0 rfl (by decide) (by decide +kernel)]; exact hpre
                    rw [show fR D H29 6 a0 2 = dd from (S29.2.1.fR ga0 rfl (by decide) (by decide +kernel)).trans hdd]
                    refine lv_dup hx hb dX6_readHouse_159 rfl ?_
                    refine q_gi (T := TX5) C S29.1 gdd 3 kF_X6_44 dX6_readHouse_160 rfl rfl (by decide) rfl (by decide) rfl ?_
                    have c50 : (fI D H29 5 dd 3).toInt = (fI D s.heap 5 dd 3).toInt := by rw [K29.fI gdd rfl (by decide) (by decide +kernel), Pt.f P24 (ne_role gdd g8 (by decide)), Pt.f P20 (ne_role gdd g8 (by decide)), Pt.f P19 (ne_role gdd g8 (by decide)), Pt.f P16 (ne_role gdd g8 (by decide)), K15.fI gdd rfl (by decide) (by decide +kernel), Pt.f P11 (ne_role gdd g8 (by decide)), K10.fI gdd rfl (by decide) (by decide +kernel)]
                    have r51 : 0 ≤ (fI D H29 5 dd 3).toInt ∧ (fI D H29 5 dd 3).toInt ≤ 6 := S29.1.rng gdd rfl (by decide) rfl
                    refine lv_iconst (v := 1) hx hb dX6_readHouse_163 (by decide) ?_
                    have k_1 : (1 : Int32).toInt = 1 := by decide
                    refine lv_iadd hx hb dX6_readHouse_164 ?_
                    refine lv_topi (fun v52 ev52 => ?_)
                    have f53 : v52.toInt = (fI D H29 5 dd 3).toInt + (1 : Int32).toInt := by rw [ev52]; exact i_add (by omega) (by omega)
                    refine q_put (T := TX5) C S29 gdd 3 kF_X6_44 dX6_readHouse_165 rfl rfl (by decide) (by decide) rfl rfl rfl rfl rfl (vok_i rfl (by omega) (by omega)) (by decide +kernel) (fun H54 L54 S54 P54 => ?_)
                    have tk54 : Gd D G s.heap → Gd D G H54 := fun h9  => (tk29 h9).put gdd P54 (Or.inl (by decide))
                    have ts54 := fq29.cells S29.1 gtp gdd (by decide) (by decide) P54.2.2.1
                    have bh54 : ∀ q, G q = 7 → q ≠ (eR s.heap (fR D s.heap 5 dd 0) (fI D s.heap 5 dd 3).toInt.toNat) → fI D H54 2 q 4 = fI D s.heap 2 q 4 := fun q hq hn => (Pt.f P54 (ne_role hq gdd (by decide))).trans (bh29 q hq hn)
                    have bv54 : fI D H54 2 (eR s.heap (fR D s.heap 5 dd 0) (fI D s.heap 5 dd 3).toInt.toNat) 4 = (0 : Int32) := (Pt.f P54 (ne_role g8 gdd (by decide))).trans bv29
                    refine lv_iconst (v := 1) hx hb dX6_readHouse_168 (by decide) ?_
                    exact retE_z hQ C S54 hr dX6_readHouse_169 (z01 (by omega) (by omega)) (⟨⟨by omega, fun _ h9 => tk54 h9⟩, RsP.ok (s1 := hup sg 0) (by simp [houF, houW, houP, houT, hc4, w10, y10, w15, y15, y23, y32]) (by omega) ts54 (DV.house (v := 0) dv0 hO gdd ds0 S54.2.1 (by rw [Pt.i P54]; omega) bh54 (by rw [bv54]; first | omega | decide) (by unfold hoA; rw [show (sg 0).toNat = (fI D s.heap 5 dd 3).toInt.toNat by omega]) ⟨by omega, by omega⟩), fun q hq hm => bh54 q hq (by have z9 := hm (sg 0).toNat (by omega); unfold hoA at z9; rw [show (sg 0).toNat = (fI D s.heap 5 dd 3).toInt.toNat by omega] at z9; exact z9)⟩)
                  · have b48 : ¬ v32.toInt = (0 : Int32).toInt := fun z9 => c48 (i_eq.mpr z9)
                    exact absurd b48 (by omega)
            · skip
              refine q_put (T := TX2) C S20 g8 1 kF_X6_78 dX6_readHouse_103 rfl rfl (by decide) (by decide) rfl rfl rfl (nar_z (by omega) (by omega)) (fit_z (by omega) (by omega)) (vok_i rfl (by omega) (by omega)) (by decide +kernel) (fun H55 L55 S55 P55 => ?_)
              have tk55 : Gd D G s.heap → Gd D G H55 := fun h9  => (tk20 h9).put g8 P55 (Or.inl (by decide))
              have ts55 := ts20.cells S20.1 gtp g8 (by decide) (by decide) P55.2.2.1
              have ct55 : (fI D H55 5 dd 3).toInt = sg 0 := by rw [Pt.f P55 (ne_role gdd g8 (by decide))]; exact ct20
              have bh55 : ∀ q, G q = 7 → q ≠ (eR s.heap (fR D s.heap 5 dd 0) (fI D s.heap 5 dd 3).toInt.toNat) → fI D H55 2 q 4 = fI D s.heap 2 q 4 := fun q hq hn => (Pt.any P55 (by decide) (by decide) q).trans (bh20 q hq hn)
              have bv55 : fI D H55 2 (eR s.heap (fR D s.heap 5 dd 0) (fI D s.heap 5 dd 3).toInt.toNat) 4 = (0 : Int32) := (Pt.any P55 (by decide) (by decide) _).trans bv20
              refine lv_aload_n hx hb dX6_readHouse_106 rfl (lv_at hl 0 rfl) ?_
              refine q_gi (T := TX2) C S55.1 g8 1 kF_X6_78 dX6_readHouse_107 rfl rfl (by decide) rfl (by decide) rfl ?_
              have c56 : (fI D H55 2 (eR s.heap (fR D s.heap 5 dd 0) (fI D s.heap 5 dd 3).toInt.toNat) 1).toInt = v23.toInt := by rw [Pt.i P55]
              have r57 : 0 ≤ (fI D H55 2 (eR s.heap (fR D s.heap 5 dd 0) (fI D s.heap 5 dd 3).toInt.toNat) 1).toInt ∧ (fI D H55 2 (eR s.heap (fR D s.heap 5 dd 0) (fI D s.heap 5 dd 3).toInt.toNat) 1).toInt ≤ 1 := S55.1.rng g8 rfl (by decide) rfl
              refine lv_if_eq (tgt := 120) hx hb dX6_readHouse_110 (by decide) (fun c58 => ?_) (fun c58 => ?_)
              · have b58 : (fI D H55 2 (eR s.heap (fR D s.heap 5 dd 0) (fI D s.heap 5 dd 3).toInt.toNat) 1).toInt = (0 : Int32).toInt := i_eq.mp c58
                refine lv_aload_n hx hb dX6_readHouse_120 rfl (lv_at hl 1 rfl) ?_
                refine q_grS (T := TX6) C S55.1 ga0 0 kF_X6_15 dX6_readHouse_121 rfl rfl (by decide) rfl (by decide) kSF_X6_tape (fun g59 => ?_)
                rw [show fR D H55 6 a0 0 = tp from (S55.2.1.fR ga0 rfl (by decide) (by decide +kernel)).trans htp]
                refine q_lds C ks_X6_85 dX6_readHouse_124 (fun a60 ha60 wa60 => ?_)
                refine callV_Pi C S55.1 S55.2.1.2.1 (c_X9_isWord_f l D G tp a60 5 w_tells T (nx T (nx T (nx T (nx T b)))) gtp ha60 (Wc.of wa60 kw_tells)) kV_X6_21 gtp (⟨trivial, ts55⟩) dX6_readHouse_126 hl.1 rfl rfl (by decide) cd_X9_isWord ⟨Nat.le_of_ble_eq_true rfl, Nat.le_of_ble_eq_true rfl, Nat.le_of_ble_eq_true rfl, Nat.le_of_ble_eq_true rfl, Nat.le_of_ble_eq_true rfl⟩ (fun v61 q61 => ?_)
                obtain ⟨q61, fq61⟩ := q61
                rcases fq61 with ⟨z61, y61⟩ | ⟨z61, y61⟩
                · skip
                  refine lv_if_eq (tgt := 155) hx hb dX6_readHouse_129 (by decide) (fun c62 => ?_) (fun c62 => ?_)
                  · have b62 : v61.toInt = (0 : Int32).toInt := i_eq.mp c62
                    exact absurd b62 (by omega)
                  · have b62 : ¬ v61.toInt = (0 : Int32).toInt := fun z9 => c62 (i_eq.mpr z9)
                    refine lv_aload_n hx hb dX6_readHouse_132 rfl (lv_at hl 0 rfl) ?_
                    refine lv_aload_n hx hb dX6_readHouse_133 rfl (lv_at hl 1 rfl) ?_
                    refine q_lds C ks_X6_85 dX6_readHouse_134 (fun a63 ha63 wa63 => ?_)
                    refine lv_iconst (v := 0) hx hb dX6_readHouse_136 (by decide) ?_
                    refine lv_bipush (v := 100) hx hb dX6_readHouse_137 (by decide) ?_
                    have k_100 : (100 : Int32).toInt = 100 := by decide
                    refine callV_Ei C S55 (c_X6_numberAfter_f l D G a0 a63 5 (0 : Int32) (100 : Int32) w_tells 0 100 tp T (nx T (nx T (nx T (nx T b)))) ga0 ha63 (by omega) (Wc.of wa63 kw_tells) (by omega) (by omega)) kV_X6_57 ga0 (⟨trivial, ⟨(S55.2.1.fR ga0 rfl (by decide) (by decide +kernel)).trans htp, ts55⟩⟩) (by decide +kernel) dX6_readHouse_139 hl.1 rfl rfl (by decide) cd_X6_numberAfter ⟨Nat.le_of_ble_eq_true rfl, Nat.le_of_ble_eq_true rfl, Nat.le_of_ble_eq_true rfl, Nat.le_of_ble_eq_true rfl, Nat.le_of_ble_eq_true rfl⟩ (fun v64 H64 L64 S64 K64 q64 => ?_)
                    obtain ⟨q64, fq64⟩ := q64
                    have tk64 : Gd D G s.heap → Gd D G H64 := fun h9  => (tk55 h9).keep K64 (by decide +kernel)
                    have ct64 : (fI D H64 5 dd 3).toInt = sg 0 := by rw [K64.fI gdd rfl (by decide) (by decide +kernel)]; exact ct55
                    have bh64 : ∀ q, G q = 7 → q ≠ (eR s.heap (fR D s.heap 5 dd 0) (fI D s.heap 5 dd 3).toInt.toNat) → fI D H64 2 q 4 = fI D s.heap 2 q 4 := fun q hq hn => (K64.fI hq rfl (by decide) (by decide +kernel)).trans (bh55 q hq hn)
                    have bv64 : fI D H64 2 (eR s.heap (fR D s.heap 5 dd 0) (fI D s.heap 5 dd 3).toInt.toNat) 4 = (0 : Int32) := (K64.fI g8 rfl (by decide) (by decide +kernel)).trans bv55
                    rcases fq64 with ⟨w64, y64, z64, ts64⟩ | ⟨w64, y64, z64, wr64⟩ | ⟨w64, z64, wr64⟩
                    · have u64 : 0 ≤ v64.toInt ∧ v64.toInt ≤ 100 := by have z9 := num_r (T := T) (b := nx T (nx T (nx T (nx T (nx T b))))) (lo := 0) (hi := 100) (by decide); omega
                      refine q_put (T := TX2) C S64 g8 4 kF_X6_73 dX6_readHouse_142 rfl rfl (by decide) (by decide) rfl rfl rfl rfl rfl (vok_a rfl) (by decide +kernel) (fun H65 L65 S65 P65 => ?_)
                      have tk65 : Gd D G s.heap → Gd D G H65 := fun h9  => (tk64 h9).put g8 P65 (Or.inl (by decide))
                      have ts65 := ts64.cells S64.1 gtp g8 (by decide) (by decide) P65.2.2.1
                      have ct65 : (fI D H65 5 dd 3).toInt = sg 0 := by rw [Pt.f P65 (ne_role gdd g8 (by decide))]; exact ct64
                      have bh65 : ∀ q, G q = 7 → q ≠ (eR s.heap (fR D s.heap 5 dd 0) (fI D s.heap 5 dd 3).toInt.toNat) → fI D H65 2 q 4 = fI D s.heap 2 q 4 := fun q hq hn => (Pt.f P65 hn).trans (bh64 q hq hn)
                      have bv65 : fI D H65 2 (eR s.heap (fR D s.heap 5 dd 0) (fI D s.heap 5 dd 3).toInt.toNat) 4 = v64 := Pt.i P65
                      refine lv_aload_n hx hb dX6_readHouse_145 rfl (lv_at hl 0 rfl) ?_
                      refine q_gi (T := TX2) C S65.1 g8 4 kF_X6_73 dX6_readHouse_146 rfl rfl (by decide) rfl (by decide) rfl ?_
                      have c66 : (fI D H65 2 (eR s.heap (fR D s.heap 5 dd 0) (fI D s.heap 5 dd 3).toInt.toNat) 4).toInt = v64.toInt := by rw [Pt.i P65]
                      refine lv_iconst (v := -1) hx hb dX6_readHouse_149 (by decide) ?_
                      refine lv_icmp_ne (tgt := 155) hx hb dX6_readHouse_150 (by decide) (fun c67 => ?_) (fun c67 => ?_)
                      · have b67 : ¬ (fI D H65 2 (eR s.heap (fR D s.heap 5 dd 0) (fI D s.heap 5 dd 3).toInt.toNat) 4).toInt = (-1 : Int32).toInt := fun z9 => c67 (i_eq.mpr z9)
                        refine lv_aload_n hx hb dX6_readHouse_155 rfl (lv_at hl 1 rfl) ?_
                        refine q_grD (T := TX6) C S65.1 ga0 2 kF_X6_11 dX6_readHouse_156 rfl rfl (by decide) rfl (by decide) rfl (fun g68 => ?_)
                        replace g68 : G (fR D H65 6 a0 2) = 23 := by rw [S65.2.1.fR ga0 rfl (by decide) (by decide +kernel)]; exact hpre
                        rw [show fR D H65 6 a0 2 = dd from (S65.2.1.fR ga0 rfl (by decide) (by decide +kernel)).trans hdd]
                        refine lv_dup hx hb dX6_readHouse_159 rfl ?_
                        refine q_gi (T := TX5) C S65.1 gdd 3 kF_X6_44 dX6_readHouse_160 rfl rfl (by decide) rfl (by decide) rfl ?_
                        have c69 : (fI D H65 5 dd 3).toInt = (fI D s.heap 5 dd 3).toInt := by rw [Pt.f P65 (ne_role gdd g8 (by decide)), K64.fI gdd rfl (by decide) (by decide +kernel), Pt.f P55 (ne_role gdd g8 (by decide)), Pt.f P20 (ne_role gdd g8 (by decide)), Pt.f P19 (ne_role gdd g8 (by decide)), Pt.f P16 (ne_role gdd g8 (by decide)), K15.fI gdd rfl (by decide) (by decide +kernel), Pt.f P11 (ne_role gdd g8 (by decide)), K10.fI gdd rfl (by decide) (by decide +kernel)]
                        have r70 : 0 ≤ (fI D H65 5 dd 3).toInt ∧ (fI D H65 5 dd 3).toInt ≤ 6 := S65.1.rng gdd rfl (by decide) rfl
                        refine lv_iconst (v := 1) hx hb dX6_readHouse_163 (by decide) ?_
                        have k_1 : (1 : Int32).toInt = 1 := by decide
                        refine lv_iadd hx hb dX6_readHouse_164 ?_
                        refine lv_topi (fun v71 ev71 => ?_)
                        have f72 : v71.toInt = (fI D H65 5 dd 3).toInt + (1 : Int32).toInt := by rw [ev71]; exact i_add (by omega) (by omega)
                        refine q_put (T := TX5) C S65 gdd 3 kF_X6_44 dX6_readHouse_165 rfl rfl (by decide) (by decide) rfl rfl rfl rfl rfl (vok_i rfl (by omega) (by omega)) (by decide +kernel) (fun H73 L73 S73 P73 => ?_)
                        have tk73 : Gd D G s.heap → Gd D G H73 := fun h9  => (tk65 h9).put gdd P73 (Or.inl (by decide))
                        have ts73 := ts65.cells S65.1 gtp gdd (by decide) (by decide) P73.2.2.1
                        have bh73 : ∀ q, G q = 7 → q ≠ (eR s.heap (fR D s.heap 5 dd 0) (fI D s.heap 5 dd 3).toInt.toNat) → fI D H73 2 q 4 = fI D s.heap 2 q 4 := fun q hq hn => (Pt.f P73 (ne_role hq gdd (by decide))).trans (bh65 q hq hn)
                        have bv73 : fI D H73 2 (eR s.heap (fR D s.heap 5 dd 0) (fI D s.heap 5 dd 3).toInt.toNat) 4 = v64 := (Pt.f P73 (ne_role g8 gdd (by decide))).trans bv65
                        refine lv_iconst (v := 1) hx hb dX6_readHouse_168 (by decide) ?_
                        exact retE_z hQ C S73 hr dX6_readHouse_169 (z01 (by omega) (by omega)) (⟨⟨by omega, fun _ h9 => tk73 h9⟩, RsP.ok (s1 := hup sg (num T (nx T (nx T (nx T (nx T (nx T b))))) 0 100)) (by simp [houF, houW, houP, houT, hc4, w10, y10, w15, y15, y23, y61, w64, y64]) (by omega) ts73 (DV.house (v := num T (nx T (nx T (nx T (nx T (nx T b))))) 0 100) dv0 hO gdd ds0 S73.2.1 (by rw [Pt.i P73]; omega) bh73 (by rw [bv73]; first | omega | decide) (by unfold hoA; rw [show (sg 0).toNat = (fI D s.heap 5 dd 3).toInt.toNat by omega]) ⟨by omega, by omega⟩), fun q hq hm => bh73 q hq (by have z9 := hm (sg 0).toNat (by omega); unfold hoA at z9; rw [show (sg 0).toNat = (fI D s.heap 5 dd 3).toInt.toNat by omega] at z9; exact z9)⟩)
                      · have b67 : (fI D H65 2 (eR s.heap (fR D s.heap 5 dd 0) (fI D s.heap 5 dd 3).toInt.toNat) 4).toInt = (-1 : Int32).toInt := i_eq.mp c67
                        exact absurd b67 (by omega)
                    · skip
                      refine q_put (T := TX2) C S64 g8 4 kF_X6_73 dX6_readHouse_142 rfl rfl (by decide) (by decide) rfl rfl rfl rfl rfl (vok_a rfl) (by decide +kernel) (fun H74 L74 S74 P74 => ?_)
                      have tk74 : Gd D G s.heap → Gd D G H74 := fun h9  => (tk64 h9).put g8 P74 (Or.inl (by decide))
                      have wr74 : (fI D H74 9 tp 2).toInt = (((nx T (nx T (nx T (nx T (nx T b))))) : Nat) : Int) := by rw [Pt.f P74 (ne_role gtp g8 (by decide))]; exact wr64
                      have ct74 : (fI D H74 5 dd 3).toInt = sg 0 := by rw [Pt.f P74 (ne_role gdd g8 (by decide))]; exact ct64
                      have bh74 : ∀ q, G q = 7 → q ≠ (eR s.heap (fR D s.heap 5 dd 0) (fI D s.heap 5 dd 3).toInt.toNat) → fI D H74 2 q 4 = fI D s.heap 2 q 4 := fun q hq hn => (Pt.f P74 hn).trans (bh64 q hq hn)
                      have bv74 : fI D H74 2 (eR s.heap (fR D s.heap 5 dd 0) (fI D s.heap 5 dd 3).toInt.toNat) 4 = v64 := Pt.i P74
                      refine lv_aload_n hx hb dX6_readHouse_145 rfl (lv_at hl 0 rfl) ?_
                      refine q_gi (T := TX2) C S74.1 g8 4 kF_X6_73 dX6_readHouse_146 rfl rfl (by decide) rfl (by decide) rfl ?_
                      have c75 : (fI D H74 2 (eR s.heap (fR D s.heap 5 dd 0) (fI D s.heap 5 dd 3).toInt.toNat) 4).toInt = v64.toInt := by rw [Pt.i P74]
                      refine lv_iconst (v := -1) hx hb dX6_readHouse_149 (by decide) ?_
                      refine lv_icmp_ne (tgt := 155) hx hb dX6_readHouse_150 (by decide) (fun c76 => ?_) (fun c76 => ?_)
                      · have b76 : ¬ (fI D H74 2 (eR s.heap (fR D s.heap 5 dd 0) (fI D s.heap 5 dd 3).toInt.toNat) 4).toInt = (-1 : Int32).toInt := fun z9 => c76 (i_eq.mpr z9)
                        exact absurd b76 (by omega)
                      · have b76 : (fI D H74 2 (eR s.heap (fR D s.heap 5 dd 0) (fI D s.heap 5 dd 3).toInt.toNat) 4).toInt = (-1 : Int32).toInt := i_eq.mp c76
                        refine lv_iconst (v := 0) hx hb dX6_readHouse_153 (by decide) ?_
                        exact retE_z hQ C S74 hr dX6_readHouse_154 (z01 (by omega) (by omega)) (⟨⟨by omega, fun _ h9 => tk74 h9⟩, RsP.no (s1 := sg) (by simp [houF, houW, houP, houT, hc4, w10, y10, w15, y15, y23, y61, w64, y64]) (by omega) wr74, fun q hq hm => bh74 q hq (by have z9 := hm (sg 0).toNat (by omega); unfold hoA at z9; rw [show (sg 0).toNat = (fI D s.heap 5 dd 3).toInt.toNat by omega] at z9; exact z9)⟩)
                    · exact absurd y61 (by rw [w64]; decide)
                · skip
                  refine lv_if_eq (tgt := 155) hx hb dX6_readHouse_129 (by decide) (fun c77 => ?_) (fun c77 => ?_)
                  · have b77 : v61.toInt = (0 : Int32).toInt := i_eq.mp c77
                    refine lv_aload_n hx hb dX6_readHouse_155 rfl (lv_at hl 1 rfl) ?_
                    refine q_grD (T := TX6) C S55.1 ga0 2 kF_X6_11 dX6_readHouse_156 rfl rfl (by decide) rfl (by decide) rfl (fun g78 => ?_)
                    replace g78 : G (fR D H55 6 a0 2) = 23 := by rw [S55.2.1.fR ga0 rfl (by decide) (by decide +kernel)]; exact hpre
                    rw [show fR D H55 6 a0 2 = dd from (S55.2.1.fR ga0 rfl (by decide) (by decide +kernel)).trans hdd]
                    refine lv_dup hx hb dX6_readHouse_159 rfl ?_
                    refine q_gi (T := TX5) C S55.1 gdd 3 kF_X6_44 dX6_readHouse_160 rfl rfl (by decide) rfl (by decide) rfl ?_
                    have c79 : (fI D H55 5 dd 3).toInt = (fI D s.heap 5 dd 3).toInt := by rw [Pt.f P55 (ne_role gdd g8 (by decide)), Pt.f P20 (ne_role gdd g8 (by decide)), Pt.f P19 (ne_role gdd g8 (by decide)), Pt.f P16 (ne_role gdd g8 (by decide)), K15.fI gdd rfl (by decide) (by decide +kernel), Pt.f P11 (ne_role gdd g8 (by decide)), K10.fI gdd rfl (by decide) (by decide +kernel)]
                    have r80 : 0 ≤ (fI D H55 5 dd 3).toInt ∧ (fI D H55 5 dd 3).toInt ≤ 6 := S55.1.rng gdd rfl (by decide) rfl
                    refine lv_iconst (v := 1) hx hb dX6_readHouse_163 (by decide) ?_
                    have k_1 : (1 : Int32).toInt = 1 := by decide
                    refine lv_iadd hx hb dX6_readHouse_164 ?_
                    refine lv_topi (fun v81 ev81 => ?_)
                    have f82 : v81.toInt = (fI D H55 5 dd 3).toInt + (1 : Int32).toInt := by rw [ev81]; exact i_add (by omega) (by omega)
                    refine q_put (T := TX5) C S55 gdd 3 kF_X6_44 dX6_readHouse_165 rfl rfl (by decide) (by decide) rfl rfl rfl rfl rfl (vok_i rfl (by omega) (by omega)) (by decide +kernel) (fun H83 L83 S83 P83 => ?_)
                    have tk83 : Gd D G s.heap → Gd D G H83 := fun h9  => (tk55 h9).put gdd P83 (Or.inl (by decide))
                    have ts83 := ts55.cells S55.1 gtp gdd (by decide) (by decide) P83.2.2.1
                    have bh83 : ∀ q, G q = 7 → q ≠ (eR s.heap (fR D s.heap 5 dd 0) (fI D s.heap 5 dd 3).toInt.toNat) → fI D H83 2 q 4 = fI D s.heap 2 q 4 := fun q hq hn => (Pt.f P83 (ne_role hq gdd (by decide))).trans (bh55 q hq hn)
                    have bv83 : fI D H83 2 (eR s.heap (fR D s.heap 5 dd 0) (fI D s.heap 5 dd 3).toInt.toNat) 4 = (0 : Int32) := (Pt.f P83 (ne_role g8 gdd (by decide))).trans bv55
                    refine lv_iconst (v := 1) hx hb dX6_readHouse_168 (by decide) ?_
                    exact retE_z hQ C S83 hr dX6_readHouse_169 (z01 (by omega) (by omega)) (⟨⟨by omega, fun _ h9 => tk83 h9⟩, RsP.ok (s1 := hup sg 0) (by simp [houF, houW, houP, houT, hc4, w10, y10, w15, y15, y23, y61]) (by omega) ts83 (DV.house (v := 0) dv0 hO gdd ds0 S83.2.1 (by rw [Pt.i P83]; omega) bh83 (by rw [bv83]; first | omega | decide) (by unfold hoA; rw [show (sg 0).toNat = (fI D s.heap 5 dd 3).toInt.toNat by omega]) ⟨by omega, by omega⟩), fun q hq hm => bh83 q hq (by have z9 := hm (sg 0).toNat (by omega); unfold hoA at z9; rw [show (sg 0).toNat = (fI D s.heap 5 dd 3).toInt.toNat by omega] at z9; exact z9)⟩)
                  · have b77 : ¬ v61.toInt = (0 : Int32).toInt := fun z9 => c77 (i_eq.mpr z9)
                    exact absurd b77 (by omega)
              · have b58 : ¬ (fI D H55 2 (eR s.heap (fR D s.heap 5 dd 0) (fI D s.heap 5 dd 3).toInt.toNat) 1).toInt = (0 : Int32).toInt := fun z9 => c58 (i_eq.mpr z9)
                exact absurd b58 (by omega)
          · have b18 : (fI D H16 2 (eR s.heap (fR D s.heap 5 dd 0) (fI D s.heap 5 dd 3).toInt.toNat) 2).toInt = (-1 : Int32).toInt := i_eq.mp c18
            exact absurd b18 (by omega)
        · skip
          refine q_put (T := TX2) C S15 g8 2 kF_X6_68 dX6_readHouse_70 rfl rfl (by decide) (by decide) rfl rfl rfl rfl rfl (vok_a rfl) (by decide +kernel) (fun H84 L84 S84 P84 => ?_)
          have tk84 : Gd D G s.heap → Gd D G H84 := fun h9  => (tk15 h9).put g8 P84 (Or.inl (by decide))
          have wr84 : (fI D H84 9 tp 2).toInt = (((nx T (nx T (nx T b))) : Nat) : Int) := by rw [Pt.f P84 (ne_role gtp g8 (by decide))]; exact wr15
          have dv84 := dv_keep dv15 S15.1 (Or.inr gdd) (Pt.keep g8 rfl (by decide) P84)
          have ct84 : (fI D H84 5 dd 3).toInt = sg 0 := by rw [Pt.f P84 (ne_role gdd g8 (by decide))]; exact ct15
          have bh84 : ∀ q, G q = 7 → q ≠ (eR s.heap (fR D s.heap 5 dd 0) (fI D s.heap 5 dd 3).toInt.toNat) → fI D H84 2 q 4 = fI D s.heap 2 q 4 := fun q hq hn => (Pt.any P84 (by decide) (by decide) q).trans (bh15 q hq hn)
          refine lv_aload_n hx hb dX6_readHouse_73 rfl (lv_at hl 0 rfl) ?_
          refine q_gi (T := TX2) C S84.1 g8 2 kF_X6_68 dX6_readHouse_74 rfl rfl (by decide) rfl (by decide) rfl ?_
          have c85 : (fI D H84 2 (eR s.heap (fR D s.heap 5 dd 0) (fI D s.heap 5 dd 3).toInt.toNat) 2).toInt = v15.toInt := by rw [Pt.i P84]
          refine lv_iconst (v := -1) hx hb dX6_readHouse_77 (by decide) ?_
          refine lv_icmp_ne (tgt := 83) hx hb dX6_readHouse_78 (by decide) (fun c86 => ?_) (fun c86 => ?_)
          · have b86 : ¬ (fI D H84 2 (eR s.heap (fR D s.heap 5 dd 0) (fI D s.heap 5 dd 3).toInt.toNat) 2).toInt = (-1 : Int32).toInt := fun z9 => c86 (i_eq.mpr z9)
            exact absurd b86 (by omega)
          · have b86 : (fI D H84 2 (eR s.heap (fR D s.heap 5 dd 0) (fI D s.heap 5 dd 3).toInt.toNat) 2).toInt = (-1 : Int32).toInt := i_eq.mp c86
            refine lv_iconst (v := 0) hx hb dX6_readHouse_81 (by decide) ?_
            exact retE_z hQ C S84 hr dX6_readHouse_82 (z01 (by omega) (by omega)) (⟨⟨by omega, fun _ h9 => tk84 h9⟩, RsP.no (s1 := sg) (by simp [houF, houW, houP, houT, hc4, w10, y10, w15, y15]) (by omega) wr84, fun q hq hm => bh84 q hq (by have z9 := hm (sg 0).toNat (by omega); unfold hoA at z9; rw [show (sg 0).toNat = (fI D s.heap 5 dd 3).toInt.toNat by omega] at z9; exact z9)⟩)
        · skip
          refine q_put (T := TX2) C S15 g8 2 kF_X6_68 dX6_readHouse_70 rfl rfl (by decide) (by decide) rfl rfl rfl rfl rfl (vok_a rfl) (by decide +kernel) (fun H87 L87 S87 P87 => ?_)
          have tk87 : Gd D G s.heap → Gd D G H87 := fun h9  => (tk15 h9).put g8 P87 (Or.inl (by decide))
          have wr87 : (fI D H87 9 tp 2).toInt = (((nx T (nx T b)) : Nat) : Int) := by rw [Pt.f P87 (ne_role gtp g8 (by decide))]; exact wr15
          have dv87 := dv_keep dv15 S15.1 (Or.inr gdd) (Pt.keep g8 rfl (by decide) P87)
          have ct87 : (fI D H87 5 dd 3).toInt = sg 0 := by rw [Pt.f P87 (ne_role gdd g8 (by decide))]; exact ct15
          have bh87 : ∀ q, G q = 7 → q ≠ (eR s.heap (fR D s.heap 5 dd 0) (fI D s.heap 5 dd 3).toInt.toNat) → fI D H87 2 q 4 = fI D s.heap 2 q 4 := fun q hq hn => (Pt.any P87 (by decide) (by decide) q).trans (bh15 q hq hn)
          refine lv_aload_n hx hb dX6_readHouse_73 rfl (lv_at hl 0 rfl) ?_
          refine q_gi (T := TX2) C S87.1 g8 2 kF_X6_68 dX6_readHouse_74 rfl rfl (by decide) rfl (by decide) rfl ?_
          have c88 : (fI D H87 2 (eR s.heap (fR D s.heap 5 dd 0) (fI D s.heap 5 dd 3).toInt.toNat) 2).toInt = v15.toInt := by rw [Pt.i P87]
          refine lv_iconst (v := -1) hx hb dX6_readHouse_77 (by decide) ?_
          refine lv_icmp_ne (tgt := 83) hx hb dX6_readHouse_78 (by decide) (fun c89 => ?_) (fun c89 => ?_)
          · have b89 : ¬ (fI D H87 2 (eR s.heap (fR D s.heap 5 dd 0) (fI D s.heap 5 dd 3).toInt.toNat) 2).toInt = (-1 : Int32).toInt := fun z9 => c89 (i_eq.mpr z9)
            exact absurd b89 (by omega)
          · have b89 : (fI D H87 2 (eR s.heap (fR D s.heap 5 dd 0) (fI D s.heap 5 dd 3).toInt.toNat) 2).toInt = (-1 : Int32).toInt := i_eq.mp c89
            refine lv_iconst (v := 0) hx hb dX6_readHouse_81 (by decide) ?_
            exact retE_z hQ C S87 hr dX6_readHouse_82 (z01 (by omega) (by omega)) (⟨⟨by omega, fun _ h9 => tk87 h9⟩, RsP.no (s1 := sg) (by simp [houF, houW, houP, houT, hc4, w10, y10, w15]) (by omega) wr87, fun q hq hm => bh87 q hq (by have z9 := hm (sg 0).toNat (by omega); unfold hoA at z9; rw [show (sg 0).toNat = (fI D s.heap 5 dd 3).toInt.toNat by omega] at z9; exact z9)⟩)
      · have b13 : (fI D H11 2 (eR s.heap (fR D s.heap 5 dd 0) (fI D s.heap 5 dd 3).toInt.toNat) 0).toInt = (-1 : Int32).toInt := i_eq.mp c13
        exact absurd b13 (by omega)
    · skip
      refine q_put (T := TX2) C S10 g8 0 kF_X6_61 dX6_readHouse_47 rfl rfl (by decide) (by decide) rfl rfl rfl rfl rfl (vok_a rfl) (by decide +kernel) (fun H90 L90 S90 P90 => ?_)
      have tk90 : Gd D G s.heap → Gd D G H90 := fun h9  => (tk10 h9).put g8 P90 (Or.inl (by decide))
      have wr90 : (fI D H90 9 tp 2).toInt = (((nx T b) : Nat) : Int) := by rw [Pt.f P90 (ne_role gtp g8 (by decide))]; exact wr10
      have dv90 := dv_keep dv10 S10.1 (Or.inr gdd) (Pt.keep g8 rfl (by decide) P90)
      have ct90 : (fI D H90 5 dd 3).toInt = sg 0 := by rw [Pt.f P90 (ne_role gdd g8 (by decide))]; exact ct10
      have bh90 : ∀ q, G q = 7 → q ≠ (eR s.heap (fR D s.heap 5 dd 0) (fI D s.heap 5 dd 3).toInt.toNat) → fI D H90 2 q 4 = fI D s.heap 2 q 4 := fun q hq hn => (Pt.any P90 (by decide) (by decide) q).trans (bh10 q hq hn)
      refine lv_aload_n hx hb dX6_readHouse_50 rfl (lv_at hl 0 rfl) ?_
      refine q_gi (T := TX2) C S90.1 g8 0 kF_X6_61 dX6_readHouse_51 rfl rfl (by decide) rfl (by decide) rfl ?_
      have c91 : (fI D H90 2 (eR s.heap (fR D s.heap 5 dd 0) (fI D s.heap 5 dd 3).toInt.toNat) 0).toInt = v10.toInt := by rw [Pt.i P90]
      refine lv_iconst (v := -1) hx hb dX6_readHouse_54 (by decide) ?_
      have k_m1 : (-1 : Int32).toInt = -1 := by decide
      refine lv_icmp_ne (tgt := 60) hx hb dX6_readHouse_55 (by decide) (fun c92 => ?_) (fun c92 => ?_)
      · have b92 : ¬ (fI D H90 2 (eR s.heap (fR D s.heap 5 dd 0) (fI D s.heap 5 dd 3).toInt.toNat) 0).toInt = (-1 : Int32).toInt := fun z9 => c92 (i_eq.mpr z9)
        exact absurd b92 (by omega)
      · have b92 : (fI D H90 2 (eR s.heap (fR D s.heap 5 dd 0) (fI D s.heap 5 dd 3).toInt.toNat) 0).toInt = (-1 : Int32).toInt := i_eq.mp c92
        refine lv_iconst (v := 0) hx hb dX6_readHouse_58 (by decide) ?_
        exact retE_z hQ C S90 hr dX6_readHouse_59 (z01 (by omega) (by omega)) (⟨⟨by omega, fun _ h9 => tk90 h9⟩, RsP.no (s1 := sg) (by simp [houF, houW, houP, houT, hc4, w10, y10]) (by omega) wr90, fun q hq hm => bh90 q hq (by have z9 := hm (sg 0).toNat (by omega); unfold hoA at z9; rw [show (sg 0).toNat = (fI D s.heap 5 dd 3).toInt.toNat by omega] at z9; exact z9)⟩)
    · exact absurd hw0 (by rw [w10]; decide)
  · have b3 : ¬ (fI D s.heap 5 dd 3).toInt < (6 : Int32).toInt := fun z9 => c3 (i_lt.mpr z9)
    have hc93 : sg 0 = 6 := by omega
    refine lv_aload_n hx hb dX6_readHouse_12 rfl (lv_at hl 0 rfl) ?_
    refine q_grS (T := TX6) C S.1 ga0 0 kF_X6_15 dX6_readHouse_13 rfl rfl (by decide) rfl (by decide) kSF_X6_tape (fun g94 => ?_)
    rw [show fR D s.heap 6 a0 0 = tp from htp]
    refine callV_Ei C S (c_X9_refuse_f l D G tp T b gtp) kV_X6_50 gtp (⟨trivial, ts0⟩) (by decide +kernel) dX6_readHouse_16 hl.1 rfl rfl (by decide) cd_X9_refuse ⟨Nat.le_of_ble_eq_true rfl, Nat.le_of_ble_eq_true rfl, Nat.le_of_ble_eq_true rfl, Nat.le_of_ble_eq_true rfl, Nat.le_of_ble_eq_true rfl⟩ (fun v95 H95 L95 S95 K95 q95 => ?_)
    obtain ⟨q95, fq95⟩ := q95
    have tk95 : Gd D G s.heap → Gd D G H95 := fun h9  => (tk0 h9).keep K95 (by decide +kernel)
    have dv95 := dv_keep dv0 S.1 (Or.inr gdd) K95
    have ct95 : (fI D H95 5 dd 3).toInt = sg 0 := by rw [K95.fI gdd rfl (by decide) (by decide +kernel)]; exact ct0
    have z95 := fq95.1
    exact retE_z hQ C S95 hr dX6_readHouse_19 (z01 (by omega) (by omega)) (⟨⟨by omega, fun _ h9 => tk95 h9⟩, RsP.no (s1 := sg) (by simp [houF, houW, houP, houT, hc93]) (by omega) fq95.2, fun q hq _ => K95.fI hq rfl (by decide) (by decide +kernel)⟩)

set_option maxRecDepth 100000 in
set_option maxHeartbeats 4000000 in
theorem c_X6_readSees_f (l : Launch) (D : DD) (G : Nat → Nat) (a0 : Nat) (dd : Nat) (sg : Sg) (tp : Nat) (T : Tx) (b : Nat) (ga0 : G a0 = 20) (hw0 : isW T b w_sees = true) : CE l D G yX6_readSees cX6_readSees 3 (some .boolean) 7 [.ref a0] (fun H => (G (fR D H 6 a0 2) = 23) ∧ (fR D H 6 a0 0 = tp ∧ TS D H tp T b ∧ fR D H 6 a0 2 = dd ∧ DS D H dd ∧ SV (pv D H dd) sg)) [(2, 3), (2, 4), (2, 5), (2, 6), (2, 2), (7, 3)] (xI (fun H r H1 => ((0 ≤ r.toInt ∧ r.toInt ≤ 1) ∧ (r.toInt = 1 → Gd D G H → Gd D G H1)) ∧ (RsP D H1 tp dd T (seeF T sg b) r) ∧ (FH D G H H1 dd))) := by
  refine enter (by decide) (Nat.le_of_ble_eq_true rfl) ?_
  intro p e s m args below meth c ls Q hA hQ C hr hO hpre hl
  have hx := C.1
  have hb := C.2.1
  have S : Sd D G [(2, 3), (2, 4), (2, 5), (2, 6), (2, 2), (7, 3)] s.heap s.heap [] := Sd.start hO
  have hl : lv_has ls 3 [(0, .ref a0)] := hl
  obtain ⟨hpre, hf⟩ := hpre
  obtain ⟨htp, ts0, hdd, ds0, dv0⟩ := hf
  have gtp : G tp = 2 := by rw [← htp]; exact hO.rol ga0 rfl (by decide) rfl
  have gdd : G dd = 23 := by rw [← hdd]; exact hpre
  have hT : T.2 ≤ 400 := ts0.le hO gtp
  have ct0 : (fI D s.heap 5 dd 3).toInt = sg 0 := dv_0 dv0
  have tk0 : Gd D G s.heap → Gd D G s.heap := fun h => h
  refine lv_aload_n hx hb dX6_readSees_0 rfl (lv_at hl 0 rfl) ?_
  refine q_lds C ks_X6_31 dX6_readSees_1 (fun a1 ha1 wa1 => ?_)
  refine lv_iconst (v := 0) hx hb dX6_readSees_3 (by decide) ?_
  refine lv_iconst (v := 4) hx hb dX6_readSees_4 (by decide) ?_
  have k_0 : (0 : Int32).toInt = 0 := by decide
  have k_4 : (4 : Int32).toInt = 4 := by decide
  refine callV_Ei C S (c_X6_numberAfter_f l D G a0 a1 4 (0 : Int32) (4 : Int32) w_sees 0 4 tp T b ga0 ha1 (by omega) (Wc.of wa1 kw_sees) (by omega) (by omega)) kV_X6_57 ga0 (⟨trivial, ⟨htp, ts0⟩⟩) (by decide +kernel) dX6_readSees_5 hl.1 rfl rfl (by decide) cd_X6_numberAfter ⟨Nat.le_of_ble_eq_true rfl, Nat.le_of_ble_eq_true rfl, Nat.le_of_ble_eq_true rfl, Nat.le_of_ble_eq_true rfl, Nat.le_of_ble_eq_true rfl⟩ (fun v2 H2 L2 S2 K2 q2 => ?_)
  obtain ⟨q2, fq2⟩ := q2
  have tk2 : Gd D G s.heap → Gd D G H2 := fun h9  => (tk0 h9).keep K2 (by decide +kernel)
  have dv2 := dv_keep dv0 S.1 (Or.inr gdd) K2
  have ct2 : (fI D H2 5 dd 3).toInt = sg 0 := by rw [K2.fI gdd rfl (by decide) (by decide +kernel)]; exact ct0
  rcases fq2 with ⟨w2, y2, z2, ts2⟩ | ⟨w2, y2, z2, wr2⟩ | ⟨w2, z2, wr2⟩
  · have u2 : 0 ≤ v2.toInt ∧ v2.toInt ≤ 4 := by have z9 := num_r (T := T) (b := nx T b) (lo := 0) (hi := 4) (by decide); omega
    refine lv_istore_n (lv' := [(1, .int v2), (0, .ref a0)]) hx hb dX6_readSees_8 rfl hl (by decide) rfl (fun ls hl => ?_)
    refine lv_iload_n hx hb dX6_readSees_9 rfl (lv_at hl 0 rfl) ?_
    refine lv_iconst (v := -1) hx hb dX6_readSees_10 (by decide) ?_
    have k_m1 : (-1 : Int32).toInt = -1 := by decide
    refine lv_icmp_ne (tgt := 16) hx hb dX6_readSees_11 (by decide) (fun c3 => ?_) (fun c3 => ?_)
    · have b3 : ¬ v2.toInt = (-1 : Int32).toInt := fun z9 => c3 (i_eq.mpr z9)
      refine lv_aload_n hx hb dX6_readSees_16 rfl (lv_at hl 1 rfl) ?_
      refine q_grS (T := TX6) C S2.1 ga0 0 kF_X6_15 dX6_readSees_17 rfl rfl (by decide) rfl (by decide) kSF_X6_tape (fun g4 => ?_)
      rw [show fR D H2 6 a0 0 = tp from (S2.2.1.fR ga0 rfl (by decide) (by decide +kernel)).trans htp]
      refine lv_iconst (v := 0) hx hb dX6_readSees_20 (by decide) ?_
      refine lv_aload_n hx hb dX6_readSees_21 rfl (lv_at hl 1 rfl) ?_
      refine q_grD (T := TX6) C S2.1 ga0 2 kF_X6_11 dX6_readSees_22 rfl rfl (by decide) rfl (by decide) rfl (fun g5 => ?_)
      replace g5 : G (fR D H2 6 a0 2) = 23 := by rw [S2.2.1.fR ga0 rfl (by decide) (by decide +kernel)]; exact hpre
      rw [show fR D H2 6 a0 2 = dd from (S2.2.1.fR ga0 rfl (by decide) (by decide +kernel)).trans hdd]
      refine q_gi (T := TX5) C S2.1 gdd 3 kF_X6_44 dX6_readSees_25 rfl rfl (by decide) rfl (by decide) rfl ?_
      have c6 : (fI D H2 5 dd 3).toInt = (fI D s.heap 5 dd 3).toInt := by rw [K2.fI gdd rfl (by decide) (by decide +kernel)]
      have r7 : 0 ≤ (fI D H2 5 dd 3).toInt ∧ (fI D H2 5 dd 3).toInt ≤ 6 := S2.1.rng gdd rfl (by decide) rfl
      refine lv_iconst (v := 1) hx hb dX6_readSees_28 (by decide) ?_
      have k_1 : (1 : Int32).toInt = 1 := by decide
      refine lv_isub hx hb dX6_readSees_29 ?_
      refine lv_topi (fun v8 ev8 => ?_)
      have f9 : v8.toInt = (fI D H2 5 dd 3).toInt - (1 : Int32).toInt := by rw [ev8]; exact i_sub (by omega) (by omega)
      refine callV_Ei C S2 (c_X9_takeNumber_f l D G tp (0 : Int32) v8 0 (sg 0 - 1) T (nx T (nx T b)) gtp (by omega) (by omega) (by omega)) kV_X6_86 gtp (⟨trivial, ts2⟩) (by decide +kernel) dX6_readSees_30 hl.1 rfl rfl (by decide) cd_X9_takeNumber ⟨Nat.le_of_ble_eq_true rfl, Nat.le_of_ble_eq_true rfl, Nat.le_of_ble_eq_true rfl, Nat.le_of_ble_eq_true rfl, Nat.le_of_ble_eq_true rfl⟩ (fun v10 H10 L10 S10 K10 q10 => ?_)
      obtain ⟨q10, fq10⟩ := q10
      have tk10 : Gd D G s.heap → Gd D G H10 := fun h9  => (tk2 h9).keep K10 (by decide +kernel)
      have dv10 := dv_keep dv2 S2.1 (Or.inr gdd) K10
      have ct10 : (fI D H10 5 dd 3).toInt = sg 0 := by rw [K10.fI gdd rfl (by decide) (by decide +kernel)]; exact ct2
      rcases fq10 with ⟨z10, y10, ts10⟩ | ⟨z10, y10, wr10⟩
      · skip
        refine lv_istore_n (lv' := [(2, .int v10), (1, .int v2), (0, .ref a0)]) hx hb dX6_readSees_33 rfl hl (by decide) rfl (fun ls hl => ?_)
        refine lv_iload_n hx hb dX6_readSees_34 rfl (lv_at hl 0 rfl) ?_
        refine lv_iconst (v := -1) hx hb dX6_readSees_35 (by decide) ?_
        refine lv_icmp_ne (tgt := 41) hx hb dX6_readSees_36 (by decide) (fun c11 => ?_) (fun c11 => ?_)
        · have b11 : ¬ v10.toInt = (-1 : Int32).toInt := fun z9 => c11 (i_eq.mpr z9)
          refine lv_aload_n hx hb dX6_readSees_41 rfl (lv_at hl 2 rfl) ?_
          refine q_grD (T := TX6) C S10.1 ga0 2 kF_X6_11 dX6_readSees_42 rfl rfl (by decide) rfl (by decide) rfl (fun g12 => ?_)
          replace g12 : G (fR D H10 6 a0 2) = 23 := by rw [S10.2.1.fR ga0 rfl (by decide) (by decide +kernel)]; exact hpre
          rw [show fR D H10 6 a0 2 = dd from (S10.2.1.fR ga0 rfl (by decide) (by decide +kernel)).trans hdd]
          refine q_gr (T := TX5) C S10.1 gdd 0 kF_X6_53 dX6_readSees_45 rfl rfl (by decide) rfl (by decide) rfl (fun g13 => ?_)
          refine lv_iload_n hx hb dX6_readSees_48 rfl (lv_at hl 0 rfl) ?_
          refine q_aald C S10.1 g13 (by omega) (by omega) dX6_readSees_49 rfl (by decide) rfl rfl (fun g14 => ?_)
          refine lv_dup hx hb dX6_readSees_50 rfl ?_
          refine q_gi (T := TX2) C S10.1 g14 3 kF_X6_70 dX6_readSees_51 rfl rfl (by decide) rfl (by decide) rfl ?_
          have c15 : (fI D H10 2 (eR H10 (fR D H10 5 dd 0) v10.toInt.toNat) 3).toInt = (fI D s.heap 2 (eR H10 (fR D H10 5 dd 0) v10.toInt.toNat) 3).toInt := by rw [K10.fI g14 rfl (by decide) (by decide +kernel), K2.fI g14 rfl (by decide) (by decide +kernel)]
          refine lv_iconst (v := 1) hx hb dX6_readSees_54 (by decide) ?_
          refine lv_iload_n hx hb dX6_readSees_55 rfl (lv_at hl 1 rfl) ?_
          refine lv_ishl hx hb dX6_readSees_56 ?_
          refine lv_topi (fun v16 ev16 => ?_)
          have f17 : 1 ≤ v16.toInt ∧ v16.toInt ≤ 16 := by rw [ev16]; exact i_shl1 4 (by omega) (by omega) (by decide)
          refine lv_ior hx hb dX6_readSees_57 ?_
          refine lv_topi (fun v18 ev18 => ?_)
          refine q_put (T := TX2) C S10 g14 3 kF_X6_70 dX6_readSees_58 rfl rfl (by decide) (by decide) rfl rfl rfl rfl rfl (vok_a rfl) (by decide +kernel) (fun H19 L19 S19 P19 => ?_)
          have tk19 : Gd D G s.heap → Gd D G H19 := fun h9  => (tk10 h9).put g14 P19 (Or.inl (by decide))
          have ts19 := ts10.cells S10.1 gtp g14 (by decide) (by decide) P19.2.2.1
          have dv19 := dv_keep dv10 S10.1 (Or.inr gdd) (Pt.keep g14 rfl (by decide) P19)
          have ct19 : (fI D H19 5 dd 3).toInt = sg 0 := by rw [Pt.f P19 (ne_role gdd g14 (by decide))]; exact ct10
          refine lv_iconst (v := 1) hx hb dX6_readSees_61 (by decide) ?_
          exact retE_z hQ C S19 hr dX6_readSees_62 (z01 (by omega) (by omega)) (⟨⟨by omega, fun _ h9 => tk19 h9⟩, RsP.ok (s1 := sg) (by simp [seeF, w2, y2, y10]) (by omega) ts19 (dv19), fun q hq _ => S19.2.1.fI hq rfl (by decide) (by decide +kernel)⟩)
        · have b11 : v10.toInt = (-1 : Int32).toInt := i_eq.mp c11
          exact absurd b11 (by omega)
      · skip
        refine lv_istore_n (lv' := [(2, .int v10), (1, .int v2), (0, .ref a0)]) hx hb dX6_readSees_33 rfl hl (by decide) rfl (fun ls hl => ?_)
        refine lv_iload_n hx hb dX6_readSees_34 rfl (lv_at hl 0 rfl) ?_
        refine lv_iconst (v := -1) hx hb dX6_readSees_35 (by decide) ?_
        refine lv_icmp_ne (tgt := 41) hx hb dX6_readSees_36 (by decide) (fun c20 => ?_) (fun c20 => ?_)
        · have b20 : ¬ v10.toInt = (-1 : Int32).toInt := fun z9 => c20 (i_eq.mpr z9)
          exact absurd b20 (by omega)
        · have b20 : v10.toInt = (-1 : Int32).toInt := i_eq.mp c20
          refine lv_iconst (v := 0) hx hb dX6_readSees_39 (by decide) ?_
          exact retE_z hQ C S10 hr dX6_readSees_40 (z01 (by omega) (by omega)) (⟨⟨by omega, fun _ h9 => tk10 h9⟩, RsP.no (s1 := sg) (by simp [seeF, w2, y2, y10]) (by omega) wr10, fun q hq _ => S10.2.1.fI hq rfl (by decide) (by decide +kernel)⟩)
    · have b3 : v2.toInt = (-1 : Int32).toInt := i_eq.mp c3
      exact absurd b3 (by omega)
  · skip
    refine lv_istore_n (lv' := [(1, .int v2), (0, .ref a0)]) hx hb dX6_readSees_8 rfl hl (by decide) rfl (fun ls hl => ?_)
    refine lv_iload_n hx hb dX6_readSees_9 rfl (lv_at hl 0 rfl) ?_
    refine lv_iconst (v := -1) hx hb dX6_readSees_10 (by decide) ?_
    have k_m1 : (-1 : Int32).toInt = -1 := by decide
    refine lv_icmp_ne (tgt := 16) hx hb dX6_readSees_11 (by decide) (fun c21 => ?_) (fun c21 => ?_)
    · have b21 : ¬ v2.toInt = (-1 : Int32).toInt := fun z9 => c21 (i_eq.mpr z9)
      exact absurd b21 (by omega)
    · have b21 : v2.toInt = (-1 : Int32).toInt := i_eq.mp c21
      refine lv_iconst (v := 0) hx hb dX6_readSees_14 (by decide) ?_
      exact retE_z hQ C S2 hr dX6_readSees_15 (z01 (by omega) (by omega)) (⟨⟨by omega, fun _ h9 => tk2 h9⟩, RsP.no (s1 := sg) (by simp [seeF, w2, y2]) (by omega) wr2, fun q hq _ => S2.2.1.fI hq rfl (by decide) (by decide +kernel)⟩)
  · exact absurd hw0 (by rw [w2]; decide)

set_option maxRecDepth 100000 in
set_option maxHeartbeats 4000000 in
theorem c_X6_readHearth_f (l : Launch) (D : DD) (G : Nat → Nat) (a0 : Nat) (dd : Nat) (sg : Sg) (tp : Nat) (T : Tx) (b : Nat) (ga0 : G a0 = 20) : CE l D G yX6_readHearth cX6_readHearth 2 (some .boolean) 7 [.ref a0] (fun H => (G (fR D H 6 a0 2) = 23) ∧ (fR D H 6 a0 0 = tp ∧ TS D H tp T b ∧ fR D H 6 a0 2 = dd ∧ DS D H dd ∧ SV (pv D H dd) sg)) [(2, 3), (2, 4), (2, 5), (2, 6), (2, 2), (25, 0), (25, 1), (25, 2), (25, 3), (25, 4), (25, 5), (23, 4)] (xI (fun H r H1 => ((0 ≤ r.toInt ∧ r.toInt ≤ 1) ∧ (r.toInt = 1 → Gd D G H → Gd D G H1)) ∧ (RsP D H1 tp dd T (heaF T sg b) r) ∧ (FH D G H H1 dd))) := by
  refine enter (by decide) (Nat.le_of_ble_eq_true rfl) ?_
  intro p e s m args below meth c ls Q hA hQ C hr hO hpre hl
  have hx := C.1
  have hb := C.2.1
  have S : Sd D G [(2, 3), (2, 4), (2, 5), (2, 6), (2, 2), (25, 0), (25, 1), (25, 2), (25, 3), (25, 4), (25, 5), (23, 4)] s.heap s.heap [] := Sd.start hO
  have hl : lv_has ls 2 [(0, .ref a0)] := hl
  obtain ⟨hpre, hf⟩ := hpre
  obtain ⟨htp, ts0, hdd, ds0, dv0⟩ := hf
  have gtp : G tp = 2 := by rw [← htp]; exact hO.rol ga0 rfl (by decide) rfl
  have gdd : G dd = 23 := by rw [← hdd]; exact hpre
  have hT : T.2 ≤ 400 := ts0.le hO gtp
  have ct0 : (fI D s.heap 5 dd 4).toInt = sg 1 := dv_1 dv0
  have tk0 : Gd D G s.heap → Gd D G s.heap := fun h => h
  refine lv_aload_n hx hb dX6_readHearth_0 rfl (lv_at hl 0 rfl) ?_
  refine q_grD (T := TX6) C S.1 ga0 2 kF_X6_11 dX6_readHearth_1 rfl rfl (by decide) rfl (by decide) rfl (fun g1 => ?_)
  replace g1 : G (fR D s.heap 6 a0 2) = 23 := by rw [S.2.1.fR ga0 rfl (by decide) (by decide +kernel)]; exact hpre
  rw [show fR D s.heap 6 a0 2 = dd from hdd]
  refine q_gi (T := TX5) C S.1 gdd 4 kF_X6_90 dX6_readHearth_4 rfl rfl (by decide) rfl (by decide) rfl ?_
  have r2 : 0 ≤ (fI D s.heap 5 dd 4).toInt ∧ (fI D s.heap 5 dd 4).toInt ≤ 12 := S.1.rng gdd rfl (by decide) rfl
  refine lv_bipush (v := 12) hx hb dX6_readHearth_7 (by decide) ?_
  have k_12 : (12 : Int32).toInt = 12 := by decide
  refine lv_icmp_lt (tgt := 20) hx hb dX6_readHearth_9 (by decide) (fun c3 => ?_) (fun c3 => ?_)
  · have b3 : (fI D s.heap 5 dd 4).toInt < (12 : Int32).toInt := i_lt.mp c3
    have hc4 : ¬ sg 1 = 12 := by omega
    refine lv_aload_n hx hb dX6_readHearth_20 rfl (lv_at hl 0 rfl) ?_
    refine q_grD (T := TX6) C S.1 ga0 2 kF_X6_11 dX6_readHearth_21 rfl rfl (by decide) rfl (by decide) rfl (fun g5 => ?_)
    replace g5 : G (fR D s.heap 6 a0 2) = 23 := by rw [S.2.1.fR ga0 rfl (by decide) (by decide +kernel)]; exact hpre
    rw [show fR D s.heap 6 a0 2 = dd from hdd]
    refine q_gr (T := TX5) C S.1 gdd 1 kF_X6_93 dX6_readHearth_24 rfl rfl (by decide) rfl (by decide) rfl (fun g6 => ?_)
    refine lv_aload_n hx hb dX6_readHearth_27 rfl (lv_at hl 0 rfl) ?_
    refine q_grD (T := TX6) C S.1 ga0 2 kF_X6_11 dX6_readHearth_28 rfl rfl (by decide) rfl (by decide) rfl (fun g7 => ?_)
    replace g7 : G (fR D s.heap 6 a0 2) = 23 := by rw [S.2.1.fR ga0 rfl (by decide) (by decide +kernel)]; exact hpre
    rw [show fR D s.heap 6 a0 2 = dd from hdd]
    refine q_gi (T := TX5) C S.1 gdd 4 kF_X6_90 dX6_readHearth_31 rfl rfl (by decide) rfl (by decide) rfl ?_
    refine q_aald C S.1 g6 (by omega) (by omega) dX6_readHearth_34 rfl (by decide) rfl rfl (fun g8 => ?_)
    have bhs : ∀ q, G q = 25 → q ≠ (eR s.heap (fR D s.heap 5 dd 1) (fI D s.heap 5 dd 4).toInt.toNat) → fI D s.heap 1 q 0 = fI D s.heap 1 q 0 := fun _ _ _ => rfl
    refine lv_astore_n (lv' := [(1, .ref (eR s.heap (fR D s.heap 5 dd 1) (fI D s.heap 5 dd 4).toInt.toNat)), (0, .ref a0)]) hx hb dX6_readHearth_35 rfl hl (by decide) rfl (fun ls hl => ?_)
    refine lv_aload_n hx hb dX6_readHearth_36 rfl (lv_at hl 1 rfl) ?_
    refine q_grS (T := TX6) C S.1 ga0 0 kF_X6_15 dX6_readHearth_37 rfl rfl (by decide) rfl (by decide) kSF_X6_tape (fun g9 => ?_)
    rw [show fR D s.heap 6 a0 0 = tp from htp]
    refine callV_Ev C S (c_X9_next_f l D G tp T b gtp) kV_X6_81 gtp (⟨trivial, ts0⟩) (by decide +kernel) dX6_readHearth_40 hl.1 rfl rfl (by decide) cd_X9_next ⟨Nat.le_of_ble_eq_true rfl, Nat.le_of_ble_eq_true rfl, Nat.le_of_ble_eq_true rfl, Nat.le_of_ble_eq_true rfl, Nat.le_of_ble_eq_true rfl⟩ (fun H10 L10 S10 K10 q10 => ?_)
    obtain ⟨q10, fq10⟩ := q10
    have tk10 : Gd D G s.heap → Gd D G H10 := fun h9  => (tk0 h9).keep K10 (by decide +kernel)
    have dv10 := dv_keep dv0 S.1 (Or.inr gdd) K10
    have ct10 : (fI D H10 5 dd 4).toInt = sg 1 := by rw [K10.fI gdd rfl (by decide) (by decide +kernel)]; exact ct0
    have bh10 : ∀ q, G q = 25 → q ≠ (eR s.heap (fR D s.heap 5 dd 1) (fI D s.heap 5 dd 4).toInt.toNat) → fI D H10 1 q 0 = fI D s.heap 1 q 0 := fun q hq hn => (K10.fI hq rfl (by decide) (by decide +kernel)).trans (bhs q hq hn)
    refine lv_aload_n hx hb dX6_readHearth_43 rfl (lv_at hl 0 rfl) ?_
    refine lv_aload_n hx hb dX6_readHearth_44 rfl (lv_at hl 1 rfl) ?_
    refine callV_Pi C S10.1 S10.2.1.2.1 (c_X6_presentKind_f l D G a0 tp T (nx T b) ga0) kV_X6_97 ga0 (⟨trivial, ⟨(S10.2.1.fR ga0 rfl (by decide) (by decide +kernel)).trans htp, fq10⟩⟩) dX6_readHearth_45 hl.1 rfl rfl (by decide) cd_X6_presentKind ⟨Nat.le_of_ble_eq_true rfl, Nat.le_of_ble_eq_true rfl, Nat.le_of_ble_eq_true rfl, Nat.le_of_ble_eq_true rfl, Nat.le_of_ble_eq_true rfl⟩ (fun v11 q11 => ?_)
    obtain ⟨q11, fq11⟩ := q11
    refine q_put (T := TX1) C S10 g8 1 kF_X6_101 dX6_readHearth_48 rfl rfl (by decide) (by decide) rfl rfl rfl rfl rfl (vok_a rfl) (by decide +kernel) (fun H12 L12 S12 P12 => ?_)
    have tk12 : Gd D G s.heap → Gd D G H12 := fun h9  => (tk10 h9).put g8 P12 (Or.inr ⟨rfl, by decide, by decide⟩)
    have ts12 := fq10.cells S10.1 gtp g8 (by decide) (by decide) P12.2.2.1
    have dv12 := dv_keep dv10 S10.1 (Or.inr gdd) (Pt.keep g8 rfl (by decide) P12)
    have ct12 : (fI D H12 5 dd 4).toInt = sg 1 := by rw [Pt.f P12 (ne_role gdd g8 (by decide))]; exact ct10
    have bh12 : ∀ q, G q = 25 → q ≠ (eR s.heap (fR D s.heap 5 dd 1) (fI D s.heap 5 dd 4).toInt.toNat) → fI D H12 1 q 0 = fI D s.heap 1 q 0 := fun q hq hn => (Pt.any P12 (by decide) (by decide) q).trans (bh10 q hq hn)
    refine lv_aload_n hx hb dX6_readHearth_51 rfl (lv_at hl 0 rfl) ?_
    refine q_gi (T := TX1) C S12.1 g8 1 kF_X6_101 dX6_readHearth_52 rfl rfl (by decide) rfl (by decide) rfl ?_
    have c13 : (fI D H12 1 (eR s.heap (fR D s.heap 5 dd 1) (fI D s.heap 5 dd 4).toInt.toNat) 1).toInt = v11.toInt := by rw [Pt.i P12]
    refine lv_iconst (v := -1) hx hb dX6_readHearth_55 (by decide) ?_
    have k_m1 : (-1 : Int32).toInt = -1 := by decide
    refine lv_icmp_ne (tgt := 67) hx hb dX6_readHearth_56 (by decide) (fun c14 => ?_) (fun c14 => ?_)
    · have b14 : ¬ (fI D H12 1 (eR s.heap (fR D s.heap 5 dd 1) (fI D s.heap 5 dd 4).toInt.toNat) 1).toInt = (-1 : Int32).toInt := fun z9 => c14 (i_eq.mpr z9)
      have hk15 : ¬ kin T (nx T b) = -1 := by omega
      refine lv_aload_n hx hb dX6_readHearth_67 rfl (lv_at hl 1 rfl) ?_
      refine q_grS (T := TX6) C S12.1 ga0 0 kF_X6_15 dX6_readHearth_68 rfl rfl (by decide) rfl (by decide) kSF_X6_tape (fun g16 => ?_)
      rw [show fR D H12 6 a0 0 = tp from (S12.2.1.fR ga0 rfl (by decide) (by decide +kernel)).trans htp]
      refine callV_Ev C S12 (c_X9_next_f l D G tp T (nx T b) gtp) kV_X6_81 gtp (⟨trivial, ts12⟩) (by decide +kernel) dX6_readHearth_71 hl.1 rfl rfl (by decide) cd_X9_next ⟨Nat.le_of_ble_eq_true rfl, Nat.le_of_ble_eq_true rfl, Nat.le_of_ble_eq_true rfl, Nat.le_of_ble_eq_true rfl, Nat.le_of_ble_eq_true rfl⟩ (fun H17 L17 S17 K17 q17 => ?_)
      obtain ⟨q17, fq17⟩ := q17
      have tk17 : Gd D G s.heap → Gd D G H17 := fun h9  => (tk12 h9).keep K17 (by decide +kernel)
      have dv17 := dv_keep dv12 S12.1 (Or.inr gdd) K17
      have ct17 : (fI D H17 5 dd 4).toInt = sg 1 := by rw [K17.fI gdd rfl (by decide) (by decide +kernel)]; exact ct12
      have bh17 : ∀ q, G q = 25 → q ≠ (eR s.heap (fR D s.heap 5 dd 1) (fI D s.heap 5 dd 4).toInt.toNat) → fI D H17 1 q 0 = fI D s.heap 1 q 0 := fun q hq hn => (K17.fI hq rfl (by decide) (by decide +kernel)).trans (bh12 q hq hn)
      refine lv_aload_n hx hb dX6_readHearth_74 rfl (lv_at hl 1 rfl) ?_
      refine q_grS (T := TX6) C S17.1 ga0 0 kF_X6_15 dX6_readHearth_75 rfl rfl (by decide) rfl (by decide) kSF_X6_tape (fun g18 => ?_)
      rw [show fR D H17 6 a0 0 = tp from (S17.2.1.fR ga0 rfl (by decide) (by decide +kernel)).trans htp]
      refine q_lds C ks_X6_106 dX6_readHearth_78 (fun a19 ha19 wa19 => ?_)
      refine callV_Ei C S17 (c_X9_takeWord_f l D G tp a19 2 w_of T (nx T (nx T b)) gtp ha19 (Wc.of wa19 kw_of)) kV_X6_108 gtp (⟨trivial, fq17⟩) (by decide +kernel) dX6_readHearth_80 hl.1 rfl rfl (by decide) cd_X9_takeWord ⟨Nat.le_of_ble_eq_true rfl, Nat.le_of_ble_eq_true rfl, Nat.le_of_ble_eq_true rfl, Nat.le_of_ble_eq_true rfl, Nat.le_of_ble_eq_true rfl⟩ (fun v20 H20 L20 S20 K20 q20 => ?_)
      obtain ⟨q20, fq20⟩ := q20
      have tk20 : Gd D G s.heap → Gd D G H20 := fun h9  => (tk17 h9).keep K20 (by decide +kernel)
      have dv20 := dv_keep dv17 S17.1 (Or.inr gdd) K20
      have ct20 : (fI D H20 5 dd 4).toInt = sg 1 := by rw [K20.fI gdd rfl (by decide) (by decide +kernel)]; exact ct17
      have bh20 : ∀ q, G q = 25 → q ≠ (eR s.heap (fR D s.heap 5 dd 1) (fI D s.heap 5 dd 4).toInt.toNat) → fI D H20 1 q 0 = fI D s.heap 1 q 0 := fun q hq hn => (K20.fI hq rfl (by decide) (by decide +kernel)).trans (bh17 q hq hn)
      rcases fq20 with ⟨c20, y20, z20, ts20⟩ | ⟨e20, y20, z20, wr20⟩
      · obtain ⟨w20, rfl⟩ := tkW_t y20
        have k_0 : (0 : Int32).toInt = 0 := by decide
        refine lv_if_ne (tgt := 88) hx hb dX6_readHearth_83 (by decide) (fun c21 => ?_) (fun c21 => ?_)
        · have b21 : ¬ v20.toInt = (0 : Int32).toInt := fun z9 => c21 (i_eq.mpr z9)
          refine lv_aload_n hx hb dX6_readHearth_88 rfl (lv_at hl 0 rfl) ?_
          refine lv_aload_n hx hb dX6_readHearth_89 rfl (lv_at hl 1 rfl) ?_
          refine callV_Ei C S20 (c_X6_roomyHouse_f l D G a0 dd sg tp T (nx T (nx T (nx T b))) ga0) kV_X6_111 ga0 (⟨by rw [S20.2.1.fR ga0 rfl (by decide) (by decide +kernel)]; exact hpre, (S20.2.1.fR ga0 rfl (by decide) (by decide +kernel)).trans htp, ts20, (S20.2.1.fR ga0 rfl (by decide) (by decide +kernel)).trans hdd, (ds0.keep hO (Or.inr gdd) S20.2.1 (by decide +kernel)), dv20⟩) (by decide +kernel) dX6_readHearth_90 hl.1 rfl rfl (by decide) cd_X6_roomyHouse ⟨Nat.le_of_ble_eq_true rfl, Nat.le_of_ble_eq_true rfl, Nat.le_of_ble_eq_true rfl, Nat.le_of_ble_eq_true rfl, Nat.le_of_ble_eq_true rfl⟩ (fun v22 H22 L22 S22 K22 q22 => ?_)
          obtain ⟨q22, fq22⟩ := q22
          have tk22 : Gd D G s.heap → Gd D G H22 := fun h9  => (tk20 h9).keep K22 (by decide +kernel)
          have dv22 := dv_keep dv20 S20.1 (Or.inr gdd) K22
          have ct22 : (fI D H22 5 dd 4).toInt = sg 1 := by rw [K22.fI gdd rfl (by decide) (by decide +kernel)]; exact ct20
          have bh22 : ∀ q, G q = 25 → q ≠ (eR s.heap (fR D s.heap 5 dd 1) (fI D s.heap 5 dd 4).toInt.toNat) → fI D H22 1 q 0 = fI D s.heap 1 q 0 := fun q hq hn => (K22.fI hq rfl (by decide) (by decide +kernel)).trans (bh20 q hq hn)
          rcases fq22 with ⟨y22, w22, z22, ts22⟩ | ⟨y22, z22, wr22⟩
          · have u22 : 0 ≤ v22.toInt := by have z9 := num_r (T := T) (b := (nx T (nx T (nx T b)))) (lo := 0) (hi := sg 0 - 1) (by decide); omega
            refine q_put (T := TX1) C S22 g8 0 kF_X6_114 dX6_readHearth_93 rfl rfl (by decide) (by decide) rfl rfl rfl rfl rfl (vok_i rfl (by omega) (by omega)) (by decide +kernel) (fun H23 L23 S23 P23 => ?_)
            have tk23 : Gd D G s.heap → (0 ≤ v22.toInt ∧ v22.toInt ≤ 5) → Gd D G H23 := fun h9 k90 => Gd.put0 (fun b9 hb9 _ => (tk22 h9) b9 hb9) P23 k90
            have ts23 := ts22.cells S22.1 gtp g8 (by decide) (by decide) P23.2.2.1
            have ct23 : (fI D H23 5 dd 4).toInt = sg 1 := by rw [Pt.f P23 (ne_role gdd g8 (by decide))]; exact ct22
            have bh23 : ∀ q, G q = 25 → q ≠ (eR s.heap (fR D s.heap 5 dd 1) (fI D s.heap 5 dd 4).toInt.toNat) → fI D H23 1 q 0 = fI D s.heap 1 q 0 := fun q hq hn => (Pt.f P23 hn).trans (bh22 q hq hn)
            have bv23 : fI D H23 1 (eR s.heap (fR D s.heap 5 dd 1) (fI D s.heap 5 dd 4).toInt.toNat) 0 = v22 := Pt.i P23
            refine lv_aload_n hx hb dX6_readHearth_96 rfl (lv_at hl 0 rfl) ?_
            refine q_gi (T := TX1) C S23.1 g8 0 kF_X6_114 dX6_readHearth_97 rfl rfl (by decide) rfl (by decide) rfl ?_
            have c24 : (fI D H23 1 (eR s.heap (fR D s.heap 5 dd 1) (fI D s.heap 5 dd 4).toInt.toNat) 0).toInt = v22.toInt := by rw [Pt.i P23]
            have r25 : -1 ≤ (fI D H23 1 (eR s.heap (fR D s.heap 5 dd 1) (fI D s.heap 5 dd 4).toInt.toNat) 0).toInt ∧ (fI D H23 1 (eR s.heap (fR D s.heap 5 dd 1) (fI D s.heap 5 dd 4).toInt.toNat) 0).toInt ≤ 5 := S23.1.rng g8 rfl (by decide) rfl
            refine lv_iconst (v := -1) hx hb dX6_readHearth_100 (by decide) ?_
            refine lv_icmp_ne (tgt := 106) hx hb dX6_readHearth_101 (by decide) (fun c26 => ?_) (fun c26 => ?_)
            · have b26 : ¬ (fI D H23 1 (eR s.heap (fR D s.heap 5 dd 1) (fI D s.heap 5 dd 4).toInt.toNat) 0).toInt = (-1 : Int32).toInt := fun z9 => c26 (i_eq.mpr z9)
              refine lv_aload_n hx hb dX6_readHearth_106 rfl (lv_at hl 0 rfl) ?_
              refine lv_aload_n hx hb dX6_readHearth_107 rfl (lv_at hl 1 rfl) ?_
              refine q_lds C ks_X6_116 dX6_readHearth_108 (fun a27 ha27 wa27 => ?_)
              refine lv_iconst (v := 0) hx hb dX6_readHearth_110 (by decide) ?_
              refine lv_bipush (v := 9) hx hb dX6_readHearth_111 (by decide) ?_
              have k_9 : (9 : Int32).toInt = 9 := by decide
              refine callV_Ei C S23 (c_X6_numberAfter_f l D G a0 a27 4 (0 : Int32) (9 : Int32) w_flue 0 9 tp T (nx T (nx T (nx T (nx T b)))) ga0 ha27 (by omega) (Wc.of wa27 kw_flue) (by omega) (by omega)) kV_X6_57 ga0 (⟨trivial, ⟨(S23.2.1.fR ga0 rfl (by decide) (by decide +kernel)).trans htp, ts23⟩⟩) (by decide +kernel) dX6_readHearth_113 hl.1 rfl rfl (by decide) cd_X6_numberAfter ⟨Nat.le_of_ble_eq_true rfl, Nat.le_of_ble_eq_true rfl, Nat.le_of_ble_eq_true rfl, Nat.le_of_ble_eq_true rfl, Nat.le_of_ble_eq_true rfl⟩ (fun v28 H28 L28 S28 K28 q28 => ?_)
              obtain ⟨q28, fq28⟩ := q28
              have tk28 : Gd D G s.heap → (0 ≤ v22.toInt ∧ v22.toInt ≤ 5) → Gd D G H28 := fun h9 k90 => (tk23 h9 k90).keep K28 (by decide +kernel)
              have ct28 : (fI D H28 5 dd 4).toInt = sg 1 := by rw [K28.fI gdd rfl (by decide) (by decide +kernel)]; exact ct23
              have bh28 : ∀ q, G q = 25 → q ≠ (eR s.heap (fR D s.heap 5 dd 1) (fI D s.heap 5 dd 4).toInt.toNat) → fI D H28 1 q 0 = fI D s.heap 1 q 0 := fun q hq hn => (K28.fI hq rfl (by decide) (by decide +kernel)).trans (bh23 q hq hn)
              have bv28 : fI D H28 1 (eR s.heap (fR D s.heap 5 dd 1) (fI D s.heap 5 dd 4).toInt.toNat) 0 = v22 := (K28.fI g8 rfl (by decide) (by decide +kernel)).trans bv23
              rcases fq28 with ⟨w28, y28, z28, ts28⟩ | ⟨w28, y28, z28, wr28⟩ | ⟨w28, z28, wr28⟩
              · have u28 : 0 ≤ v28.toInt ∧ v28.toInt ≤ 9 := by have z9 := num_r (T := T) (b := nx T (nx T (nx T (nx T (nx T b))))) (lo := 0) (hi := 9) (by decide); omega
                refine q_put (T := TX1) C S28 g8 2 kF_X6_118 dX6_readHearth_116 rfl rfl (by decide) (by decide) rfl rfl rfl rfl rfl (vok_a rfl) (by decide +kernel) (fun H29 L29 S29 P29 => ?_)
                have tk29 : Gd D G s.heap → (0 ≤ v22.toInt ∧ v22.toInt ≤ 5) → Gd D G H29 := fun h9 k90 => (tk28 h9 k90).put g8 P29 (Or.inr ⟨rfl, by decide, by decide⟩)
                have ts29 := ts28.cells S28.1 gtp g8 (by decide) (by decide) P29.2.2.1
                have ct29 : (fI D H29 5 dd 4).toInt = sg 1 := by rw [Pt.f P29 (ne_role gdd g8 (by decide))]; exact ct28
                have bh29 : ∀ q, G q = 25 → q ≠ (eR s.heap (fR D s.heap 5 dd 1) (fI D s.heap 5 dd 4).toInt.toNat) → fI D H29 1 q 0 = fI D s.heap 1 q 0 := fun q hq hn => (Pt.any P29 (by decide) (by decide) q).trans (bh28 q hq hn)
                have bv29 : fI D H29 1 (eR s.heap (fR D s.heap 5 dd 1) (fI D s.heap 5 dd 4).toInt.toNat) 0 = v22 := (Pt.any P29 (by decide) (by decide) _).trans bv28
                refine lv_aload_n hx hb dX6_readHearth_119 rfl (lv_at hl 0 rfl) ?_
                refine q_gi (T := TX1) C S29.1 g8 2 kF_X6_118 dX6_readHearth_120 rfl rfl (by decide) rfl (by decide) rfl ?_
                have c30 : (fI D H29 1 (eR s.heap (fR D s.heap 5 dd 1) (fI D s.heap 5 dd 4).toInt.toNat) 2).toInt = v28.toInt := by rw [Pt.i P29]
                refine lv_iconst (v := -1) hx hb dX6_readHearth_123 (by decide) ?_
                refine lv_icmp_ne (tgt := 129) hx hb dX6_readHearth_124 (by decide) (fun c31 => ?_) (fun c31 => ?_)
                · have b31 : ¬ (fI D H29 1 (eR s.heap (fR D s.heap 5 dd 1) (fI D s.heap 5 dd 4).toInt.toNat) 2).toInt = (-1 : Int32).toInt := fun z9 => c31 (i_eq.mpr z9)
                  refine lv_aload_n hx hb dX6_readHearth_129 rfl (lv_at hl 0 rfl) ?_
                  refine lv_aload_n hx hb dX6_readHearth_130 rfl (lv_at hl 1 rfl) ?_
                  refine q_lds C ks_X6_120 dX6_readHearth_131 (fun a32 ha32 wa32 => ?_)
                  refine lv_iconst (v := 1) hx hb dX6_readHearth_133 (by decide) ?_
                  refine lv_bipush (v := 9) hx hb dX6_readHearth_134 (by decide) ?_
                  have k_1 : (1 : Int32).toInt = 1 := by decide
                  refine callV_Ei C S29 (c_X6_numberAfter_f l D G a0 a32 4 (1 : Int32) (9 : Int32) w_warm 1 9 tp T (nx T (nx T (nx T (nx T (nx T (nx T b)))))) ga0 ha32 (by omega) (Wc.of wa32 kw_warm) (by omega) (by omega)) kV_X6_57 ga0 (⟨trivial, ⟨(S29.2.1.fR ga0 rfl (by decide) (by decide +kernel)).trans htp, ts29⟩⟩) (by decide +kernel) dX6_readHearth_136 hl.1 rfl rfl (by decide) cd_X6_numberAfter ⟨Nat.le_of_ble_eq_true rfl, Nat.le_of_ble_eq_true rfl, Nat.le_of_ble_eq_true rfl, Nat.le_of_ble_eq_true rfl, Nat.le_of_ble_eq_true rfl⟩ (fun v33 H33 L33 S33 K33 q33 => ?_)
                  obtain ⟨q33, fq33⟩ := q33
                  have tk33 : Gd D G s.heap → (0 ≤ v22.toInt ∧ v22.toInt ≤ 5) → Gd D G H33 := fun h9 k90 => (tk29 h9 k90).keep K33 (by decide +kernel)
                  have ct33 : (fI D H33 5 dd 4).toInt = sg 1 := by rw [K33.fI gdd rfl (by decide) (by decide +kernel)]; exact ct29
                  have bh33 : ∀ q, G q = 25 → q ≠ (eR s.heap (fR D s.heap 5 dd 1) (fI D s.heap 5 dd 4).toInt.toNat) → fI D H33 1 q 0 = fI D s.heap 1 q 0 := fun q hq hn => (K33.fI hq rfl (by decide) (by decide +kernel)).trans (bh29 q hq hn)
                  have bv33 : fI D H33 1 (eR s.heap (fR D s.heap 5 dd 1) (fI D s.heap 5 dd 4).toInt.toNat) 0 = v22 := (K33.fI g8 rfl (by decide) (by decide +kernel)).trans bv29
                  rcases fq33 with ⟨w33, y33, z33, ts33⟩ | ⟨w33, y33, z33, wr33⟩ | ⟨w33, z33, wr33⟩
                  · have u33 : 1 ≤ v33.toInt ∧ v33.toInt ≤ 9 := by have z9 := num_r (T := T) (b := nx T (nx T (nx T (nx T (nx T (nx T (nx T b))))))) (lo := 1) (hi := 9) (by decide); omega
                    refine q_put (T := TX1) C S33 g8 3 kF_X6_122 dX6_readHearth_139 rfl rfl (by decide) (by decide) rfl rfl rfl rfl rfl (vok_a rfl) (by decide +kernel) (fun H34 L34 S34 P34 => ?_)
                    have tk34 : Gd D G s.heap → (0 ≤ v22.toInt ∧ v22.toInt ≤ 5) → Gd D G H34 := fun h9 k90 => (tk33 h9 k90).put g8 P34 (Or.inr ⟨rfl, by decide, by decide⟩)
                    have ts34 := ts33.cells S33.1 gtp g8 (by decide) (by decide) P34.2.2.1
                    have ct34 : (fI D H34 5 dd 4).toInt = sg 1 := by rw [Pt.f P34 (ne_role gdd g8 (by decide))]; exact ct33
                    have bh34 : ∀ q, G q = 25 → q ≠ (eR s.heap (fR D s.heap 5 dd 1) (fI D s.heap 5 dd 4).toInt.toNat) → fI D H34 1 q 0 = fI D s.heap 1 q 0 := fun q hq hn => (Pt.any P34 (by decide) (by decide) q).trans (bh33 q hq hn)
                    have bv34 : fI D H34 1 (eR s.heap (fR D s.heap 5 dd 1) (fI D s.heap 5 dd 4).toInt.toNat) 0 = v22 := (Pt.any P34 (by decide) (by decide) _).trans bv33
                    refine lv_aload_n hx hb dX6_readHearth_142 rfl (lv_at hl 0 rfl) ?_
                    refine q_gi (T := TX1) C S34.1 g8 3 kF_X6_122 dX6_readHearth_143 rfl rfl (by decide) rfl (by decide) rfl ?_
                    have c35 : (fI D H34 1 (eR s.heap (fR D s.heap 5 dd 1) (fI D s.heap 5 dd 4).toInt.toNat) 3).toInt = v33.toInt := by rw [Pt.i P34]
                    refine lv_iconst (v := -1) hx hb dX6_readHearth_146 (by decide) ?_
                    refine lv_icmp_ne (tgt := 152) hx hb dX6_readHearth_147 (by decide) (fun c36 => ?_) (fun c36 => ?_)
                    · have b36 : ¬ (fI D H34 1 (eR s.heap (fR D s.heap 5 dd 1) (fI D s.heap 5 dd 4).toInt.toNat) 3).toInt = (-1 : Int32).toInt := fun z9 => c36 (i_eq.mpr z9)
                      refine lv_aload_n hx hb dX6_readHearth_152 rfl (lv_at hl 0 rfl) ?_
                      refine lv_aload_n hx hb dX6_readHearth_153 rfl (lv_at hl 1 rfl) ?_
                      refine q_lds C ks_X6_124 dX6_readHearth_154 (fun a37 ha37 wa37 => ?_)
                      refine lv_iconst (v := 1) hx hb dX6_readHearth_156 (by decide) ?_
                      refine lv_bipush (v := 30) hx hb dX6_readHearth_157 (by decide) ?_
                      have k_30 : (30 : Int32).toInt = 30 := by decide
                      refine callV_Ei C S34 (c_X6_numberAfter_f l D G a0 a37 4 (1 : Int32) (30 : Int32) w_wall 1 30 tp T (nx T (nx T (nx T (nx T (nx T (nx T (nx T (nx T b)))))))) ga0 ha37 (by omega) (Wc.of wa37 kw_wall) (by omega) (by omega)) kV_X6_57 ga0 (⟨trivial, ⟨(S34.2.1.fR ga0 rfl (by decide) (by decide +kernel)).trans htp, ts34⟩⟩) (by decide +kernel) dX6_readHearth_159 hl.1 rfl rfl (by decide) cd_X6_numberAfter ⟨Nat.le_of_ble_eq_true rfl, Nat.le_of_ble_eq_true rfl, Nat.le_of_ble_eq_true rfl, Nat.le_of_ble_eq_true rfl, Nat.le_of_ble_eq_true rfl⟩ (fun v38 H38 L38 S38 K38 q38 => ?_)
                      obtain ⟨q38, fq38⟩ := q38
                      have tk38 : Gd D G s.heap → (0 ≤ v22.toInt ∧ v22.toInt ≤ 5) → Gd D G H38 := fun h9 k90 => (tk34 h9 k90).keep K38 (by decide +kernel)
                      have ct38 : (fI D H38 5 dd 4).toInt = sg 1 := by rw [K38.fI gdd rfl (by decide) (by decide +kernel)]; exact ct34
                      have bh38 : ∀ q, G q = 25 → q ≠ (eR s.heap (fR D s.heap 5 dd 1) (fI D s.heap 5 dd 4).toInt.toNat) → fI D H38 1 q 0 = fI D s.heap 1 q 0 := fun q hq hn => (K38.fI hq rfl (by decide) (by decide +kernel)).trans (bh34 q hq hn)
                      have bv38 : fI D H38 1 (eR s.heap (fR D s.heap 5 dd 1) (fI D s.heap 5 dd 4).toInt.toNat) 0 = v22 := (K38.fI g8 rfl (by decide) (by decide +kernel)).trans bv34
                      rcases fq38 with ⟨w38, y38, z38, ts38⟩ | ⟨w38, y38, z38, wr38⟩ | ⟨w38, z38, wr38⟩
                      · have u38 : 1 ≤ v38.toInt ∧ v38.toInt ≤ 30 := by have z9 := num_r (T := T) (b := nx T (nx T (nx T (nx T (nx T (nx T (nx T (nx T (nx T b))))))))) (lo := 1) (hi := 30) (by decide); omega
                        refine q_put (T := TX1) C S38 g8 4 kF_X6_126 dX6_readHearth_162 rfl rfl (by decide) (by decide) rfl rfl rfl rfl rfl (vok_a rfl) (by decide +kernel) (fun H39 L39 S39 P39 => ?_)
                        have tk39 : Gd D G s.heap → (0 ≤ v22.toInt ∧ v22.toInt ≤ 5) → Gd D G H39 := fun h9 k90 => (tk38 h9 k90).put g8 P39 (Or.inr ⟨rfl, by decide, by decide⟩)
                        have ts39 := ts38.cells S38.1 gtp g8 (by decide) (by decide) P39.2.2.1
                        have ct39 : (fI D H39 5 dd 4).toInt = sg 1 := by rw [Pt.f P39 (ne_role gdd g8 (by decide))]; exact ct38
                        have bh39 : ∀ q, G q = 25 → q ≠ (eR s.heap (fR D s.heap 5 dd 1) (fI D s.heap 5 dd 4).toInt.toNat) → fI D H39 1 q 0 = fI D s.heap 1 q 0 := fun q hq hn => (Pt.any P39 (by decide) (by decide) q).trans (bh38 q hq hn)
                        have bv39 : fI D H39 1 (eR s.heap (fR D s.heap 5 dd 1) (fI D s.heap 5 dd 4).toInt.toNat) 0 = v22 := (Pt.any P39 (by decide) (by decide) _).trans bv38
                        refine lv_aload_n hx hb dX6_readHearth_165 rfl (lv_at hl 0 rfl) ?_
                        refine q_gi (T := TX1) C S39.1 g8 4 kF_X6_126 dX6_readHearth_166 rfl rfl (by decide) rfl (by decide) rfl ?_
                        have c40 : (fI D H39 1 (eR s.heap (fR D s.heap 5 dd 1) (fI D s.heap 5 dd 4).toInt.toNat) 4).toInt = v38.toInt := by rw [Pt.i P39]
                        refine lv_iconst (v := -1) hx hb dX6_readHearth_169 (by decide) ?_
                        refine lv_icmp_ne (tgt := 175) hx hb dX6_readHearth_170 (by decide) (fun c41 => ?_) (fun c41 => ?_)
                        · have b41 : ¬ (fI D H39 1 (eR s.heap (fR D s.heap 5 dd 1) (fI D s.heap 5 dd 4).toInt.toNat) 4).toInt = (-1 : Int32).toInt := fun z9 => c41 (i_eq.mpr z9)
                          refine lv_aload_n hx hb dX6_readHearth_175 rfl (lv_at hl 0 rfl) ?_
                          refine lv_iconst (v := 0) hx hb dX6_readHearth_176 (by decide) ?_
                          refine q_put (T := TX1) C S39 g8 5 kF_X6_128 dX6_readHearth_177 rfl rfl (by decide) (by decide) rfl rfl rfl rfl rfl (vok_a rfl) (by decide +kernel) (fun H42 L42 S42 P42 => ?_)
                          have tk42 : Gd D G s.heap → (0 ≤ v22.toInt ∧ v22.toInt ≤ 5) → Gd D G H42 := fun h9 k90 => (tk39 h9 k90).put g8 P42 (Or.inr ⟨rfl, by decide, by decide⟩)
                          have ts42 := ts39.cells S39.1 gtp g8 (by decide) (by decide) P42.2.2.1
                          have ct42 : (fI D H42 5 dd 4).toInt = sg 1 := by rw [Pt.f P42 (ne_role gdd g8 (by decide))]; exact ct39
                          have bh42 : ∀ q, G q = 25 → q ≠ (eR s.heap (fR D s.heap 5 dd 1) (fI D s.heap 5 dd 4).toInt.toNat) → fI D H42 1 q 0 = fI D s.heap 1 q 0 := fun q hq hn => (Pt.any P42 (by decide) (by decide) q).trans (bh39 q hq hn)
                          have bv42 : fI D H42 1 (eR s.heap (fR D s.heap 5 dd 1) (fI D s.heap 5 dd 4).toInt.toNat) 0 = v22 := (Pt.any P42 (by decide) (by decide) _).trans bv39
                          refine lv_aload_n hx hb dX6_readHearth_180 rfl (lv_at hl 1 rfl) ?_
                          refine q_grD (T := TX6) C S42.1 ga0 2 kF_X6_11 dX6_readHearth_181 rfl rfl (by decide) rfl (by decide) rfl (fun g43 => ?_)
                          replace g43 : G (fR D H42 6 a0 2) = 23 := by rw [S42.2.1.fR ga0 rfl (by decide) (by decide +kernel)]; exact hpre
                          rw [show fR D H42 6 a0 2 = dd from (S42.2.1.fR ga0 rfl (by decide) (by decide +kernel)).trans hdd]
                          refine lv_dup hx hb dX6_readHearth_184 rfl ?_
                          refine q_gi (T := TX5) C S42.1 gdd 4 kF_X6_90 dX6_readHearth_185 rfl rfl (by decide) rfl (by decide) rfl ?_
                          have c44 : (fI D H42 5 dd 4).toInt = (fI D s.heap 5 dd 4).toInt := by rw [Pt.f P42 (ne_role gdd g8 (by decide)), Pt.f P39 (ne_role gdd g8 (by decide)), K38.fI gdd rfl (by decide) (by decide +kernel), Pt.f P34 (ne_role gdd g8 (by decide)), K33.fI gdd rfl (by decide) (by decide +kernel), Pt.f P29 (ne_role gdd g8 (by decide)), K28.fI gdd rfl (by decide) (by decide +kernel), Pt.f P23 (ne_role gdd g8 (by decide)), K22.fI gdd rfl (by decide) (by decide +kernel), K20.fI gdd rfl (by decide) (by decide +kernel), K17.fI gdd rfl (by decide) (by decide +kernel), Pt.f P12 (ne_role gdd g8 (by decide)), K10.fI gdd rfl (by decide) (by decide +kernel)]
                          have r45 : 0 ≤ (fI D H42 5 dd 4).toInt ∧ (fI D H42 5 dd 4).toInt ≤ 12 := S42.1.rng gdd rfl (by decide) rfl
                          refine lv_iconst (v := 1) hx hb dX6_readHearth_188 (by decide) ?_
                          refine lv_iadd hx hb dX6_readHearth_189 ?_
                          refine lv_topi (fun v46 ev46 => ?_)
                          have f47 : v46.toInt = (fI D H42 5 dd 4).toInt + (1 : Int32).toInt := by rw [ev46]; exact i_add (by omega) (by omega)
                          refine q_put (T := TX5) C S42 gdd 4 kF_X6_90 dX6_readHearth_190 rfl rfl (by decide) (by decide) rfl rfl rfl rfl rfl (vok_i rfl (by omega) (by omega)) (by decide +kernel) (fun H48 L48 S48 P48 => ?_)
                          have tk48 : Gd D G s.heap → (0 ≤ v22.toInt ∧ v22.toInt ≤ 5) → Gd D G H48 := fun h9 k90 => (tk42 h9 k90).put gdd P48 (Or.inl (by decide))
                          have ts48 := ts42.cells S42.1 gtp gdd (by decide) (by decide) P48.2.2.1
                          have bh48 : ∀ q, G q = 25 → q ≠ (eR s.heap (fR D s.heap 5 dd 1) (fI D s.heap 5 dd 4).toInt.toNat) → fI D H48 1 q 0 = fI D s.heap 1 q 0 := fun q hq hn => (Pt.f P48 (ne_role hq gdd (by decide))).trans (bh42 q hq hn)
                          have bv48 : fI D H48 1 (eR s.heap (fR D s.heap 5 dd 1) (fI D s.heap 5 dd 4).toInt.toNat) 0 = v22 := (Pt.f P48 (ne_role g8 gdd (by decide))).trans bv42
                          refine lv_iconst (v := 1) hx hb dX6_readHearth_193 (by decide) ?_
                          exact retE_z hQ C S48 hr dX6_readHearth_194 (z01 (by omega) (by omega)) (⟨⟨by omega, fun _ h9 => tk48 h9 (by omega)⟩, RsP.ok (s1 := fup sg (num T (nx T (nx T (nx T b))) 0 (sg 0 - 1))) (by simp [heaF, heaO, hea1, hea2, hea3, hc4, hk15, w20, y22, w22, w28, y28, w33, y33, w38, y38]) (by omega) ts48 (DV.hearth (v := num T (nx T (nx T (nx T b))) 0 (sg 0 - 1)) dv0 hO gdd ds0 S48.2.1 (by rw [Pt.i P48]; omega) bh48 (by rw [bv48]; omega) (by unfold hsA; rw [show (sg 1).toNat = (fI D s.heap 5 dd 4).toInt.toNat by omega]) ⟨by omega, by omega⟩), fun q hq _ => S48.2.1.fI hq rfl (by decide) (by decide +kernel)⟩)
                        · have b41 : (fI D H39 1 (eR s.heap (fR D s.heap 5 dd 1) (fI D s.heap 5 dd 4).toInt.toNat) 4).toInt = (-1 : Int32).toInt := i_eq.mp c41
                          exact absurd b41 (by omega)
                      · skip
                        refine q_put (T := TX1) C S38 g8 4 kF_X6_126 dX6_readHearth_162 rfl rfl (by decide) (by decide) rfl rfl rfl rfl rfl (vok_a rfl) (by decide +kernel) (fun H49 L49 S49 P49 => ?_)
                        have tk49 : Gd D G s.heap → (0 ≤ v22.toInt ∧ v22.toInt ≤ 5) → Gd D G H49 := fun h9 k90 => (tk38 h9 k90).put g8 P49 (Or.inr ⟨rfl, by decide, by decide⟩)
                        have wr49 : (fI D H49 9 tp 2).toInt = (((nx T (nx T (nx T (nx T (nx T (nx T (nx T (nx T (nx T b))))))))) : Nat) : Int) := by rw [Pt.f P49 (ne_role gtp g8 (by decide))]; exact wr38
                        have ct49 : (fI D H49 5 dd 4).toInt = sg 1 := by rw [Pt.f P49 (ne_role gdd g8 (by decide))]; exact ct38
                        have bh49 : ∀ q, G q = 25 → q ≠ (eR s.heap (fR D s.heap 5 dd 1) (fI D s.heap 5 dd 4).toInt.toNat) → fI D H49 1 q 0 = fI D s.heap 1 q 0 := fun q hq hn => (Pt.any P49 (by decide) (by decide) q).trans (bh38 q hq hn)
                        have bv49 : fI D H49 1 (eR s.heap (fR D s.heap 5 dd 1) (fI D s.heap 5 dd 4).toInt.toNat) 0 = v22 := (Pt.any P49 (by decide) (by decide) _).trans bv38
                        refine lv_aload_n hx hb dX6_readHearth_165 rfl (lv_at hl 0 rfl) ?_
                        refine q_gi (T := TX1) C S49.1 g8 4 kF_X6_126 dX6_readHearth_166 rfl rfl (by decide) rfl (by decide) rfl ?_
                        have c50 : (fI D H49 1 (eR s.heap (fR D s.heap 5 dd 1) (fI D s.heap 5 dd 4).toInt.toNat) 4).toInt = v38.toInt := by rw [Pt.i P49]
                        refine lv_iconst (v := -1) hx hb dX6_readHearth_169 (by decide) ?_
                        refine lv_icmp_ne (tgt := 175) hx hb dX6_readHearth_170 (by decide) (fun c51 => ?_) (fun c51 => ?_)
                        · have b51 : ¬ (fI D H49 1 (eR s.heap (fR D s.heap 5 dd 1) (fI D s.heap 5 dd 4).toInt.toNat) 4).toInt = (-1 : Int32).toInt := fun z9 => c51 (i_eq.mpr z9)
                          exact absurd b51 (by omega)
                        · have b51 : (fI D H49 1 (eR s.heap (fR D s.heap 5 dd 1) (fI D s.heap 5 dd 4).toInt.toNat) 4).toInt = (-1 : Int32).toInt := i_eq.mp c51
                          refine lv_iconst (v := 0) hx hb dX6_readHearth_173 (by decide) ?_
                          exact retE_z hQ C S49 hr dX6_readHearth_174 (z01 (by omega) (by omega)) (⟨⟨by omega, fun h9 => absurd h9 (by decide)⟩, RsP.no (s1 := sg) (by simp [heaF, heaO, hea1, hea2, hea3, hc4, hk15, w20, y22, w22, w28, y28, w33, y33, w38, y38]) (by omega) wr49, fun q hq _ => S49.2.1.fI hq rfl (by decide) (by decide +kernel)⟩)
                      · skip
                        refine q_put (T := TX1) C S38 g8 4 kF_X6_126 dX6_readHearth_162 rfl rfl (by decide) (by decide) rfl rfl rfl rfl rfl (vok_a rfl) (by decide +kernel) (fun H52 L52 S52 P52 => ?_)
                        have tk52 : Gd D G s.heap → (0 ≤ v22.toInt ∧ v22.toInt ≤ 5) → Gd D G H52 := fun h9 k90 => (tk38 h9 k90).put g8 P52 (Or.inr ⟨rfl, by decide, by decide⟩)
                        have wr52 : (fI D H52 9 tp 2).toInt = (((nx T (nx T (nx T (nx T (nx T (nx T (nx T (nx T b)))))))) : Nat) : Int) := by rw [Pt.f P52 (ne_role gtp g8 (by decide))]; exact wr38
                        have ct52 : (fI D H52 5 dd 4).toInt = sg 1 := by rw [Pt.f P52 (ne_role gdd g8 (by decide))]; exact ct38
                        have bh52 : ∀ q, G q = 25 → q ≠ (eR s.heap (fR D s.heap 5 dd 1) (fI D s.heap 5 dd 4).toInt.toNat) → fI D H52 1 q 0 = fI D s.heap 1 q 0 := fun q hq hn => (Pt.any P52 (by decide) (by decide) q).trans (bh38 q hq hn)
                        have bv52 : fI D H52 1 (eR s.heap (fR D s.heap 5 dd 1) (fI D s.heap 5 dd 4).toInt.toNat) 0 = v22 := (Pt.any P52 (by decide) (by decide) _).trans bv38
                        refine lv_aload_n hx hb dX6_readHearth_165 rfl (lv_at hl 0 rfl) ?_
                        refine q_gi (T := TX1) C S52.1 g8 4 kF_X6_126 dX6_readHearth_166 rfl rfl (by decide) rfl (by decide) rfl ?_
                        have c53 : (fI D H52 1 (eR s.heap (fR D s.heap 5 dd 1) (fI D s.heap 5 dd 4).toInt.toNat) 4).toInt = v38.toInt := by rw [Pt.i P52]
                        refine lv_iconst (v := -1) hx hb dX6_readHearth_169 (by decide) ?_
                        refine lv_icmp_ne (tgt := 175) hx hb dX6_readHearth_170 (by decide) (fun c54 => ?_) (fun c54 => ?_)
                        · have b54 : ¬ (fI D H52 1 (eR s.heap (fR D s.heap 5 dd 1) (fI D s.heap 5 dd 4).toInt.toNat) 4).toInt = (-1 : Int32).toInt := fun z9 => c54 (i_eq.mpr z9)
                          exact absurd b54 (by omega)
                        · have b54 : (fI D H52 1 (eR s.heap (fR D s.heap 5 dd 1) (fI D s.heap 5 dd 4).toInt.toNat) 4).toInt = (-1 : Int32).toInt := i_eq.mp c54
                          refine lv_iconst (v := 0) hx hb dX6_readHearth_173 (by decide) ?_
                          exact retE_z hQ C S52 hr dX6_readHearth_174 (z01 (by omega) (by omega)) (⟨⟨by omega, fun h9 => absurd h9 (by decide)⟩, RsP.no (s1 := sg) (by simp [heaF, heaO, hea1, hea2, hea3, hc4, hk15, w20, y22, w22, w28, y28, w33, y33, w38]) (by omega) wr52, fun q hq _ => S52.2.1.fI hq rfl (by decide) (by decide +kernel)⟩)
                    · have b36 : (fI D H34 1 (eR s.heap (fR D s.heap 5 dd 1) (fI D s.heap 5 dd 4).toInt.toNat) 3).toInt = (-1 : Int32).toInt := i_eq.mp c36
                      exact absurd b36 (by omega)
                  · skip
                    refine q_put (T := TX1) C S33 g8 3 kF_X6_122 dX6_readHearth_139 rfl rfl (by decide) (by decide) rfl rfl rfl rfl rfl (vok_a rfl) (by decide +kernel) (fun H55 L55 S55 P55 => ?_)
                    have tk55 : Gd D G s.heap → (0 ≤ v22.toInt ∧ v22.toInt ≤ 5) → Gd D G H55 := fun h9 k90 => (tk33 h9 k90).put g8 P55 (Or.inr ⟨rfl, by decide, by decide⟩)
                    have wr55 : (fI D H55 9 tp 2).toInt = (((nx T (nx T (nx T (nx T (nx T (nx T (nx T b))))))) : Nat) : Int) := by rw [Pt.f P55 (ne_role gtp g8 (by decide))]; exact wr33
                    have ct55 : (fI D H55 5 dd 4).toInt = sg 1 := by rw [Pt.f P55 (ne_role gdd g8 (by decide))]; exact ct33
                    have bh55 : ∀ q, G q = 25 → q ≠ (eR s.heap (fR D s.heap 5 dd 1) (fI D s.heap 5 dd 4).toInt.toNat) → fI D H55 1 q 0 = fI D s.heap 1 q 0 := fun q hq hn => (Pt.any P55 (by decide) (by decide) q).trans (bh33 q hq hn)
                    have bv55 : fI D H55 1 (eR s.heap (fR D s.heap 5 dd 1) (fI D s.heap 5 dd 4).toInt.toNat) 0 = v22 := (Pt.any P55 (by decide) (by decide) _).trans bv33
                    refine lv_aload_n hx hb dX6_readHearth_142 rfl (lv_at hl 0 rfl) ?_
                    refine q_gi (T := TX1) C S55.1 g8 3 kF_X6_122 dX6_readHearth_143 rfl rfl (by decide) rfl (by decide) rfl ?_
                    have c56 : (fI D H55 1 (eR s.heap (fR D s.heap 5 dd 1) (fI D s.heap 5 dd 4).toInt.toNat) 3).toInt = v33.toInt := by rw [Pt.i P55]
                    refine lv_iconst (v := -1) hx hb dX6_readHearth_146 (by decide) ?_
                    refine lv_icmp_ne (tgt := 152) hx hb dX6_readHearth_147 (by decide) (fun c57 => ?_) (fun c57 => ?_)
                    · have b57 : ¬ (fI D H55 1 (eR s.heap (fR D s.heap 5 dd 1) (fI D s.heap 5 dd 4).toInt.toNat) 3).toInt = (-1 : Int32).toInt := fun z9 => c57 (i_eq.mpr z9)
                      exact absurd b57 (by omega)
                    · have b57 : (fI D H55 1 (eR s.heap (fR D s.heap 5 dd 1) (fI D s.heap 5 dd 4).toInt.toNat) 3).toInt = (-1 : Int32).toInt := i_eq.mp c57
                      refine lv_iconst (v := 0) hx hb dX6_readHearth_150 (by decide) ?_
                      exact retE_z hQ C S55 hr dX6_readHearth_151 (z01 (by omega) (by omega)) (⟨⟨by omega, fun h9 => absurd h9 (by decide)⟩, RsP.no (s1 := sg) (by simp [heaF, heaO, hea1, hea2, hea3, hc4, hk15, w20, y22, w22, w28, y28, w33, y33]) (by omega) wr55, fun q hq _ => S55.2.1.fI hq rfl (by decide) (by decide +kernel)⟩)
                  · skip
                    refine q_put (T := TX1) C S33 g8 3 kF_X6_122 dX6_readHearth_139 rfl rfl (by decide) (by decide) rfl rfl rfl rfl rfl (vok_a rfl) (by decide +kernel) (fun H58 L58 S58 P58 => ?_)
                    have tk58 : Gd D G s.heap → (0 ≤ v22.toInt ∧ v22.toInt ≤ 5) → Gd D G H58 := fun h9 k90 => (tk33 h9 k90).put g8 P58 (Or.inr ⟨rfl, by decide, by decide⟩)
                    have wr58 : (fI D H58 9 tp 2).toInt = (((nx T (nx T (nx T (nx T (nx T (nx T b)))))) : Nat) : Int) := by rw [Pt.f P58 (ne_role gtp g8 (by decide))]; exact wr33
                    have ct58 : (fI D H58 5 dd 4).toInt = sg 1 := by rw [Pt.f P58 (ne_role gdd g8 (by decide))]; exact ct33
                    have bh58 : ∀ q, G q = 25 → q ≠ (eR s.heap (fR D s.heap 5 dd 1) (fI D s.heap 5 dd 4).toInt.toNat) → fI D H58 1 q 0 = fI D s.heap 1 q 0 := fun q hq hn => (Pt.any P58 (by decide) (by decide) q).trans (bh33 q hq hn)
                    have bv58 : fI D H58 1 (eR s.heap (fR D s.heap 5 dd 1) (fI D s.heap 5 dd 4).toInt.toNat) 0 = v22 := (Pt.any P58 (by decide) (by decide) _).trans bv33
                    refine lv_aload_n hx hb dX6_readHearth_142 rfl (lv_at hl 0 rfl) ?_
                    refine q_gi (T := TX1) C S58.1 g8 3 kF_X6_122 dX6_readHearth_143 rfl rfl (by decide) rfl (by decide) rfl ?_
                    have c59 : (fI D H58 1 (eR s.heap (fR D s.heap 5 dd 1) (fI D s.heap 5 dd 4).toInt.toNat) 3).toInt = v33.toInt := by rw [Pt.i P58]
                    refine lv_iconst (v := -1) hx hb dX6_readHearth_146 (by decide) ?_
                    refine lv_icmp_ne (tgt := 152) hx hb dX6_readHearth_147 (by decide) (fun c60 => ?_) (fun c60 => ?_)
                    · have b60 : ¬ (fI D H58 1 (eR s.heap (fR D s.heap 5 dd 1) (fI D s.heap 5 dd 4).toInt.toNat) 3).toInt = (-1 : Int32).toInt := fun z9 => c60 (i_eq.mpr z9)
                      exact absurd b60 (by omega)
                    · have b60 : (fI D H58 1 (eR s.heap (fR D s.heap 5 dd 1) (fI D s.heap 5 dd 4).toInt.toNat) 3).toInt = (-1 : Int32).toInt := i_eq.mp c60
                      refine lv_iconst (v := 0) hx hb dX6_readHearth_150 (by decide) ?_
                      exact retE_z hQ C S58 hr dX6_readHearth_151 (z01 (by omega) (by omega)) (⟨⟨by omega, fun h9 => absurd h9 (by decide)⟩, RsP.no (s1 := sg) (by simp [heaF, heaO, hea1, hea2, hea3, hc4, hk15, w20, y22, w22, w28, y28, w33]) (by omega) wr58, fun q hq _ => S58.2.1.fI hq rfl (by decide) (by decide +kernel)⟩)
                · have b31 : (fI D H29 1 (eR s.heap (fR D s.heap 5 dd 1) (fI D s.heap 5 dd 4).toInt.toNat) 2).toInt = (-1 : Int32).toInt := i_eq.mp c31
                  exact absurd b31 (by omega)
              · skip
                refine q_put (T := TX1) C S28 g8 2 kF_X6_118 dX6_readHearth_116 rfl rfl (by decide) (by decide) rfl rfl rfl rfl rfl (vok_a rfl) (by decide +kernel) (fun H61 L61 S61 P61 => ?_)
                have tk61 : Gd D G s.heap → (0 ≤ v22.toInt ∧ v22.toInt ≤ 5) → Gd D G H61 := fun h9 k90 => (tk28 h9 k90).put g8 P61 (Or.inr ⟨rfl, by decide, by decide⟩)
                have wr61 : (fI D H61 9 tp 2).toInt = (((nx T (nx T (nx T (nx T (nx T b))))) : Nat) : Int) := by rw [Pt.f P61 (ne_role gtp g8 (by decide))]; exact wr28
                have ct61 : (fI D H61 5 dd 4).toInt = sg 1 := by rw [Pt.f P61 (ne_role gdd g8 (by decide))]; exact ct28
                have bh61 : ∀ q, G q = 25 → q ≠ (eR s.heap (fR D s.heap 5 dd 1) (fI D s.heap 5 dd 4).toInt.toNat) → fI D H61 1 q 0 = fI D s.heap 1 q 0 := fun q hq hn => (Pt.any P61 (by decide) (by decide) q).trans (bh28 q hq hn)
                have bv61 : fI D H61 1 (eR s.heap (fR D s.heap 5 dd 1) (fI D s.heap 5 dd 4).toInt.toNat) 0 = v22 := (Pt.any P61 (by decide) (by decide) _).trans bv28
                refine lv_aload_n hx hb dX6_readHearth_119 rfl (lv_at hl 0 rfl) ?_
                refine q_gi (T := TX1) C S61.1 g8 2 kF_X6_118 dX6_readHearth_120 rfl rfl (by decide) rfl (by decide) rfl ?_
                have c62 : (fI D H61 1 (eR s.heap (fR D s.heap 5 dd 1) (fI D s.heap 5 dd 4).toInt.toNat) 2).toInt = v28.toInt := by rw [Pt.i P61]
                refine lv_iconst (v := -1) hx hb dX6_readHearth_123 (by decide) ?_
                refine lv_icmp_ne (tgt := 129) hx hb dX6_readHearth_124 (by decide) (fun c63 => ?_) (fun c63 => ?_)
                · have b63 : ¬ (fI D H61 1 (eR s.heap (fR D s.heap 5 dd 1) (fI D s.heap 5 dd 4).toInt.toNat) 2).toInt = (-1 : Int32).toInt := fun z9 => c63 (i_eq.mpr z9)
                  exact absurd b63 (by omega)
                · have b63 : (fI D H61 1 (eR s.heap (fR D s.heap 5 dd 1) (fI D s.heap 5 dd 4).toInt.toNat) 2).toInt = (-1 : Int32).toInt := i_eq.mp c63
                  refine lv_iconst (v := 0) hx hb dX6_readHearth_127 (by decide) ?_
                  exact retE_z hQ C S61 hr dX6_readHearth_128 (z01 (by omega) (by omega)) (⟨⟨by omega, fun h9 => absurd h9 (by decide)⟩, RsP.no (s1 := sg) (by simp [heaF, heaO, hea1, hea2, hea3, hc4, hk15, w20, y22, w22, w28, y28]) (by omega) wr61, fun q hq _ => S61.2.1.fI hq rfl (by decide) (by decide +kernel)⟩)
              · skip
                refine q_put (T := TX1) C S28 g8 2 kF_X6_118 dX6_readHearth_116 rfl rfl (by decide) (by decide) rfl rfl rfl rfl rfl (vok_a rfl) (by decide +kernel) (fun H64 L64 S64 P64 => ?_)
                have tk64 : Gd D G s.heap → (0 ≤ v22.toInt ∧ v22.toInt ≤ 5) → Gd D G H64 := fun h9 k90 => (tk28 h9 k90).put g8 P64 (Or.inr ⟨rfl, by decide, by decide⟩)
                have wr64 : (fI D H64 9 tp 2).toInt = (((nx T (nx T (nx T (nx T b)))) : Nat) : Int) := by rw [Pt.f P64 (ne_role gtp g8 (by decide))]; exact wr28
                have ct64 : (fI D H64 5 dd 4).toInt = sg 1 := by rw [Pt.f P64 (ne_role gdd g8 (by decide))]; exact ct28
                have bh64 : ∀ q, G q = 25 → q ≠ (eR s.heap (fR D s.heap 5 dd 1) (fI D s.heap 5 dd 4).toInt.toNat) → fI D H64 1 q 0 = fI D s.heap 1 q 0 := fun q hq hn => (Pt.any P64 (by decide) (by decide) q).trans (bh28 q hq hn)
                have bv64 : fI D H64 1 (eR s.heap (fR D s.heap 5 dd 1) (fI D s.heap 5 dd 4).toInt.toNat) 0 = v22 := (Pt.any P64 (by decide) (by decide) _).trans bv28
                refine lv_aload_n hx hb dX6_readHearth_119 rfl (lv_at hl 0 rfl) ?_
                refine q_gi (T := TX1) C S64.1 g8 2 kF_X6_118 dX6_readHearth_120 rfl rfl (by decide) rfl (by decide) rfl ?_
                have c65 : (fI D H64 1 (eR s.heap (fR D s.heap 5 dd 1) (fI D s.heap 5 dd 4).toInt.toNat) 2).toInt = v28.toInt := by rw [Pt.i P64]
                refine lv_iconst (v := -1) hx hb dX6_readHearth_123 (by decide) ?_
                refine lv_icmp_ne (tgt := 129) hx hb dX6_readHearth_124 (by decide) (fun c66 => ?_) (fun c66 => ?_)
                · have b66 : ¬ (fI D H64 1 (eR s.heap (fR D s.heap 5 dd 1) (fI D s.heap 5 dd 4).toInt.toNat) 2).toInt = (-1 : Int32).toInt := fun z9 => c66 (i_eq.mpr z9)
                  exact absurd b66 (by omega)
                · have b66 : (fI D H64 1 (eR s.heap (fR D s.heap 5 dd 1) (fI D s.heap 5 dd 4).toInt.toNat) 2).toInt = (-1 : Int32).toInt := i_eq.mp c66
                  refine lv_iconst (v := 0) hx hb dX6_readHearth_127 (by decide) ?_
                  exact retE_z hQ C S64 hr dX6_readHearth_128 (z01 (by omega) (by omega)) (⟨⟨by omega, fun h9 => absurd h9 (by decide)⟩, RsP.no (s1 := sg) (by simp [heaF, heaO, hea1, hea2, hea3, hc4, hk15, w20, y22, w22, w28]) (by omega) wr64, fun q hq _ => S64.2.1.fI hq rfl (by decide) (by decide +kernel)⟩)
            · have b26 : (fI D H23 1 (eR s.heap (fR D s.heap 5 dd 1) (fI D s.heap 5 dd 4).toInt.toNat) 0).toInt = (-1 : Int32).toInt := i_eq.mp c26
              exact absurd b26 (by omega)
          · skip
            refine q_put (T := TX1) C S22 g8 0 kF_X6_114 dX6_readHearth_93 rfl rfl (by decide) (by decide) rfl rfl rfl rfl rfl (vok_i rfl (by omega) (by omega)) (by decide +kernel) (fun H67 L67 S67 P67 => ?_)
            have tk67 : Gd D G s.heap → (0 ≤ v22.toInt ∧ v22.toInt ≤ 5) → Gd D G H67 := fun h9 k90 => Gd.put0 (fun b9 hb9 _ => (tk22 h9) b9 hb9) P67 k90
            have wr67 : (fI D H67 9 tp 2).toInt = (((nx T (nx T (nx T b))) : Nat) : Int) := by rw [Pt.f P67 (ne_role gtp g8 (by decide))]; exact wr22
            have ct67 : (fI D H67 5 dd 4).toInt = sg 1 := by rw [Pt.f P67 (ne_role gdd g8 (by decide))]; exact ct22
            have bh67 : ∀ q, G q = 25 → q ≠ (eR s.heap (fR D s.heap 5 dd 1) (fI D s.heap 5 dd 4).toInt.toNat) → fI D H67 1 q 0 = fI D s.heap 1 q 0 := fun q hq hn => (Pt.f P67 hn).trans (bh22 q hq hn)
            have bv67 : fI D H67 1 (eR s.heap (fR D s.heap 5 dd 1) (fI D s.heap 5 dd 4).toInt.toNat) 0 = v22 := Pt.i P67
            refine lv_aload_n hx hb dX6_readHearth_96 rfl (lv_at hl 0 rfl) ?_
            refine q_gi (T := TX1) C S67.1 g8 0 kF_X6_114 dX6_readHearth_97 rfl rfl (by decide) rfl (by decide) rfl ?_
            have c68 : (fI D H67 1 (eR s.heap (fR D s.heap 5 dd 1) (fI D s.heap 5 dd 4).toInt.toNat) 0).toInt = v22.toInt := by rw [Pt.i P67]
            have r69 : -1 ≤ (fI D H67 1 (eR s.heap (fR D s.heap 5 dd 1) (fI D s.heap 5 dd 4).toInt.toNat) 0).toInt ∧ (fI D H67 1 (eR s.heap (fR D s.heap 5 dd 1) (fI D s.heap 5 dd 4).toInt.toNat) 0).toInt ≤ 5 := S67.1.rng g8 rfl (by decide) rfl
            refine lv_iconst (v := -1) hx hb dX6_readHearth_100 (by decide) ?_
            refine lv_icmp_ne (tgt := 106) hx hb dX6_readHearth_101 (by decide) (fun c70 => ?_) (fun c70 => ?_)
            · have b70 : ¬ (fI D H67 1 (eR s.heap (fR D s.heap 5 dd 1) (fI D s.heap 5 dd 4).toInt.toNat) 0).toInt = (-1 : Int32).toInt := fun z9 => c70 (i_eq.mpr z9)
              exact absurd b70 (by omega)
            · have b70 : (fI D H67 1 (eR s.heap (fR D s.heap 5 dd 1) (fI D s.heap 5 dd 4).toInt.toNat) 0).toInt = (-1 : Int32).toInt := i_eq.mp c70
              refine lv_iconst (v := 0) hx hb dX6_readHearth_104 (by decide) ?_
              exact retE_z hQ C S67 hr dX6_readHearth_105 (z01 (by omega) (by omega)) (⟨⟨by omega, fun h9 => absurd h9 (by decide)⟩, RsP.no (s1 := sg) (by simp [heaF, heaO, hea1, hea2, hea3, hc4, hk15, w20, y22]) (by omega) wr67, fun q hq _ => S67.2.1.fI hq rfl (by decide) (by decide +kernel)⟩)
        · have b21 : v20.toInt = (0 : Int32).toInt := i_eq.mp c21
          exact absurd b21 (by omega)
      · obtain ⟨w20, rfl⟩ := tkW_f y20
        have k_0 : (0 : Int32).toInt = 0 := by decide
        refine lv_if_ne (tgt := 88) hx hb dX6_readHearth_83 (by decide) (fun c71 => ?_) (fun c71 => ?_)
        · have b71 : ¬ v20.toInt = (0 : Int32).toInt := fun z9 => c71 (i_eq.mpr z9)
          exact absurd b71 (by omega)
        · have b71 : v20.toInt = (0 : Int32).toInt := i_eq.mp c71
          refine lv_iconst (v := 0) hx hb dX6_readHearth_86 (by decide) ?_
          exact retE_z hQ C S20 hr dX6_readHearth_87 (z01 (by omega) (by omega)) (⟨⟨by omega, fun _ h9 => tk20 h9⟩, RsP.no (s1 := sg) (by simp [heaF, heaO, hea1, hea2, hea3, hc4, hk15, w20]) (by omega) wr20, fun q hq _ => S20.2.1.fI hq rfl (by decide) (by decide +kernel)⟩)
    · have b14 : (fI D H12 1 (eR s.heap (fR D s.heap 5 dd 1) (fI D s.heap 5 dd 4).toInt.toNat) 1).toInt = (-1 : Int32).toInt := i_eq.mp c14
      have hk72 : kin T (nx T b) = -1 := by omega
      refine lv_aload_n hx hb dX6_readHearth_59 rfl (lv_at hl 1 rfl) ?_
      refine q_grS (T := TX6) C S12.1 ga0 0 kF_X6_15 dX6_readHearth_60 rfl rfl (by decide) rfl (by decide) kSF_X6_tape (fun g73 => ?_)
      rw [show fR D H12 6 a0 0 = tp from (S12.2.1.fR ga0 rfl (by decide) (by decide +kernel)).trans htp]
      refine callV_Ei C S12 (c_X9_refuse_f l D G tp T (nx T b) gtp) kV_X6_50 gtp (⟨trivial, ts12⟩) (by decide +kernel) dX6_readHearth_63 hl.1 rfl rfl (by decide) cd_X9_refuse ⟨Nat.le_of_ble_eq_true rfl, Nat.le_of_ble_eq_true rfl, Nat.le_of_ble_eq_true rfl, Nat.le_of_ble_eq_true rfl, Nat.le_of_ble_eq_true rfl⟩ (fun v74 H74 L74 S74 K74 q74 => ?_)
      obtain ⟨q74, fq74⟩ := q74
      have tk74 : Gd D G s.heap → Gd D G H74 := fun h9  => (tk12 h9).keep K74 (by decide +kernel)
      have dv74 := dv_keep dv12 S12.1 (Or.inr gdd) K74
      have ct74 : (fI D H74 5 dd 4).toInt = sg 1 := by rw [K74.fI gdd rfl (by decide) (by decide +kernel)]; exact ct12
      have bh74 : ∀ q, G q = 25 → q ≠ (eR s.heap (fR D s.heap 5 dd 1) (fI D s.heap 5 dd 4).toInt.toNat) → fI D H74 1 q 0 = fI D s.heap 1 q 0 := fun q hq hn => (K74.fI hq rfl (by decide) (by decide +kernel)).trans (bh12 q hq hn)
      have z74 := fq74.1
      exact retE_z hQ C S74 hr dX6_readHearth_66 (z01 (by omega) (by omega)) (⟨⟨by omega, fun _ h9 => tk74 h9⟩, RsP.no (s1 := sg) (by simp [heaF, heaO, hea1, hea2, hea3, hc4, hk72]) (by omega) fq74.2, fun q hq _ => S74.2.1.fI hq rfl (by decide) (by decide +kernel)⟩)
  · have b3 : ¬ (fI D s.heap 5 dd 4).toInt < (12 : Int32).toInt := fun z9 => c3 (i_lt.mpr z9)
    have hc75 : sg 1 = 12 := by omega
    refine lv_aload_n hx hb dX6_readHearth_12 rfl (lv_at hl 0 rfl) ?_
    refine q_grS (T := TX6) C S.1 ga0 0 kF_X6_15 dX6_readHearth_13 rfl rfl (by decide) rfl (by decide) kSF_X6_tape (fun g76 => ?_)
    rw [show fR D s.heap 6 a0 0 = tp from htp]
    refine callV_Ei C S (c_X9_refuse_f l D G tp T b gtp) kV_X6_50 gtp (⟨trivial, ts0⟩) (by decide +kernel) dX6_readHearth_16 hl.1 rfl rfl (by decide) cd_X9_refuse ⟨Nat.le_of_ble_eq_true rfl, Nat.le_of_ble_eq_true rfl, Nat.le_of_ble_eq_true rfl, Nat.le_of_ble_eq_true rfl, Nat.le_of_ble_eq_true rfl⟩ (fun v77 H77 L77 S77 K77 q77 => ?_)
    obtain ⟨q77, fq77⟩ := q77
    have tk77 : Gd D G s.heap → Gd D G H77 := fun h9  => (tk0 h9).keep K77 (by decide +kernel)
    have dv77 := dv_keep dv0 S.1 (Or.inr gdd) K77
    have ct77 : (fI D H77 5 dd 4).toInt = sg 1 := by rw [K77.fI gdd rfl (by decide) (by decide +kernel)]; exact ct0
    have z77 := fq77.1
    exact retE_z hQ C S77 hr dX6_readHearth_19 (z01 (by omega) (by omega)) (⟨⟨by omega, fun _ h9 => tk77 h9⟩, RsP.no (s1 := sg) (by simp [heaF, heaO, hea1, hea2, hea3, hc75]) (by omega) fq77.2, fun q hq _ => S77.2.1.fI hq rfl (by decide) (by decide +kernel)⟩)

set_option maxRecDepth 100000 in
set_option maxHeartbeats 4000000 in
theorem c_X6_readSetting_f (l : Launch) (D : DD) (G : Nat → Nat) (a0 : Nat) (dd : Nat) (sg : Sg) (tp : Nat) (T : Tx) (b : Nat) (ga0 : G a0 = 20) (hn1 : isW T b w_house = false) (hn2 : isW T b w_sees = false) (hn3 : isW T b w_hearth = false) : CE l D G yX6_readSetting cX6_readSetting 1 (some .boolean) 7 [.ref a0] (fun H => (G (fR D H 6 a0 2) = 23) ∧ (fR D H 6 a0 0 = tp ∧ TS D H tp T b ∧ fR D H 6 a0 2 = dd ∧ DS D H dd ∧ SV (pv D H dd) sg)) [(2, 3), (2, 4), (2, 5), (2, 6), (2, 2), (23, 6), (23, 7), (23, 8), (23, 9), (23, 10)] (xI (fun H r H1 => ((0 ≤ r.toInt ∧ r.toInt ≤ 1) ∧ (r.toInt = 1 → Gd D G H → Gd D G H1)) ∧ (RsP D H1 tp dd T (plnF T sg b) r) ∧ (FH D G H H1 dd))) := by
  refine enter (by decide) (Nat.le_of_ble_eq_true rfl) ?_
  intro p e s m args below meth c ls Q hA hQ C hr hO hpre hl
  have hx := C.1
  have hb := C.2.1
  have S : Sd D G [(2, 3), (2, 4), (2, 5), (2, 6), (2, 2), (23, 6), (23, 7), (23, 8), (23, 9), (23, 10)] s.heap s.heap [] := Sd.start hO
  have hl : lv_has ls 1 [(0, .ref a0)] := hl
  obtain ⟨hpre, hf⟩ := hpre
  obtain ⟨htp, ts0, hdd, ds0, dv0⟩ := hf
  have gtp : G tp = 2 := by rw [← htp]; exact hO.rol ga0 rfl (by decide) rfl
  have gdd : G dd = 23 := by rw [← hdd]; exact hpre
  have hT : T.2 ≤ 400 := ts0.le hO gtp
  have tk0 : Gd D G s.heap → Gd D G s.heap := fun h => h
  refine lv_aload_n hx hb dX6_readSetting_0 rfl (lv_at hl 0 rfl) ?_
  refine q_grS (T := TX6) C S.1 ga0 0 kF_X6_15 dX6_readSetting_1 rfl rfl (by decide) rfl (by decide) kSF_X6_tape (fun g1 => ?_)
  rw [show fR D s.heap 6 a0 0 = tp from htp]
  refine q_lds C ks_X6_154 dX6_readSetting_4 (fun a2 ha2 wa2 => ?_)
  refine callV_Pi C S.1 S.2.1.2.1 (c_X9_isWord_f l D G tp a2 4 w_rate T b gtp ha2 (Wc.of wa2 kw_rate)) kV_X6_21 gtp (⟨trivial, ts0⟩) dX6_readSetting_6 hl.1 rfl rfl (by decide) cd_X9_isWord ⟨Nat.le_of_ble_eq_true rfl, Nat.le_of_ble_eq_true rfl, Nat.le_of_ble_eq_true rfl, Nat.le_of_ble_eq_true rfl, Nat.le_of_ble_eq_true rfl⟩ (fun v3 q3 => ?_)
  obtain ⟨q3, fq3⟩ := q3
  rcases fq3 with ⟨z3, y3⟩ | ⟨z3, y3⟩
  · skip
    have k_0 : (0 : Int32).toInt = 0 := by decide
    refine lv_if_eq (tgt := 45) hx hb dX6_readSetting_9 (by decide) (fun c4 => ?_) (fun c4 => ?_)
    · have b4 : v3.toInt = (0 : Int32).toInt := i_eq.mp c4
      exact absurd b4 (by omega)
    · have b4 : ¬ v3.toInt = (0 : Int32).toInt := fun z9 => c4 (i_eq.mpr z9)
      refine lv_aload_n hx hb dX6_readSetting_12 rfl (lv_at hl 0 rfl) ?_
      refine q_grD (T := TX6) C S.1 ga0 2 kF_X6_11 dX6_readSetting_13 rfl rfl (by decide) rfl (by decide) rfl (fun g5 => ?_)
      replace g5 : G (fR D s.heap 6 a0 2) = 23 := by rw [S.2.1.fR ga0 rfl (by decide) (by decide +kernel)]; exact hpre
      rw [show fR D s.heap 6 a0 2 = dd from hdd]
      refine lv_aload_n hx hb dX6_readSetting_16 rfl (lv_at hl 0 rfl) ?_
      refine q_lds C ks_X6_154 dX6_readSetting_17 (fun a6 ha6 wa6 => ?_)
      refine lv_iconst (v := 0) hx hb dX6_readSetting_19 (by decide) ?_
      refine lv_bipush (v := 20) hx hb dX6_readSetting_20 (by decide) ?_
      have k_20 : (20 : Int32).toInt = 20 := by decide
      refine callV_Ei C S (c_X6_numberAfter_f l D G a0 a6 4 (0 : Int32) (20 : Int32) w_rate 0 20 tp T b ga0 ha6 (by omega) (Wc.of wa6 kw_rate) (by omega) (by omega)) kV_X6_57 ga0 (⟨trivial, ⟨htp, ts0⟩⟩) (by decide +kernel) dX6_readSetting_22 hl.1 rfl rfl (by decide) cd_X6_numberAfter ⟨Nat.le_of_ble_eq_true rfl, Nat.le_of_ble_eq_true rfl, Nat.le_of_ble_eq_true rfl, Nat.le_of_ble_eq_true rfl, Nat.le_of_ble_eq_true rfl⟩ (fun v7 H7 L7 S7 K7 q7 => ?_)
      obtain ⟨q7, fq7⟩ := q7
      have tk7 : Gd D G s.heap → Gd D G H7 := fun h9  => (tk0 h9).keep K7 (by decide +kernel)
      have dv7 := dv_keep dv0 S.1 (Or.inr gdd) K7
      rcases fq7 with ⟨w7, y7, z7, ts7⟩ | ⟨w7, y7, z7, wr7⟩ | ⟨w7, z7, wr7⟩
      · have u7 : 0 ≤ v7.toInt ∧ v7.toInt ≤ 20 := by have z9 := num_r (T := T) (b := nx T b) (lo := 0) (hi := 20) (by decide); omega
        refine q_put (T := TX5) C S7 gdd 6 kF_X6_156 dX6_readSetting_25 rfl rfl (by decide) (by decide) rfl rfl rfl rfl rfl (vok_a rfl) (by decide +kernel) (fun H8 L8 S8 P8 => ?_)
        have tk8 : Gd D G s.heap → Gd D G H8 := fun h9  => (tk7 h9).put gdd P8 (Or.inl (by decide))
        have ts8 := ts7.cells S7.1 gtp gdd (by decide) (by decide) P8.2.2.1
        have dv8 := dv_keep dv7 S7.1 (Or.inr gdd) (Pt.keep gdd rfl (by decide) P8)
        refine lv_aload_n hx hb dX6_readSetting_28 rfl (lv_at hl 0 rfl) ?_
        refine q_grD (T := TX6) C S8.1 ga0 2 kF_X6_11 dX6_readSetting_29 rfl rfl (by decide) rfl (by decide) rfl (fun g9 => ?_)
        replace g9 : G (fR D H8 6 a0 2) = 23 := by rw [S8.2.1.fR ga0 rfl (by decide) (by decide +kernel)]; exact hpre
        rw [show fR D H8 6 a0 2 = dd from (S8.2.1.fR ga0 rfl (by decide) (by decide +kernel)).trans hdd]
        refine q_gi (T := TX5) C S8.1 gdd 6 kF_X6_156 dX6_readSetting_32 rfl rfl (by decide) rfl (by decide) rfl ?_
        have c10 : (fI D H8 5 dd 6).toInt = v7.toInt := by rw [Pt.i P8]
        refine lv_iconst (v := -1) hx hb dX6_readSetting_35 (by decide) ?_
        have k_m1 : (-1 : Int32).toInt = -1 := by decide
        refine lv_icmp_eq (tgt := 43) hx hb dX6_readSetting_36 (by decide) (fun c11 => ?_) (fun c11 => ?_)
        · have b11 : (fI D H8 5 dd 6).toInt = (-1 : Int32).toInt := i_eq.mp c11
          exact absurd b11 (by omega)
        · have b11 : ¬ (fI D H8 5 dd 6).toInt = (-1 : Int32).toInt := fun z9 => c11 (i_eq.mpr z9)
          refine lv_iconst (v := 1) hx hb dX6_readSetting_39 (by decide) ?_
          refine lv_goto (tgt := 44) hx hb dX6_readSetting_40 (by decide) ?_
          have k_1 : (1 : Int32).toInt = 1 := by decide
          exact retE_z hQ C S8 hr dX6_readSetting_44 (z01 (by omega) (by omega)) (⟨⟨by omega, fun _ h9 => tk8 h9⟩, RsP.ok (s1 := sg) (by simp [plnF, setF, hn1, hn2, hn3, y3, w7, y7]) (by omega) ts8 (dv8), fun q hq _ => S8.2.1.fI hq rfl (by decide) (by decide +kernel)⟩)
      · skip
        refine q_put (T := TX5) C S7 gdd 6 kF_X6_156 dX6_readSetting_25 rfl rfl (by decide) (by decide) rfl rfl rfl rfl rfl (vok_a rfl) (by decide +kernel) (fun H12 L12 S12 P12 => ?_)
        have tk12 : Gd D G s.heap → Gd D G H12 := fun h9  => (tk7 h9).put gdd P12 (Or.inl (by decide))
        have wr12 : (fI D H12 9 tp 2).toInt = (((nx T b) : Nat) : Int) := by rw [Pt.f P12 (ne_role gtp gdd (by decide))]; exact wr7
        have dv12 := dv_keep dv7 S7.1 (Or.inr gdd) (Pt.keep gdd rfl (by decide) P12)
        refine lv_aload_n hx hb dX6_readSetting_28 rfl (lv_at hl 0 rfl) ?_
        refine q_grD (T := TX6) C S12.1 ga0 2 kF_X6_11 dX6_readSetting_29 rfl rfl (by decide) rfl (by decide) rfl (fun g13 => ?_)
        replace g13 : G (fR D H12 6 a0 2) = 23 := by rw [S12.2.1.fR ga0 rfl (by decide) (by decide +kernel)]; exact hpre
        rw [show fR D H12 6 a0 2 = dd from (S12.2.1.fR ga0 rfl (by decide) (by decide +kernel)).trans hdd]
        refine q_gi (T := TX5) C S12.1 gdd 6 kF_X6_156 dX6_readSetting_32 rfl rfl (by decide) rfl (by decide) rfl ?_
        have c14 : (fI D H12 5 dd 6).toInt = v7.toInt := by rw [Pt.i P12]
        refine lv_iconst (v := -1) hx hb dX6_readSetting_35 (by decide) ?_
        have k_m1 : (-1 : Int32).toInt = -1 := by decide
        refine lv_icmp_eq (tgt := 43) hx hb dX6_readSetting_36 (by decide) (fun c15 => ?_) (fun c15 => ?_)
        · have b15 : (fI D H12 5 dd 6).toInt = (-1 : Int32).toInt := i_eq.mp c15
          refine lv_iconst (v := 0) hx hb dX6_readSetting_43 (by decide) ?_
          exact retE_z hQ C S12 hr dX6_readSetting_44 (z01 (by omega) (by omega)) (⟨⟨by omega, fun _ h9 => tk12 h9⟩, RsP.no (s1 := sg) (by simp [plnF, setF, hn1, hn2, hn3, y3, w7, y7]) (by omega) wr12, fun q hq _ => S12.2.1.fI hq rfl (by decide) (by decide +kernel)⟩)
        · have b15 : ¬ (fI D H12 5 dd 6).toInt = (-1 : Int32).toInt := fun z9 => c15 (i_eq.mpr z9)
          exact absurd b15 (by omega)
      · exact absurd y3 (by rw [w7]; decide)
  · skip
    have k_0 : (0 : Int32).toInt = 0 := by decide
    refine lv_if_eq (tgt := 45) hx hb dX6_readSetting_9 (by decide) (fun c16 => ?_) (fun c16 => ?_)
    · have b16 : v3.toInt = (0 : Int32).toInt := i_eq.mp c16
      refine lv_aload_n hx hb dX6_readSetting_45 rfl (lv_at hl 0 rfl) ?_
      refine q_grS (T := TX6) C S.1 ga0 0 kF_X6_15 dX6_readSetting_46 rfl rfl (by decide) rfl (by decide) kSF_X6_tape (fun g17 => ?_)
      rw [show fR D s.heap 6 a0 0 = tp from htp]
      refine q_lds C ks_X6_158 dX6_readSetting_49 (fun a18 ha18 wa18 => ?_)
      refine callV_Pi C S.1 S.2.1.2.1 (c_X9_isWord_f l D G tp a18 4 w_fine T b gtp ha18 (Wc.of wa18 kw_fine)) kV_X6_21 gtp (⟨trivial, ts0⟩) dX6_readSetting_51 hl.1 rfl rfl (by decide) cd_X9_isWord ⟨Nat.le_of_ble_eq_true rfl, Nat.le_of_ble_eq_true rfl, Nat.le_of_ble_eq_true rfl, Nat.le_of_ble_eq_true rfl, Nat.le_of_ble_eq_true rfl⟩ (fun v19 q19 => ?_)
      obtain ⟨q19, fq19⟩ := q19
      rcases fq19 with ⟨z19, y19⟩ | ⟨z19, y19⟩
      · skip
        refine lv_if_eq (tgt := 90) hx hb dX6_readSetting_54 (by decide) (fun c20 => ?_) (fun c20 => ?_)
        · have b20 : v19.toInt = (0 : Int32).toInt := i_eq.mp c20
          exact absurd b20 (by omega)
        · have b20 : ¬ v19.toInt = (0 : Int32).toInt := fun z9 => c20 (i_eq.mpr z9)
          refine lv_aload_n hx hb dX6_readSetting_57 rfl (lv_at hl 0 rfl) ?_
          refine q_grD (T := TX6) C S.1 ga0 2 kF_X6_11 dX6_readSetting_58 rfl rfl (by decide) rfl (by decide) rfl (fun g21 => ?_)
          replace g21 : G (fR D s.heap 6 a0 2) = 23 := by rw [S.2.1.fR ga0 rfl (by decide) (by decide +kernel)]; exact hpre
          rw [show fR D s.heap 6 a0 2 = dd from hdd]
          refine lv_aload_n hx hb dX6_readSetting_61 rfl (lv_at hl 0 rfl) ?_
          refine q_lds C ks_X6_158 dX6_readSetting_62 (fun a22 ha22 wa22 => ?_)
          refine lv_iconst (v := 0) hx hb dX6_readSetting_64 (by decide) ?_
          refine lv_bipush (v := 50) hx hb dX6_readSetting_65 (by decide) ?_
          have k_50 : (50 : Int32).toInt = 50 := by decide
          refine callV_Ei C S (c_X6_numberAfter_f l D G a0 a22 4 (0 : Int32) (50 : Int32) w_fine 0 50 tp T b ga0 ha22 (by omega) (Wc.of wa22 kw_fine) (by omega) (by omega)) kV_X6_57 ga0 (⟨trivial, ⟨htp, ts0⟩⟩) (by decide +kernel) dX6_readSetting_67 hl.1 rfl rfl (by decide) cd_X6_numberAfter ⟨Nat.le_of_ble_eq_true rfl, Nat.le_of_ble_eq_true rfl, Nat.le_of_ble_eq_true rfl, Nat.le_of_ble_eq_true rfl, Nat.le_of_ble_eq_true rfl⟩ (fun v23 H23 L23 S23 K23 q23 => ?_)
          obtain ⟨q23, fq23⟩ := q23
          have tk23 : Gd D G s.heap → Gd D G H23 := fun h9  => (tk0 h9).keep K23 (by decide +kernel)
          have dv23 := dv_keep dv0 S.1 (Or.inr gdd) K23
          rcases fq23 with ⟨w23, y23, z23, ts23⟩ | ⟨w23, y23, z23, wr23⟩ | ⟨w23, z23, wr23⟩
          · have u23 : 0 ≤ v23.toInt ∧ v23.toInt ≤ 50 := by have z9 := num_r (T := T) (b := nx T b) (lo := 0) (hi := 50) (by decide); omega
            refine q_put (T := TX5) C S23 gdd 7 kF_X6_160 dX6_readSetting_70 rfl rfl (by decide) (by decide) rfl rfl rfl rfl rfl (vok_a rfl) (by decide +kernel) (fun H24 L24 S24 P24 => ?_)
            have tk24 : Gd D G s.heap → Gd D G H24 := fun h9  => (tk23 h9).put gdd P24 (Or.inl (by decide))
            have ts24 := ts23.cells S23.1 gtp gdd (by decide) (by decide) P24.2.2.1
            have dv24 := dv_keep dv23 S23.1 (Or.inr gdd) (Pt.keep gdd rfl (by decide) P24)
            refine lv_aload_n hx hb dX6_readSetting_73 rfl (lv_at hl 0 rfl) ?_
            refine q_grD (T := TX6) C S24.1 ga0 2 kF_X6_11 dX6_readSetting_74 rfl rfl (by decide) rfl (by decide) rfl (fun g25 => ?_)
            replace g25 : G (fR D H24 6 a0 2) = 23 := by rw [S24.2.1.fR ga0 rfl (by decide) (by decide +kernel)]; exact hpre
            rw [show fR D H24 6 a0 2 = dd from (S24.2.1.fR ga0 rfl (by decide) (by decide +kernel)).trans hdd]
            refine q_gi (T := TX5) C S24.1 gdd 7 kF_X6_160 dX6_readSetting_77 rfl rfl (by decide) rfl (by decide) rfl ?_
            have c26 : (fI D H24 5 dd 7).toInt = v23.toInt := by rw [Pt.i P24]
            refine lv_iconst (v := -1) hx hb dX6_readSetting_80 (by decide) ?_
            have k_m1 : (-1 : Int32).toInt = -1 := by decide
            refine lv_icmp_eq (tgt := 88) hx hb dX6_readSetting_81 (by decide) (fun c27 => ?_) (fun c27 => ?_)
            · have b27 : (fI D H24 5 dd 7).toInt = (-1 : Int32).toInt := i_eq.mp c27
              exact absurd b27 (by omega)
            · have b27 : ¬ (fI D H24 5 dd 7).toInt = (-1 : Int32).toInt := fun z9 => c27 (i_eq.mpr z9)
              refine lv_iconst (v := 1) hx hb dX6_readSetting_84 (by decide) ?_
              refine lv_goto (tgt := 89) hx hb dX6_readSetting_85 (by decide) ?_
              have k_1 : (1 : Int32).toInt = 1 := by decide
              exact retE_z hQ C S24 hr dX6_readSetting_89 (z01 (by omega) (by omega)) (⟨⟨by omega, fun _ h9 => tk24 h9⟩, RsP.ok (s1 := sg) (by simp [plnF, setF, hn1, hn2, hn3, y3, y19, w23, y23]) (by omega) ts24 (dv24), fun q hq _ => S24.2.1.fI hq rfl (by decide) (by decide +kernel)⟩)
          · skip
            refine q_put (T := TX5) C S23 gdd 7 kF_X6_160 dX6_readSetting_70 rfl rfl (by decide) (by decide) rfl rfl rfl rfl rfl (vok_a rfl) (by decide +kernel) (fun H28 L28 S28 P28 => ?_)
            have tk28 : Gd D G s.heap → Gd D G H28 := fun h9  => (tk23 h9).put gdd P28 (Or.inl (by decide))
            have wr28 : (fI D H28 9 tp 2).toInt = (((nx T b) : Nat) : Int) := by rw [Pt.f P28 (ne_role gtp gdd (by decide))]; exact wr23
            have dv28 := dv_keep dv23 S23.1 (Or.inr gdd) (Pt.keep gdd rfl (by decide) P28)
            refine lv_aload_n hx hb dX6_readSetting_73 rfl (lv_at hl 0 rfl) ?_
            refine q_grD (T := TX6) C S28.1 ga0 2 kF_X6_11 dX6_readSetting_74 rfl rfl (by decide) rfl (by decide) rfl (fun g29 => ?_)
            replace g29 : G (fR D H28 6 a0 2) = 23 := by rw [S28.2.1.fR ga0 rfl (by decide) (by decide +kernel)]; exact hpre
            rw [show fR D H28 6 a0 2 = dd from (S28.2.1.fR ga0 rfl (by decide) (by decide +kernel)).trans hdd]
            refine q_gi (T := TX5) C S28.1 gdd 7 kF_X6_160 dX6_readSetting_77 rfl rfl (by decide) rfl (by decide) rfl ?_
            have c30 : (fI D H28 5 dd 7).toInt = v23.toInt := by rw [Pt.i P28]
            refine lv_iconst (v := -1) hx hb dX6_readSetting_80 (by decide) ?_
            have k_m1 : (-1 : Int32).toInt = -1 := by decide
            refine lv_icmp_eq (tgt := 88) hx hb dX6_readSetting_81 (by decide) (fun c31 => ?_) (fun c31 => ?_)
            · have b31 : (fI D H28 5 dd 7).toInt = (-1 : Int32).toInt := i_eq.mp c31
              refine lv_iconst (v := 0) hx hb dX6_readSetting_88 (by decide) ?_
              exact retE_z hQ C S28 hr dX6_readSetting_89 (z01 (by omega) (by omega)) (⟨⟨by omega, fun _ h9 => tk28 h9⟩, RsP.no (s1 := sg) (by simp [plnF, setF, hn1, hn2, hn3, y3, y19, w23, y23]) (by omega) wr28, fun q hq _ => S28.2.1.fI hq rfl (by decide) (by decide +kernel)⟩)
            · have b31 : ¬ (fI D H28 5 dd 7).toInt = (-1 : Int32).toInt := fun z9 => c31 (i_eq.mpr z9)
              exact absurd b31 (by omega)
          · exact absurd y19 (by rw [w23]; decide)
      · skip
        refine lv_if_eq (tgt := 90) hx hb dX6_readSetting_54 (by decide) (fun c32 => ?_) (fun c32 => ?_)
        · have b32 : v19.toInt = (0 : Int32).toInt := i_eq.mp c32
          refine lv_aload_n hx hb dX6_readSetting_90 rfl (lv_at hl 0 rfl) ?_
          refine q_grS (T := TX6) C S.1 ga0 0 kF_X6_15 dX6_readSetting_91 rfl rfl (by decide) rfl (by decide) kSF_X6_tape (fun g33 => ?_)
          rw [show fR D s.heap 6 a0 0 = tp from htp]
          refine q_lds C ks_X6_162 dX6_readSetting_94 (fun a34 ha34 wa34 => ?_)
          refine callV_Pi C S.1 S.2.1.2.1 (c_X9_isWord_f l D G tp a34 5 w_visit T b gtp ha34 (Wc.of wa34 kw_visit)) kV_X6_21 gtp (⟨trivial, ts0⟩) dX6_readSetting_96 hl.1 rfl rfl (by decide) cd_X9_isWord ⟨Nat.le_of_ble_eq_true rfl, Nat.le_of_ble_eq_true rfl, Nat.le_of_ble_eq_true rfl, Nat.le_of_ble_eq_true rfl, Nat.le_of_ble_eq_true rfl⟩ (fun v35 q35 => ?_)
          obtain ⟨q35, fq35⟩ := q35
          rcases fq35 with ⟨z35, y35⟩ | ⟨z35, y35⟩
          · skip
            refine lv_if_eq (tgt := 135) hx hb dX6_readSetting_99 (by decide) (fun c36 => ?_) (fun c36 => ?_)
            · have b36 : v35.toInt = (0 : Int32).toInt := i_eq.mp c36
              exact absurd b36 (by omega)
            · have b36 : ¬ v35.toInt = (0 : Int32).toInt := fun z9 => c36 (i_eq.mpr z9)
              refine lv_aload_n hx hb dX6_readSetting_102 rfl (lv_at hl 0 rfl) ?_
              refine q_grD (T := TX6) C S.1 ga0 2 kF_X6_11 dX6_readSetting_103 rfl rfl (by decide) rfl (by decide) rfl (fun g37 => ?_)
              replace g37 : G (fR D s.heap 6 a0 2) = 23 := by rw [S.2.1.fR ga0 rfl (by decide) (by decide +kernel)]; exact hpre
              rw [show fR D s.heap 6 a0 2 = dd from hdd]
              refine lv_aload_n hx hb dX6_readSetting_106 rfl (lv_at hl 0 rfl) ?_
              refine q_lds C ks_X6_162 dX6_readSetting_107 (fun a38 ha38 wa38 => ?_)
              refine lv_iconst (v := 0) hx hb dX6_readSetting_109 (by decide) ?_
              refine lv_bipush (v := 100) hx hb dX6_readSetting_110 (by decide) ?_
              have k_100 : (100 : Int32).toInt = 100 := by decide
              refine callV_Ei C S (c_X6_numberAfter_f l D G a0 a38 5 (0 : Int32) (100 : Int32) w_visit 0 100 tp T b ga0 ha38 (by omega) (Wc.of wa38 kw_visit) (by omega) (by omega)) kV_X6_57 ga0 (⟨trivial, ⟨htp, ts0⟩⟩) (by decide +kernel) dX6_readSetting_112 hl.1 rfl rfl (by decide) cd_X6_numberAfter ⟨Nat.le_of_ble_eq_true rfl, Nat.le_of_ble_eq_true rfl, Nat.le_of_ble_eq_true rfl, Nat.le_of_ble_eq_true rfl, Nat.le_of_ble_eq_true rfl⟩ (fun v39 H39 L39 S39 K39 q39 => ?_)
              obtain ⟨q39, fq39⟩ := q39
              have tk39 : Gd D G s.heap → Gd D G H39 := fun h9  => (tk0 h9).keep K39 (by decide +kernel)
              have dv39 := dv_keep dv0 S.1 (Or.inr gdd) K39
              rcases fq39 with ⟨w39, y39, z39, ts39⟩ | ⟨w39, y39, z39, wr39⟩ | ⟨w39, z39, wr39⟩
              · have u39 : 0 ≤ v39.toInt ∧ v39.toInt ≤ 100 := by have z9 := num_r (T := T) (b := nx T b) (lo := 0) (hi := 100) (by decide); omega
                refine q_put (T := TX5) C S39 gdd 8 kF_X6_164 dX6_readSetting_115 rfl rfl (by decide) (by decide) rfl rfl rfl rfl rfl (vok_a rfl) (by decide +kernel) (fun H40 L40 S40 P40 => ?_)
                have tk40 : Gd D G s.heap → Gd D G H40 := fun h9  => (tk39 h9).put gdd P40 (Or.inl (by decide))
                have ts40 := ts39.cells S39.1 gtp gdd (by decide) (by decide) P40.2.2.1
                refine lv_aload_n hx hb dX6_readSetting_118 rfl (lv_at hl 0 rfl) ?_
                refine q_grD (T := TX6) C S40.1 ga0 2 kF_X6_11 dX6_readSetting_119 rfl rfl (by decide) rfl (by decide) rfl (fun g41 => ?_)
                replace g41 : G (fR D H40 6 a0 2) = 23 := by rw [S40.2.1.fR ga0 rfl (by decide) (by decide +kernel)]; exact hpre
                rw [show fR D H40 6 a0 2 = dd from (S40.2.1.fR ga0 rfl (by decide) (by decide +kernel)).trans hdd]
                refine q_gi (T := TX5) C S40.1 gdd 8 kF_X6_164 dX6_readSetting_122 rfl rfl (by decide) rfl (by decide) rfl ?_
                have c42 : (fI D H40 5 dd 8).toInt = v39.toInt := by rw [Pt.i P40]
                refine lv_iconst (v := -1) hx hb dX6_readSetting_125 (by decide) ?_
                have k_m1 : (-1 : Int32).toInt = -1 := by decide
                refine lv_icmp_eq (tgt := 133) hx hb dX6_readSetting_126 (by decide) (fun c43 => ?_) (fun c43 => ?_)
                · have b43 : (fI D H40 5 dd 8).toInt = (-1 : Int32).toInt := i_eq.mp c43
                  exact absurd b43 (by omega)
                · have b43 : ¬ (fI D H40 5 dd 8).toInt = (-1 : Int32).toInt := fun z9 => c43 (i_eq.mpr z9)
                  refine lv_iconst (v := 1) hx hb dX6_readSetting_129 (by decide) ?_
                  refine lv_goto (tgt := 134) hx hb dX6_readSetting_130 (by decide) ?_
                  have k_1 : (1 : Int32).toInt = 1 := by decide
                  exact retE_z hQ C S40 hr dX6_readSetting_134 (z01 (by omega) (by omega)) (⟨⟨by omega, fun _ h9 => tk40 h9⟩, RsP.ok (s1 := sup sg 15 (num T (nx T b) 0 100)) (by simp [plnF, setF, hn1, hn2, hn3, y3, y19, y35, w39, y39]) (by omega) ts40 (by rw [← z39]; exact DV.visit dv39 S39.1 gdd P40), fun q hq _ => S40.2.1.fI hq rfl (by decide) (by decide +kernel)⟩)
              · skip
                refine q_put (T := TX5) C S39 gdd 8 kF_X6_164 dX6_readSetting_115 rfl rfl (by decide) (by decide) rfl rfl rfl rfl rfl (vok_a rfl) (by decide +kernel) (fun H44 L44 S44 P44 => ?_)
                have tk44 : Gd D G s.heap → Gd D G H44 := fun h9  => (tk39 h9).put gdd P44 (Or.inl (by decide))
                have wr44 : (fI D H44 9 tp 2).toInt = (((nx T b) : Nat) : Int) := by rw [Pt.f P44 (ne_role gtp gdd (by decide))]; exact wr39
                refine lv_aload_n hx hb dX6_readSetting_118 rfl (lv_at hl 0 rfl) ?_
                refine q_grD (T := TX6) C S44.1 ga0 2 kF_X6_11 dX6_readSetting_119 rfl rfl (by decide) rfl (by decide) rfl (fun g45 => ?_)
                replace g45 : G (fR D H44 6 a0 2) = 23 := by rw [S44.2.1.fR ga0 rfl (by decide) (by decide +kernel)]; exact hpre
                rw [show fR D H44 6 a0 2 = dd from (S44.2.1.fR ga0 rfl (by decide) (by decide +kernel)).trans hdd]
                refine q_gi (T := TX5) C S44.1 gdd 8 kF_X6_164 dX6_readSetting_122 rfl rfl (by decide) rfl (by decide) rfl ?_
                have c46 : (fI D H44 5 dd 8).toInt = v39.toInt := by rw [Pt.i P44]
                refine lv_iconst (v := -1) hx hb dX6_readSetting_125 (by decide) ?_
                have k_m1 : (-1 : Int32).toInt = -1 := by decide
                refine lv_icmp_eq (tgt := 133) hx hb dX6_readSetting_126 (by decide) (fun c47 => ?_) (fun c47 => ?_)
                · have b47 : (fI D H44 5 dd 8).toInt = (-1 : Int32).toInt := i_eq.mp c47
                  refine lv_iconst (v := 0) hx hb dX6_readSetting_133 (by decide) ?_
                  exact retE_z hQ C S44 hr dX6_readSetting_134 (z01 (by omega) (by omega)) (⟨⟨by omega, fun _ h9 => tk44 h9⟩, RsP.no (s1 := sg) (by simp [plnF, setF, hn1, hn2, hn3, y3, y19, y35, w39, y39]) (by omega) wr44, fun q hq _ => S44.2.1.fI hq rfl (by decide) (by decide +kernel)⟩)
                · have b47 : ¬ (fI D H44 5 dd 8).toInt = (-1 : Int32).toInt := fun z9 => c47 (i_eq.mpr z9)
                  exact absurd b47 (by omega)
              · exact absurd y35 (by rw [w39]; decide)
          · skip
            refine lv_if_eq (tgt := 135) hx hb dX6_readSetting_99 (by decide) (fun c48 => ?_) (fun c48 => ?_)
            · have b48 : v35.toInt = (0 : Int32).toInt := i_eq.mp c48
              refine lv_aload_n hx hb dX6_readSetting_135 rfl (lv_at hl 0 rfl) ?_
              refine q_grS (T := TX6) C S.1 ga0 0 kF_X6_15 dX6_readSetting_136 rfl rfl (by decide) rfl (by decide) kSF_X6_tape (fun g49 => ?_)
              rw [show fR D s.heap 6 a0 0 = tp from htp]
              refine q_lds C ks_X6_166 dX6_readSetting_139 (fun a50 ha50 wa50 => ?_)
              refine callV_Pi C S.1 S.2.1.2.1 (c_X9_isWord_f l D G tp a50 3 w_bed T b gtp ha50 (Wc.of wa50 kw_bed)) kV_X6_21 gtp (⟨trivial, ts0⟩) dX6_readSetting_141 hl.1 rfl rfl (by decide) cd_X9_isWord ⟨Nat.le_of_ble_eq_true rfl, Nat.le_of_ble_eq_true rfl, Nat.le_of_ble_eq_true rfl, Nat.le_of_ble_eq_true rfl, Nat.le_of_ble_eq_true rfl⟩ (fun v51 q51 => ?_)
              obtain ⟨q51, fq51⟩ := q51
              rcases fq51 with ⟨z51, y51⟩ | ⟨z51, y51⟩
              · skip
                refine lv_if_eq (tgt := 180) hx hb dX6_readSetting_144 (by decide) (fun c52 => ?_) (fun c52 => ?_)
                · have b52 : v51.toInt = (0 : Int32).toInt := i_eq.mp c52
                  exact absurd b52 (by omega)
                · have b52 : ¬ v51.toInt = (0 : Int32).toInt := fun z9 => c52 (i_eq.mpr z9)
                  refine lv_aload_n hx hb dX6_readSetting_147 rfl (lv_at hl 0 rfl) ?_
                  refine q_grD (T := TX6) C S.1 ga0 2 kF_X6_11 dX6_readSetting_148 rfl rfl (by decide) rfl (by decide) rfl (fun g53 => ?_)
                  replace g53 : G (fR D s.heap 6 a0 2) = 23 := by rw [S.2.1.fR ga0 rfl (by decide) (by decide +kernel)]; exact hpre
                  rw [show fR D s.heap 6 a0 2 = dd from hdd]
                  refine lv_aload_n hx hb dX6_readSetting_151 rfl (lv_at hl 0 rfl) ?_
                  refine q_lds C ks_X6_166 dX6_readSetting_152 (fun a54 ha54 wa54 => ?_)
                  refine lv_iconst (v := 0) hx hb dX6_readSetting_154 (by decide) ?_
                  refine lv_bipush (v := 20) hx hb dX6_readSetting_155 (by decide) ?_
                  have k_20 : (20 : Int32).toInt = 20 := by decide
                  refine callV_Ei C S (c_X6_numberAfter_f l D G a0 a54 3 (0 : Int32) (20 : Int32) w_bed 0 20 tp T b ga0 ha54 (by omega) (Wc.of wa54 kw_bed) (by omega) (by omega)) kV_X6_57 ga0 (⟨trivial, ⟨htp, ts0⟩⟩) (by decide +kernel) dX6_readSetting_157 hl.1 rfl rfl (by decide) cd_X6_numberAfter ⟨Nat.le_of_ble_eq_true rfl, Nat.le_of_ble_eq_true rfl, Nat.le_of_ble_eq_true rfl, Nat.le_of_ble_eq_true rfl, Nat.le_of_ble_eq_true rfl⟩ (fun v55 H55 L55 S55 K55 q55 => ?_)
                  obtain ⟨q55, fq55⟩ := q55
                  have tk55 : Gd D G s.heap → Gd D G H55 := fun h9  => (tk0 h9).keep K55 (by decide +kernel)
                  have dv55 := dv_keep dv0 S.1 (Or.inr gdd) K55
                  rcases fq55 with ⟨w55, y55, z55, ts55⟩ | ⟨w55, y55, z55, wr55⟩ | ⟨w55, z55, wr55⟩
                  · have u55 : 0 ≤ v55.toInt ∧ v55.toInt ≤ 20 := by have z9 := num_r (T := T) (b := nx T b) (lo := 0) (hi := 20) (by decide); omega
                    refine q_put (T := TX5) C S55 gdd 9 kF_X6_168 dX6_readSetting_160 rfl rfl (by decide) (by decide) rfl rfl rfl rfl rfl (vok_a rfl) (by decide +kernel) (fun H56 L56 S56 P56 => ?_)
                    have tk56 : Gd D G s.heap → Gd D G H56 := fun h9  => (tk55 h9).put gdd P56 (Or.inl (by decide))
                    have ts56 := ts55.cells S55.1 gtp gdd (by decide) (by decide) P56.2.2.1
                    have dv56 := dv_keep dv55 S55.1 (Or.inr gdd) (Pt.keep gdd rfl (by decide) P56)
                    refine lv_aload_n hx hb dX6_readSetting_163 rfl (lv_at hl 0 rfl) ?_
                    refine q_grD (T := TX6) C S56.1 ga0 2 kF_X6_11 dX6_readSetting_164 rfl rfl (by decide) rfl (by decide) rfl (fun g57 => ?_)
                    replace g57 : G (fR D H56 6 a0 2) = 23 := by rw [S56.2.1.fR ga0 rfl (by decide) (by decide +kernel)]; exact hpre
                    rw [show fR D H56 6 a0 2 = dd from (S56.2.1.fR ga0 rfl (by decide) (by decide +kernel)).trans hdd]
                    refine q_gi (T := TX5) C S56.1 gdd 9 kF_X6_168 dX6_readSetting_167 rfl rfl (by decide) rfl (by decide) rfl ?_
                    have c58 : (fI D H56 5 dd 9).toInt = v55.toInt := by rw [Pt.i P56]
                    refine lv_iconst (v := -1) hx hb dX6_readSetting_170 (by decide) ?_
                    have k_m1 : (-1 : Int32).toInt = -1 := by decide
                    refine lv_icmp_eq (tgt := 178) hx hb dX6_readSetting_171 (by decide) (fun c59 => ?_) (fun c59 => ?_)
                    · have b59 : (fI D H56 5 dd 9).toInt = (-1 : Int32).toInt := i_eq.mp c59
                      exact absurd b59 (by omega)
                    · have b59 : ¬ (fI D H56 5 dd 9).toInt = (-1 : Int32).toInt := fun z9 => c59 (i_eq.mpr z9)
                      refine lv_iconst (v := 1) hx hb dX6_readSetting_174 (by decide) ?_
                      refine lv_goto (tgt := 179) hx hb dX6_readSetting_175 (by decide) ?_
                      have k_1 : (1 : Int32).toInt = 1 := by decide
                      exact retE_z hQ C S56 hr dX6_readSetting_179 (z01 (by omega) (by omega)) (⟨⟨by omega, fun _ h9 => tk56 h9⟩, RsP.ok (s1 := sg) (by simp [plnF, setF, hn1, hn2, hn3, y3, y19, y35, y51, w55, y55]) (by omega) ts56 (dv56), fun q hq _ => S56.2.1.fI hq rfl (by decide) (by decide +kernel)⟩)
                  · skip
                    refine q_put (T := TX5) C S55 gdd 9 kF_X6_168 dX6_readSetting_160 rfl rfl (by decide) (by decide) rfl rfl rfl rfl rfl (vok_a rfl) (by decide +kernel) (fun H60 L60 S60 P60 => ?_)
                    have tk60 : Gd D G s.heap → Gd D G H60 := fun h9  => (tk55 h9).put gdd P60 (Or.inl (by decide))
                    have wr60 : (fI D H60 9 tp 2).toInt = (((nx T b) : Nat) : Int) := by rw [Pt.f P60 (ne_role gtp gdd (by decide))]; exact wr55
                    have dv60 := dv_keep dv55 S55.1 (Or.inr gdd) (Pt.keep gdd rfl (by decide) P60)
                    refine lv_aload_n hx hb dX6_readSetting_163 rfl (lv_at hl 0 rfl) ?_
                    refine q_grD (T := TX6) C S60.1 ga0 2 kF_X6_11 dX6_readSetting_164 rfl rfl (by decide) rfl (by decide) rfl (fun g61 => ?_)
                    replace g61 : G (fR D H60 6 a0 2) = 23 := by rw [S60.2.1.fR ga0 rfl (by decide) (by decide +kernel)]; exact hpre
                    rw [show fR D H60 6 a0 2 = dd from (S60.2.1.fR ga0 rfl (by decide) (by decide +kernel)).trans hdd]
                    refine q_gi (T := TX5) C S60.1 gdd 9 kF_X6_168 dX6_readSetting_167 rfl rfl (by decide) rfl (by decide) rfl ?_
                    have c62 : (fI D H60 5 dd 9).toInt = v55.toInt := by rw [Pt.i P60]
                    refine lv_iconst (v := -1) hx hb dX6_readSetting_170 (by decide) ?_
                    have k_m1 : (-1 : Int32).toInt = -1 := by decide
                    refine lv_icmp_eq (tgt := 178) hx hb dX6_readSetting_171 (by decide) (fun c63 => ?_) (fun c63 => ?_)
                    · have b63 : (fI D H60 5 dd 9).toInt = (-1 : Int32).toInt := i_eq.mp c63
                      refine lv_iconst (v := 0) hx hb dX6_readSetting_178 (by decide) ?_
                      exact retE_z hQ C S60 hr dX6_readSetting_179 (z01 (by omega) (by omega)) (⟨⟨by omega, fun _ h9 => tk60 h9⟩, RsP.no (s1 := sg) (by simp [plnF, setF, hn1, hn2, hn3, y3, y19, y35, y51, w55, y55]) (by omega) wr60, fun q hq _ => S60.2.1.fI hq rfl (by decide) (by decide +kernel)⟩)
                    · have b63 : ¬ (fI D H60 5 dd 9).toInt = (-1 : Int32).toInt := fun z9 => c63 (i_eq.mpr z9)
                      exact absurd b63 (by omega)
                  · exact absurd y51 (by rw [w55]; decide)
              · skip
                refine lv_if_eq (tgt := 180) hx hb dX6_readSetting_144 (by decide) (fun c64 => ?_) (fun c64 => ?_)
                · have b64 : v51.toInt = (0 : Int32).toInt := i_eq.mp c64
                  refine lv_aload_n hx hb dX6_readSetting_180 rfl (lv_at hl 0 rfl) ?_
                  refine q_grS (T := TX6) C S.1 ga0 0 kF_X6_15 dX6_readSetting_181 rfl rfl (by decide) rfl (by decide) kSF_X6_tape (fun g65 => ?_)
                  rw [show fR D s.heap 6 a0 0 = tp from htp]
                  refine q_lds C ks_X6_170 dX6_readSetting_184 (fun a66 ha66 wa66 => ?_)
                  refine callV_Pi C S.1 S.2.1.2.1 (c_X9_isWord_f l D G tp a66 7 w_quarter T b gtp ha66 (Wc.of wa66 kw_quarter)) kV_X6_21 gtp (⟨trivial, ts0⟩) dX6_readSetting_186 hl.1 rfl rfl (by decide) cd_X9_isWord ⟨Nat.le_of_ble_eq_true rfl, Nat.le_of_ble_eq_true rfl, Nat.le_of_ble_eq_true rfl, Nat.le_of_ble_eq_true rfl, Nat.le_of_ble_eq_true rfl⟩ (fun v67 q67 => ?_)
                  obtain ⟨q67, fq67⟩ := q67
                  rcases fq67 with ⟨z67, y67⟩ | ⟨z67, y67⟩
                  · skip
                    refine lv_if_eq (tgt := 226) hx hb dX6_readSetting_189 (by decide) (fun c68 => ?_) (fun c68 => ?_)
                    · have b68 : v67.toInt = (0 : Int32).toInt := i_eq.mp c68
                      exact absurd b68 (by omega)
                    · have b68 : ¬ v67.toInt = (0 : Int32).toInt := fun z9 => c68 (i_eq.mpr z9)
                      refine lv_aload_n hx hb dX6_readSetting_192 rfl (lv_at hl 0 rfl) ?_
                      refine q_grD (T := TX6) C S.1 ga0 2 kF_X6_11 dX6_readSetting_193 rfl rfl (by decide) rfl (by decide) rfl (fun g69 => ?_)
                      replace g69 : G (fR D s.heap 6 a0 2) = 23 := by rw [S.2.1.fR ga0 rfl (by decide) (by decide +kernel)]; exact hpre
                      rw [show fR D s.heap 6 a0 2 = dd from hdd]
                      refine lv_aload_n hx hb dX6_readSetting_196 rfl (lv_at hl 0 rfl) ?_
                      refine q_lds C ks_X6_170 dX6_readSetting_197 (fun a70 ha70 wa70 => ?_)
                      refine lv_iconst (v := 0) hx hb dX6_readSetting_199 (by decide) ?_
                      refine lv_sipush (v := 999) hx hb dX6_readSetting_200 (by decide) ?_
                      have k_999 : (999 : Int32).toInt = 999 := by decide
                      refine callV_Ei C S (c_X6_numberAfter_f l D G a0 a70 7 (0 : Int32) (999 : Int32) w_quarter 0 999 tp T b ga0 ha70 (by omega) (Wc.of wa70 kw_quarter) (by omega) (by omega)) kV_X6_57 ga0 (⟨trivial, ⟨htp, ts0⟩⟩) (by decide +kernel) dX6_readSetting_203 hl.1 rfl rfl (by decide) cd_X6_numberAfter ⟨Nat.le_of_ble_eq_true rfl, Nat.le_of_ble_eq_true rfl, Nat.le_of_ble_eq_true rfl, Nat.le_of_ble_eq_true rfl, Nat.le_of_ble_eq_true rfl⟩ (fun v71 H71 L71 S71 K71 q71 => ?_)
                      obtain ⟨q71, fq71⟩ := q71
                      have tk71 : Gd D G s.heap → Gd D G H71 := fun h9  => (tk0 h9).keep K71 (by decide +kernel)
                      have dv71 := dv_keep dv0 S.1 (Or.inr gdd) K71
                      rcases fq71 with ⟨w71, y71, z71, ts71⟩ | ⟨w71, y71, z71, wr71⟩ | ⟨w71, z71, wr71⟩
                      · have u71 : 0 ≤ v71.toInt ∧ v71.toInt ≤ 999 := by have z9 := num_r (T := T) (b := nx T b) (lo := 0) (hi := 999) (by decide); omega
                        refine q_put (T := TX5) C S71 gdd 10 kF_X6_172 dX6_readSetting_206 rfl rfl (by decide) (by decide) rfl rfl rfl rfl rfl (vok_a rfl) (by decide +kernel) (fun H72 L72 S72 P72 => ?_)
                        have tk72 : Gd D G s.heap → Gd D G H72 := fun h9  => (tk71 h9).put gdd P72 (Or.inl (by decide))
                        have ts72 := ts71.cells S71.1 gtp gdd (by decide) (by decide) P72.2.2.1
                        have dv72 := dv_keep dv71 S71.1 (Or.inr gdd) (Pt.keep gdd rfl (by decide) P72)
                        refine lv_aload_n hx hb dX6_readSetting_209 rfl (lv_at hl 0 rfl) ?_
                        refine q_grD (T := TX6) C S72.1 ga0 2 kF_X6_11 dX6_readSetting_210 rfl rfl (by decide) rfl (by decide) rfl (fun g73 => ?_)
                        replace g73 : G (fR D H72 6 a0 2) = 23 := by rw [S72.2.1.fR ga0 rfl (by decide) (by decide +kernel)]; exact hpre
                        rw [show fR D H72 6 a0 2 = dd from (S72.2.1.fR ga0 rfl (by decide) (by decide +kernel)).trans hdd]
                        refine q_gi (T := TX5) C S72.1 gdd 10 kF_X6_172 dX6_readSetting_213 rfl rfl (by decide) rfl (by decide) rfl ?_
                        have c74 : (fI D H72 5 dd 10).toInt = v71.toInt := by rw [Pt.i P72]
                        refine lv_iconst (v := -1) hx hb dX6_readSetting_216 (by decide) ?_
                        have k_m1 : (-1 : Int32).toInt = -1 := by decide
                        refine lv_icmp_eq (tgt := 224) hx hb dX6_readSetting_217 (by decide) (fun c75 => ?_) (fun c75 => ?_)
                        · have b75 : (fI D H72 5 dd 10).toInt = (-1 : Int32).toInt := i_eq.mp c75
                          exact absurd b75 (by omega)
                        · have b75 : ¬ (fI D H72 5 dd 10).toInt = (-1 : Int32).toInt := fun z9 => c75 (i_eq.mpr z9)
                          refine lv_iconst (v := 1) hx hb dX6_readSetting_220 (by decide) ?_
                          refine lv_goto (tgt := 225) hx hb dX6_readSetting_221 (by decide) ?_
                          have k_1 : (1 : Int32).toInt = 1 := by decide
                          exact retE_z hQ C S72 hr dX6_readSetting_225 (z01 (by omega) (by omega)) (⟨⟨by omega, fun _ h9 => tk72 h9⟩, RsP.ok (s1 := sg) (by simp [plnF, setF, hn1, hn2, hn3, y3, y19, y35, y51, y67, w71, y71]) (by omega) ts72 (dv72), fun q hq _ => S72.2.1.fI hq rfl (by decide) (by decide +kernel)⟩)
                      · skip
                        refine q_put (T := TX5) C S71 gdd 10 kF_X6_172 dX6_readSetting_206 rfl rfl (by decide) (by decide) rfl rfl rfl rfl rfl (vok_a rfl) (by decide +kernel) (fun H76 L76 S76 P76 => ?_)
                        have tk76 : Gd D G s.heap → Gd D G H76 := fun h9  => (tk71 h9).put gdd P76 (Or.inl (by decide))
                        have wr76 : (fI D H76 9 tp 2).toInt = (((nx T b) : Nat) : Int) := by rw [Pt.f P76 (ne_role gtp gdd (by decide))]; exact wr71
                        have dv76 := dv_keep dv71 S71.1 (Or.inr gdd) (Pt.keep gdd rfl (by decide) P76)
                        refine lv_aload_n hx hb dX6_readSetting_209 rfl (lv_at hl 0 rfl) ?_
                        refine q_grD (T := TX6) C S76.1 ga0 2 kF_X6_11 dX6_readSetting_210 rfl rfl (by decide) rfl (by decide) rfl (fun g77 => ?_)
                        replace g77 : G (fR D H76 6 a0 2) = 23 := by rw [S76.2.1.fR ga0 rfl (by decide) (by decide +kernel)]; exact hpre
                        rw [show fR D H76 6 a0 2 = dd from (S76.2.1.fR ga0 rfl (by decide) (by decide +kernel)).trans hdd]
                        refine q_gi (T := TX5) C S76.1 gdd 10 kF_X6_172 dX6_readSetting_213 rfl rfl (by decide) rfl (by decide) rfl ?_
                        have c78 : (fI D H76 5 dd 10).toInt = v71.toInt := by rw [Pt.i P76]
                        refine lv_iconst (v := -1) hx hb dX6_readSetting_216 (by decide) ?_
                        have k_m1 : (-1 : Int32).toInt = -1 := by decide
                        refine lv_icmp_eq (tgt := 224) hx hb dX6_readSetting_217 (by decide) (fun c79 => ?_) (fun c79 => ?_)
                        · have b79 : (fI D H76 5 dd 10).toInt = (-1 : Int32).toInt := i_eq.mp c79
                          refine lv_iconst (v := 0) hx hb dX6_readSetting_224 (by decide) ?_
                          exact retE_z hQ C S76 hr dX6_readSetting_225 (z01 (by omega) (by omega)) (⟨⟨by omega, fun _ h9 => tk76 h9⟩, RsP.no (s1 := sg) (by simp [plnF, setF, hn1, hn2, hn3, y3, y19, y35, y51, y67, w71, y71]) (by omega) wr76, fun q hq _ => S76.2.1.fI hq rfl (by decide) (by decide +kernel)⟩)
                        · have b79 : ¬ (fI D H76 5 dd 10).toInt = (-1 : Int32).toInt := fun z9 => c79 (i_eq.mpr z9)
                          exact absurd b79 (by omega)
                      · exact absurd y67 (by rw [w71]; decide)
                  · skip
                    refine lv_if_eq (tgt := 226) hx hb dX6_readSetting_189 (by decide) (fun c80 => ?_) (fun c80 => ?_)
                    · have b80 : v67.toInt = (0 : Int32).toInt := i_eq.mp c80
                      refine lv_aload_n hx hb dX6_readSetting_226 rfl (lv_at hl 0 rfl) ?_
                      refine q_grS (T := TX6) C S.1 ga0 0 kF_X6_15 dX6_readSetting_227 rfl rfl (by decide) rfl (by decide) kSF_X6_tape (fun g81 => ?_)
                      rw [show fR D s.heap 6 a0 0 = tp from htp]
                      refine callV_Ei C S (c_X9_refuse_f l D G tp T b gtp) kV_X6_50 gtp (⟨trivial, ts0⟩) (by decide +kernel) dX6_readSetting_230 hl.1 rfl rfl (by decide) cd_X9_refuse ⟨Nat.le_of_ble_eq_true rfl, Nat.le_of_ble_eq_true rfl, Nat.le_of_ble_eq_true rfl, Nat.le_of_ble_eq_true rfl, Nat.le_of_ble_eq_true rfl⟩ (fun v82 H82 L82 S82 K82 q82 => ?_)
                      obtain ⟨q82, fq82⟩ := q82
                      have tk82 : Gd D G s.heap → Gd D G H82 := fun h9  => (tk0 h9).keep K82 (by decide +kernel)
                      have dv82 := dv_keep dv0 S.1 (Or.inr gdd) K82
                      have z82 := fq82.1
                      exact retE_z hQ C S82 hr dX6_readSetting_233 (z01 (by omega) (by omega)) (⟨⟨by omega, fun _ h9 => tk82 h9⟩, RsP.no (s1 := sg) (by simp [plnF, setF, hn1, hn2, hn3, y3, y19, y35, y51, y67]) (by omega) fq82.2, fun q hq _ => S82.2.1.fI hq rfl (by decide) (by decide +kernel)⟩)
                    · have b80 : ¬ v67.toInt = (0 : Int32).toInt := fun z9 => c80 (i_eq.mpr z9)
                      exact absurd b80 (by omega)
                · have b64 : ¬ v51.toInt = (0 : Int32).toInt := fun z9 => c64 (i_eq.mpr z9)
                  exact absurd b64 (by omega)
            · have b48 : ¬ v35.toInt = (0 : Int32).toInt := fun z9 => c48 (i_eq.mpr z9)
              exact absurd b48 (by omega)
        · have b32 : ¬ v19.toInt = (0 : Int32).toInt := fun z9 => c32 (i_eq.mpr z9)
          exact absurd b32 (by omega)
    · have b16 : ¬ v3.toInt = (0 : Int32).toInt := fun z9 => c16 (i_eq.mpr z9)
      exact absurd b16 (by omega)

set_option maxRecDepth 100000 in
set_option maxHeartbeats 4000000 in
theorem c_X6_readLine_f (l : Launch) (D : DD) (G : Nat → Nat) (a0 : Nat) (dd : Nat) (sg : Sg) (tp : Nat) (T : Tx) (b : Nat) (ga0 : G a0 = 20) : CE l D G yX6_readLine cX6_readLine 1 (some .boolean) 8 [.ref a0] (fun H => (G (fR D H 6 a0 2) = 23) ∧ (fR D H 6 a0 0 = tp ∧ TS D H tp T b ∧ fR D H 6 a0 2 = dd ∧ DS D H dd ∧ SV (pv D H dd) sg)) [(2, 3), (2, 4), (2, 5), (2, 6), (2, 2), (7, 0), (7, 1), (7, 2), (7, 3), (7, 4), (23, 3), (25, 0), (25, 1), (25, 2), (25, 3), (25, 4), (25, 5), (23, 4), (23, 6), (23, 7), (23, 8), (23, 9), (23, 10)] (xI (fun H r H1 => ((0 ≤ r.toInt ∧ r.toInt ≤ 1) ∧ (r.toInt = 1 → Gd D G H → Gd D G H1)) ∧ (RsP D H1 tp dd T (plnF T sg b) r) ∧ (FH D G H H1 dd))) := by
  refine enter (by decide) (Nat.le_of_ble_eq_true rfl) ?_
  intro p e s m args below meth c ls Q hA hQ C hr hO hpre hl
  have hx := C.1
  have hb := C.2.1
  have S : Sd D G [(2, 3), (2, 4), (2, 5), (2, 6), (2, 2), (7, 0), (7, 1), (7, 2), (7, 3), (7, 4), (23, 3), (25, 0), (25, 1), (25, 2), (25, 3), (25, 4), (25, 5), (23, 4), (23, 6), (23, 7), (23, 8), (23, 9), (23, 10)] s.heap s.heap [] := Sd.start hO
  have hl : lv_has ls 1 [(0, .ref a0)] := hl
  obtain ⟨hpre, hf⟩ := hpre
  obtain ⟨htp, ts0, hdd, ds0, dv0⟩ := hf
  have gtp : G tp = 2 := by rw [← htp]; exact hO.rol ga0 rfl (by decide) rfl
  have gdd : G dd = 23 := by rw [← hdd]; exact hpre
  have hT : T.2 ≤ 400 := ts0.le hO gtp
  have tk0 : Gd D G s.heap → Gd D G s.heap := fun h => h
  refine lv_aload_n hx hb dX6_readLine_0 rfl (lv_at hl 0 rfl) ?_
  refine q_grS (T := TX6) C S.1 ga0 0 kF_X6_15 dX6_readLine_1 rfl rfl (by decide) rfl (by decide) kSF_X6_tape (fun g1 => ?_)
  rw [show fR D s.heap 6 a0 0 = tp from htp]
  refine q_lds C ks_X6_19 dX6_readLine_4 (fun a2 ha2 wa2 => ?_)
  refine callV_Pi C S.1 S.2.1.2.1 (c_X9_isWord_f l D G tp a2 5 w_house T b gtp ha2 (Wc.of wa2 kw_house)) kV_X6_21 gtp (⟨trivial, ts0⟩) dX6_readLine_6 hl.1 rfl rfl (by decide) cd_X9_isWord ⟨Nat.le_of_ble_eq_true rfl, Nat.le_of_ble_eq_true rfl, Nat.le_of_ble_eq_true rfl, Nat.le_of_ble_eq_true rfl, Nat.le_of_ble_eq_true rfl⟩ (fun v3 q3 => ?_)
  obtain ⟨q3, fq3⟩ := q3
  rcases fq3 with ⟨z3, y3⟩ | ⟨z3, y3⟩
  · skip
    have k_0 : (0 : Int32).toInt = 0 := by decide
    refine lv_if_eq (tgt := 17) hx hb dX6_readLine_9 (by decide) (fun c4 => ?_) (fun c4 => ?_)
    · have b4 : v3.toInt = (0 : Int32).toInt := i_eq.mp c4
      exact absurd b4 (by omega)
    · have b4 : ¬ v3.toInt = (0 : Int32).toInt := fun z9 => c4 (i_eq.mpr z9)
      refine lv_aload_n hx hb dX6_readLine_12 rfl (lv_at hl 0 rfl) ?_
      refine callV_Ei C S (c_X6_readHouse_f l D G a0 dd sg tp T b ga0 y3) kV_X6_27 ga0 (⟨by rw [S.2.1.fR ga0 rfl (by decide) (by decide +kernel)]; exact hpre, htp, ts0, hdd, ds0, dv0⟩) (by decide +kernel) dX6_readLine_13 hl.1 rfl rfl (by decide) cd_X6_readHouse ⟨Nat.le_of_ble_eq_true rfl, Nat.le_of_ble_eq_true rfl, Nat.le_of_ble_eq_true rfl, Nat.le_of_ble_eq_true rfl, Nat.le_of_ble_eq_true rfl⟩ (fun v5 H5 L5 S5 K5 q5 => ?_)
      obtain ⟨q5, fq5, fr5⟩ := q5
      obtain ⟨q5, tq5⟩ := q5
      have tk5 : Gd D G s.heap → (v5.toInt = 1) → Gd D G H5 := fun h9 k90 => tq5 k90 (tk0 h9)
      rcases fq5 with ⟨c5, s5, y5, z5, ts5, dv5⟩ | ⟨e5, s5, y5, z5, wr5⟩
      · skip
        exact retE_z hQ C S5 hr dX6_readLine_16 (z01 (by omega) (by omega)) (⟨⟨by omega, fun _ h9 => tk5 h9 (by omega)⟩, RsP.ok (s1 := s5) (by simp [plnF, y3, y5]) (by omega) ts5 (dv5), fr5⟩)
      · skip
        exact retE_z hQ C S5 hr dX6_readLine_16 (z01 (by omega) (by omega)) (⟨⟨by omega, fun _ h9 => tk5 h9 (by omega)⟩, RsP.no (s1 := s5) (by simp [plnF, y3, y5]) (by omega) wr5, fr5⟩)
  · skip
    have k_0 : (0 : Int32).toInt = 0 := by decide
    refine lv_if_eq (tgt := 17) hx hb dX6_readLine_9 (by decide) (fun c6 => ?_) (fun c6 => ?_)
    · have b6 : v3.toInt = (0 : Int32).toInt := i_eq.mp c6
      refine lv_aload_n hx hb dX6_readLine_17 rfl (lv_at hl 0 rfl) ?_
      refine q_grS (T := TX6) C S.1 ga0 0 kF_X6_15 dX6_readLine_18 rfl rfl (by decide) rfl (by decide) kSF_X6_tape (fun g7 => ?_)
      rw [show fR D s.heap 6 a0 0 = tp from htp]
      refine q_lds C ks_X6_31 dX6_readLine_21 (fun a8 ha8 wa8 => ?_)
      refine callV_Pi C S.1 S.2.1.2.1 (c_X9_isWord_f l D G tp a8 4 w_sees T b gtp ha8 (Wc.of wa8 kw_sees)) kV_X6_21 gtp (⟨trivial, ts0⟩) dX6_readLine_23 hl.1 rfl rfl (by decide) cd_X9_isWord ⟨Nat.le_of_ble_eq_true rfl, Nat.le_of_ble_eq_true rfl, Nat.le_of_ble_eq_true rfl, Nat.le_of_ble_eq_true rfl, Nat.le_of_ble_eq_true rfl⟩ (fun v9 q9 => ?_)
      obtain ⟨q9, fq9⟩ := q9
      rcases fq9 with ⟨z9, y9⟩ | ⟨z9, y9⟩
      · skip
        refine lv_if_eq (tgt := 34) hx hb dX6_readLine_26 (by decide) (fun c10 => ?_) (fun c10 => ?_)
        · have b10 : v9.toInt = (0 : Int32).toInt := i_eq.mp c10
          exact absurd b10 (by omega)
        · have b10 : ¬ v9.toInt = (0 : Int32).toInt := fun z9 => c10 (i_eq.mpr z9)
          refine lv_aload_n hx hb dX6_readLine_29 rfl (lv_at hl 0 rfl) ?_
          refine callV_Ei C S (c_X6_readSees_f l D G a0 dd sg tp T b ga0 y9) kV_X6_33 ga0 (⟨by rw [S.2.1.fR ga0 rfl (by decide) (by decide +kernel)]; exact hpre, htp, ts0, hdd, ds0, dv0⟩) (by decide +kernel) dX6_readLine_30 hl.1 rfl rfl (by decide) cd_X6_readSees ⟨Nat.le_of_ble_eq_true rfl, Nat.le_of_ble_eq_true rfl, Nat.le_of_ble_eq_true rfl, Nat.le_of_ble_eq_true rfl, Nat.le_of_ble_eq_true rfl⟩ (fun v11 H11 L11 S11 K11 q11 => ?_)
          obtain ⟨q11, fq11, fr11⟩ := q11
          obtain ⟨q11, tq11⟩ := q11
          have tk11 : Gd D G s.heap → (v11.toInt = 1) → Gd D G H11 := fun h9 k90 => tq11 k90 (tk0 h9)
          rcases fq11 with ⟨c11, s11, y11, z11, ts11, dv11⟩ | ⟨e11, s11, y11, z11, wr11⟩
          · skip
            exact retE_z hQ C S11 hr dX6_readLine_33 (z01 (by omega) (by omega)) (⟨⟨by omega, fun _ h9 => tk11 h9 (by omega)⟩, RsP.ok (s1 := s11) (by simp [plnF, y3, y9, y11]) (by omega) ts11 (dv11), fr11⟩)
          · skip
            exact retE_z hQ C S11 hr dX6_readLine_33 (z01 (by omega) (by omega)) (⟨⟨by omega, fun _ h9 => tk11 h9 (by omega)⟩, RsP.no (s1 := s11) (by simp [plnF, y3, y9, y11]) (by omega) wr11, fr11⟩)
      · skip
        refine lv_if_eq (tgt := 34) hx hb dX6_readLine_26 (by decide) (fun c12 => ?_) (fun c12 => ?_)
        · have b12 : v9.toInt = (0 : Int32).toInt := i_eq.mp c12
          refine lv_aload_n hx hb dX6_readLine_34 rfl (lv_at hl 0 rfl) ?_
          refine q_grS (T := TX6) C S.1 ga0 0 kF_X6_15 dX6_readLine_35 rfl rfl (by decide) rfl (by decide) kSF_X6_tape (fun g13 => ?_)
          rw [show fR D s.heap 6 a0 0 = tp from htp]
          refine q_lds C ks_X6_36 dX6_readLine_38 (fun a14 ha14 wa14 => ?_)
          refine callV_Pi C S.1 S.2.1.2.1 (c_X9_isWord_f l D G tp a14 6 w_hearth T b gtp ha14 (Wc.of wa14 kw_hearth)) kV_X6_21 gtp (⟨trivial, ts0⟩) dX6_readLine_40 hl.1 rfl rfl (by decide) cd_X9_isWord ⟨Nat.le_of_ble_eq_true rfl, Nat.le_of_ble_eq_true rfl, Nat.le_of_ble_eq_true rfl, Nat.le_of_ble_eq_true rfl, Nat.le_of_ble_eq_true rfl⟩ (fun v15 q15 => ?_)
          obtain ⟨q15, fq15⟩ := q15
          rcases fq15 with ⟨z15, y15⟩ | ⟨z15, y15⟩
          · skip
            refine lv_if_eq (tgt := 51) hx hb dX6_readLine_43 (by decide) (fun c16 => ?_) (fun c16 => ?_)
            · have b16 : v15.toInt = (0 : Int32).toInt := i_eq.mp c16
              exact absurd b16 (by omega)
            · have b16 : ¬ v15.toInt = (0 : Int32).toInt := fun z9 => c16 (i_eq.mpr z9)
              refine lv_aload_n hx hb dX6_readLine_46 rfl (lv_at hl 0 rfl) ?_
              refine callV_Ei C S (c_X6_readHearth_f l D G a0 dd sg tp T b ga0) kV_X6_38 ga0 (⟨by rw [S.2.1.fR ga0 rfl (by decide) (by decide +kernel)]; exact hpre, htp, ts0, hdd, ds0, dv0⟩) (by decide +kernel) dX6_readLine_47 hl.1 rfl rfl (by decide) cd_X6_readHearth ⟨Nat.le_of_ble_eq_true rfl, Nat.le_of_ble_eq_true rfl, Nat.le_of_ble_eq_true rfl, Nat.le_of_ble_eq_true rfl, Nat.le_of_ble_eq_true rfl⟩ (fun v17 H17 L17 S17 K17 q17 => ?_)
              obtain ⟨q17, fq17, fr17⟩ := q17
              obtain ⟨q17, tq17⟩ := q17
              have tk17 : Gd D G s.heap → (v17.toInt = 1) → Gd D G H17 := fun h9 k90 => tq17 k90 (tk0 h9)
              rcases fq17 with ⟨c17, s17, y17, z17, ts17, dv17⟩ | ⟨e17, s17, y17, z17, wr17⟩
              · skip
                exact retE_z hQ C S17 hr dX6_readLine_50 (z01 (by omega) (by omega)) (⟨⟨by omega, fun _ h9 => tk17 h9 (by omega)⟩, RsP.ok (s1 := s17) (by simp [plnF, y3, y9, y15, y17]) (by omega) ts17 (dv17), fr17⟩)
              · skip
                exact retE_z hQ C S17 hr dX6_readLine_50 (z01 (by omega) (by omega)) (⟨⟨by omega, fun _ h9 => tk17 h9 (by omega)⟩, RsP.no (s1 := s17) (by simp [plnF, y3, y9, y15, y17]) (by omega) wr17, fr17⟩)
          · skip
            refine lv_if_eq (tgt := 51) hx hb dX6_readLine_43 (by decide) (fun c18 => ?_) (fun c18 => ?_)
            · have b18 : v15.toInt = (0 : Int32).toInt := i_eq.mp c18
              refine lv_aload_n hx hb dX6_readLine_51 rfl (lv_at hl 0 rfl) ?_
              refine callV_Ei C S (c_X6_readSetting_f l D G a0 dd sg tp T b ga0 y3 y9 y15) kV_X6_41 ga0 (⟨by rw [S.2.1.fR ga0 rfl (by decide) (by decide +kernel)]; exact hpre, htp, ts0, hdd, ds0, dv0⟩) (by decide +kernel) dX6_readLine_52 hl.1 rfl rfl (by decide) cd_X6_readSetting ⟨Nat.le_of_ble_eq_true rfl, Nat.le_of_ble_eq_true rfl, Nat.le_of_ble_eq_true rfl, Nat.le_of_ble_eq_true rfl, Nat.le_of_ble_eq_true rfl⟩ (fun v19 H19 L19 S19 K19 q19 => ?_)
              obtain ⟨q19, fq19, fr19⟩ := q19
              obtain ⟨q19, tq19⟩ := q19
              have tk19 : Gd D G s.heap → (v19.toInt = 1) → Gd D G H19 := fun h9 k90 => tq19 k90 (tk0 h9)
              rcases fq19 with ⟨c19, s19, y19, z19, ts19, dv19⟩ | ⟨e19, s19, y19, z19, wr19⟩
              · skip
                exact retE_z hQ C S19 hr dX6_readLine_55 (z01 (by omega) (by omega)) (⟨⟨by omega, fun _ h9 => tk19 h9 (by omega)⟩, RsP.ok (s1 := s19) (by simp [plnF, y3, y9, y15, y19]) (by omega) ts19 (dv19), fr19⟩)
              · skip
                exact retE_z hQ C S19 hr dX6_readLine_55 (z01 (by omega) (by omega)) (⟨⟨by omega, fun _ h9 => tk19 h9 (by omega)⟩, RsP.no (s1 := s19) (by simp [plnF, y3, y9, y15, y19]) (by omega) wr19, fr19⟩)
            · have b18 : ¬ v15.toInt = (0 : Int32).toInt := fun z9 => c18 (i_eq.mpr z9)
              exact absurd b18 (by omega)
        · have b12 : ¬ v9.toInt = (0 : Int32).toInt := fun z9 => c12 (i_eq.mpr z9)
          exact absurd b12 (by omega)
    · have b6 : ¬ v3.toInt = (0 : Int32).toInt := fun z9 => c6 (i_eq.mpr z9)
      exact absurd b6 (by omega)
