set_option maxRecDepth 100000 in
set_option maxHeartbeats 4000000 in
theorem c_X12_houses_v (l : Launch) (D : DD) (G : Nat → Nat) (a0 : Nat) (ga0 : G a0 = 30) : CP l D G yX12_houses cX12_houses 1 (some .int) 0 [.ref a0] (fun _ => True) (pI (fun H r => (0 ≤ r.toInt ∧ r.toInt ≤ 6) ∧ r.toInt = (eI H (fR D H 11 a0 1) 0).toInt)) := by
  refine enter (by decide) (Nat.le_of_ble_eq_true rfl) ?_
  intro p e s m args below meth c ls Q hA hQ C hr hO hpre hl
  have hx := C.1
  have hb := C.2.1
  have hl : lv_has ls 1 [(0, .ref a0)] := hl
  refine lv_aload_n hx hb dX12_houses_0 rfl (lv_at hl 0 rfl) ?_
  refine q_gr (T := TX12) C hO ga0 1 kF_X12_13 dX12_houses_1 rfl rfl (by decide) rfl (by decide) rfl (fun g1 => ?_)
  refine lv_iconst (v := 0) hx hb dX12_houses_4 (by decide) ?_
  have n2 : aN s.heap (fR D s.heap 11 a0 1) = 2052 := len_31 hO g1
  have k_0 : (0 : Int32).toInt = 0 := by decide
  refine q_iald C hO g1 (by omega) (by omega) dX12_houses_5 rfl (by decide) ?_
  refine lv_topi (fun v3 ev3 => ?_)
  have wv3 : 0 ≤ v3.toInt ∧ v3.toInt ≤ 6 := by rw [ev3]; exact wl_0 hO g1
  have yv3 : v3.toInt = (eI s.heap (fR D s.heap 11 a0 1) 0).toInt := by rw [ev3]; rfl
  exact retP_i hQ C hr dX12_houses_6 (⟨by omega, by omega⟩)

set_option maxRecDepth 100000 in
set_option maxHeartbeats 4000000 in
theorem c_X12_hearths_v (l : Launch) (D : DD) (G : Nat → Nat) (a0 : Nat) (ga0 : G a0 = 30) : CP l D G yX12_hearths cX12_hearths 1 (some .int) 0 [.ref a0] (fun _ => True) (pI (fun H r => (0 ≤ r.toInt ∧ r.toInt ≤ 12) ∧ r.toInt = (eI H (fR D H 11 a0 1) 1).toInt)) := by
  refine enter (by decide) (Nat.le_of_ble_eq_true rfl) ?_
  intro p e s m args below meth c ls Q hA hQ C hr hO hpre hl
  have hx := C.1
  have hb := C.2.1
  have hl : lv_has ls 1 [(0, .ref a0)] := hl
  refine lv_aload_n hx hb dX12_hearths_0 rfl (lv_at hl 0 rfl) ?_
  refine q_gr (T := TX12) C hO ga0 1 kF_X12_13 dX12_hearths_1 rfl rfl (by decide) rfl (by decide) rfl (fun g1 => ?_)
  refine lv_iconst (v := 1) hx hb dX12_hearths_4 (by decide) ?_
  have n2 : aN s.heap (fR D s.heap 11 a0 1) = 2052 := len_31 hO g1
  have k_1 : (1 : Int32).toInt = 1 := by decide
  refine q_iald C hO g1 (by omega) (by omega) dX12_hearths_5 rfl (by decide) ?_
  refine lv_topi (fun v3 ev3 => ?_)
  have wv3 : 0 ≤ v3.toInt ∧ v3.toInt ≤ 12 := by rw [ev3]; exact wl_1 hO g1
  have yv3 : v3.toInt = (eI s.heap (fR D s.heap 11 a0 1) 1).toInt := by rw [ev3]; rfl
  exact retP_i hQ C hr dX12_hearths_6 (⟨by omega, by omega⟩)

set_option maxRecDepth 100000 in
set_option maxHeartbeats 4000000 in
theorem c_X12_ofHearth_v (l : Launch) (D : DD) (G : Nat → Nat) (a0 : Nat) (x1 : Int32) (x2 : Int32) (ga0 : G a0 = 30) (ix1 : 0 ≤ x1.toInt ∧ x1.toInt ≤ 11) (ix2 : 0 ≤ x2.toInt ∧ x2.toInt ≤ 5) : CP l D G yX12_ofHearth cX12_ofHearth 3 (some .int) 1 [.ref a0, .int x1, .int x2] (fun _ => True) (pI (fun H r => r.toInt = (eI H (fR D H 11 a0 1) (42 + 6 * x1.toInt.toNat + x2.toInt.toNat)).toInt)) := by
  refine enter (by decide) (Nat.le_of_ble_eq_true rfl) ?_
  intro p e s m args below meth c ls Q hA hQ C hr hO hpre hl
  have hx := C.1
  have hb := C.2.1
  have hl : lv_has ls 3 [(0, .ref a0), (1, .int x1), (2, .int x2)] := hl
  refine lv_aload_n hx hb dX12_ofHearth_0 rfl (lv_at hl 0 rfl) ?_
  refine q_gr (T := TX12) C hO ga0 1 kF_X12_13 dX12_ofHearth_1 rfl rfl (by decide) rfl (by decide) rfl (fun g1 => ?_)
  refine lv_iload_n hx hb dX12_ofHearth_4 rfl (lv_at hl 1 rfl) ?_
  refine lv_iload_n hx hb dX12_ofHearth_5 rfl (lv_at hl 2 rfl) ?_
  refine callS_Pi C hO (fun _ _ _ => rfl) (c_X12_hearthAt l D G x1 x2 (by omega) (by omega)) kS_X12_53 (trivial) dX12_ofHearth_6 hl.1 cd_X12_hearthAt ⟨Nat.le_of_ble_eq_true rfl, Nat.le_of_ble_eq_true rfl, Nat.le_of_ble_eq_true rfl, Nat.le_of_ble_eq_true rfl, Nat.le_of_ble_eq_true rfl⟩ (fun v2 q2 => ?_)
  have n3 : aN s.heap (fR D s.heap 11 a0 1) = 2052 := len_31 hO g1
  refine q_iald C hO g1 (by omega) (by omega) dX12_ofHearth_9 rfl (by decide) ?_
  refine lv_topi (fun v4 ev4 => ?_)
  have yv4 : v4.toInt = (eI s.heap (fR D s.heap 11 a0 1) (42 + 6 * x1.toInt.toNat + x2.toInt.toNat)).toInt := by rw [ev4, show v2.toInt.toNat = 42 + 6 * x1.toInt.toNat + x2.toInt.toNat by omega]
  exact retP_i hQ C hr dX12_ofHearth_10 (by omega)

set_option maxRecDepth 100000 in
set_option maxHeartbeats 4000000 in
theorem c_X12_isOf_v (l : Launch) (D : DD) (G : Nat → Nat) (a0 : Nat) (x1 : Int32) (x2 : Int32) (ga0 : G a0 = 30) (ix1 : 0 ≤ x1.toInt ∧ x1.toInt ≤ 11) : CP l D G yX12_isOf cX12_isOf 3 (some .boolean) 2 [.ref a0, .int x1, .int x2] (fun _ => True) (pI (fun H r => (r.toInt = 1 ∧ (eI H (fR D H 11 a0 1) (42 + 6 * x1.toInt.toNat)).toInt = x2.toInt) ∨ (r.toInt = 0 ∧ (eI H (fR D H 11 a0 1) (42 + 6 * x1.toInt.toNat)).toInt ≠ x2.toInt))) := by
  refine enter (by decide) (Nat.le_of_ble_eq_true rfl) ?_
  intro p e s m args below meth c ls Q hA hQ C hr hO hpre hl
  have hx := C.1
  have hb := C.2.1
  have hl : lv_has ls 3 [(0, .ref a0), (1, .int x1), (2, .int x2)] := hl
  refine lv_aload_n hx hb dX12_isOf_0 rfl (lv_at hl 0 rfl) ?_
  refine lv_iload_n hx hb dX12_isOf_1 rfl (lv_at hl 1 rfl) ?_
  refine lv_iconst (v := 0) hx hb dX12_isOf_2 (by decide) ?_
  have k_0 : (0 : Int32).toInt = 0 := by decide
  refine callV_Pi C hO (fun _ _ _ => rfl) (c_X12_ofHearth_v l D G a0 x1 (0 : Int32) ga0 (by omega) (by omega)) kV_X12_56 ga0 (trivial) dX12_isOf_3 hl.1 rfl rfl (by decide) cd_X12_ofHearth ⟨Nat.le_of_ble_eq_true rfl, Nat.le_of_ble_eq_true rfl, Nat.le_of_ble_eq_true rfl, Nat.le_of_ble_eq_true rfl, Nat.le_of_ble_eq_true rfl⟩ (fun v1 q1 => ?_)
  rw [show (0 : Int32).toInt.toNat = 0 by decide, Nat.add_zero] at q1
  refine lv_iload_n hx hb dX12_isOf_6 rfl (lv_at hl 2 rfl) ?_
  refine lv_icmp_ne (tgt := 14) hx hb dX12_isOf_7 (by decide) (fun c2 => ?_) (fun c2 => ?_)
  · have b2 : ¬ v1.toInt = x2.toInt := fun z9 => c2 (i_eq.mpr z9)
    refine lv_iconst (v := 0) hx hb dX12_isOf_14 (by decide) ?_
    exact retP_z hQ C hr dX12_isOf_15 (z01 (by omega) (by omega)) (by omega)
  · have b2 : v1.toInt = x2.toInt := i_eq.mp c2
    refine lv_iconst (v := 1) hx hb dX12_isOf_10 (by decide) ?_
    refine lv_goto (tgt := 15) hx hb dX12_isOf_11 (by decide) ?_
    have k_1 : (1 : Int32).toInt = 1 := by decide
    exact retP_z hQ C hr dX12_isOf_15 (z01 (by omega) (by omega)) (by omega)

set_option maxRecDepth 100000 in
set_option maxHeartbeats 4000000 in
theorem c_X12_hearthsOf_v (l : Launch) (D : DD) (G : Nat → Nat) (a0 : Nat) (x1 : Int32) (sg : Sg) (ga0 : G a0 = 30) : CP l D G yX12_hearthsOf cX12_hearthsOf 4 (some .int) 3 [.ref a0, .int x1] (fun H => MV D H a0 sg) (pI (fun H r => (0 ≤ r.toInt ∧ r.toInt ≤ 4095) ∧ r.toInt = ((bto sg x1.toInt (sg 1).toNat : Nat) : Int))) := by
  refine enter (by decide) (Nat.le_of_ble_eq_true rfl) ?_
  intro p e s m args below meth c ls Q hA hQ C hr hO hpre hl
  have hx := C.1
  have hb := C.2.1
  have hl : lv_has ls 4 [(0, .ref a0), (1, .int x1)] := hl
  have ct0 := mv_1 hpre
  refine lv_iconst (v := 0) hx hb dX12_hearthsOf_0 (by decide) ?_
  refine lv_istore_n (lv' := [(2, .int (0 : Int32)), (0, .ref a0), (1, .int x1)]) hx hb dX12_hearthsOf_1 rfl hl (by decide) rfl (fun ls hl => ?_)
  refine lv_iconst (v := 0) hx hb dX12_hearthsOf_2 (by decide) ?_
  refine lv_istore_n (lv' := [(3, .int (0 : Int32)), (2, .int (0 : Int32)), (0, .ref a0), (1, .int x1)]) hx hb dX12_hearthsOf_3 rfl hl (by decide) rfl (fun ls hl => ?_)
  have Lp4 : ∀ (n : Nat) (x3_4 : Int32) (x2_4 : Int32) (ls : Array Slot), (0 ≤ x3_4.toInt ∧ x3_4.toInt ≤ 12) → (0 ≤ x2_4.toInt ∧ x2_4.toInt ≤ 4095) → (x2_4.toInt = ((bto sg x1.toInt x3_4.toInt.toNat : Nat) : Int)) → 13 - x3_4.toInt ≤ (n : Int) → lv_has ls 4 [(3, .int x3_4), (2, .int x2_4), (0, .ref a0), (1, .int x1)] → W p l e (rmU 3 0 0) s m args below meth c s.heap [] 0 0 Q (F0 m 4 ls []) := by
    intro n
    induction n with
    | zero =>
      intro x3_4 x2_4 ls j4_0 j4_1 u4_0 hn hl
      exact absurd hn (by omega)
    | succ n ih4 =>
      intro x3_4 x2_4 ls j4_0 j4_1 u4_0 hn hl
      refine lv_iload_n hx hb dX12_hearthsOf_4 rfl (lv_at hl 0 rfl) ?_
      refine lv_aload_n hx hb dX12_hearthsOf_5 rfl (lv_at hl 2 rfl) ?_
      refine callV_Pi C hO (fun _ _ _ => rfl) (c_X12_hearths_v l D G a0 ga0) kV_X12_67 ga0 (trivial) dX12_hearthsOf_6 hl.1 rfl rfl (by decide) cd_X12_hearths ⟨Nat.le_of_ble_eq_true rfl, Nat.le_of_ble_eq_true rfl, Nat.le_of_ble_eq_true rfl, Nat.le_of_ble_eq_true rfl, Nat.le_of_ble_eq_true rfl⟩ (fun v1 q1 => ?_)
      refine lv_icmp_ge (tgt := 37) hx hb dX12_hearthsOf_9 (by decide) (fun c2 => ?_) (fun c2 => ?_)
      · have b2 : v1.toInt ≤ x3_4.toInt := i_le.mp c2
        refine lv_iload_n hx hb dX12_hearthsOf_37 rfl (lv_at hl 1 rfl) ?_
        exact retP_i hQ C hr dX12_hearthsOf_38 (⟨by omega, by rw [show (sg 1).toNat = x3_4.toInt.toNat by omega]; exact u4_0⟩)
      · have b2 : ¬ v1.toInt ≤ x3_4.toInt := fun z9 => c2 (i_le.mpr z9)
        refine lv_iload_n hx hb dX12_hearthsOf_12 rfl (lv_at hl 1 rfl) ?_
        refine lv_aload_n hx hb dX12_hearthsOf_13 rfl (lv_at hl 2 rfl) ?_
        refine lv_iload_n hx hb dX12_hearthsOf_14 rfl (lv_at hl 0 rfl) ?_
        refine lv_iload_n hx hb dX12_hearthsOf_15 rfl (lv_at hl 3 rfl) ?_
        refine callV_Pi C hO (fun _ _ _ => rfl) (c_X12_isOf_v l D G a0 x3_4 x1 ga0 (by omega)) kV_X12_70 ga0 (trivial) dX12_hearthsOf_16 hl.1 rfl rfl (by decide) cd_X12_isOf ⟨Nat.le_of_ble_eq_true rfl, Nat.le_of_ble_eq_true rfl, Nat.le_of_ble_eq_true rfl, Nat.le_of_ble_eq_true rfl, Nat.le_of_ble_eq_true rfl⟩ (fun v3 q3 => ?_)
        have k_0 : (0 : Int32).toInt = 0 := by decide
        refine lv_if_eq (tgt := 28) hx hb dX12_hearthsOf_19 (by decide) (fun c4 => ?_) (fun c4 => ?_)
        · have b4 : v3.toInt = (0 : Int32).toInt := i_eq.mp c4
          refine lv_iconst (v := 0) hx hb dX12_hearthsOf_28 (by decide) ?_
          refine lv_ior hx hb dX12_hearthsOf_29 ?_
          refine lv_topi (fun v5 ev5 => ?_)
          have f6 : 0 ≤ v5.toInt ∧ v5.toInt < 4096 := by rw [ev5]; exact i_or 12 (by omega) (by omega) (by omega) (by omega)
          refine lv_istore_n (lv' := [(2, .int v5), (3, .int x3_4), (0, .ref a0), (1, .int x1)]) hx hb dX12_hearthsOf_30 rfl hl (by decide) rfl (fun ls hl => ?_)
          obtain ⟨v7, ev7⟩ : ∃ y : Int32, y = x3_4 + (1) := ⟨_, rfl⟩
          have k_1 : (1 : Int32).toInt = 1 := by decide
          have f8 : v7.toInt = x3_4.toInt + (1) := by rw [ev7]; exact i_addc k_1 (by omega) (by omega)
          refine lv_iinc (v := v7) (lv' := [(3, .int v7), (2, .int v5), (0, .ref a0), (1, .int x1)]) hx hb dX12_hearthsOf_31 hl (k := 1) rfl (by rw [ev7]; rfl) (by decide) rfl (fun ls hl => ?_)
          refine lv_goto (tgt := 4) hx hb dX12_hearthsOf_34 (by decide) ?_
          exact ih4 v7 v5 ls (by omega) (by omega) (by rw [show v7.toInt.toNat = x3_4.toInt.toNat + 1 by omega, bto_o (by rw [← mv_h hpre (by omega)]; omega), ev5]; rw [show (x2_4 ||| (0 : Int32)) = x2_4 by simp]; exact u4_0) (by omega) (lv_sub hl [0, 1, 2, 3] rfl)
        · have b4 : ¬ v3.toInt = (0 : Int32).toInt := fun z9 => c4 (i_eq.mpr z9)
          refine lv_iconst (v := 1) hx hb dX12_hearthsOf_22 (by decide) ?_
          refine lv_iload_n hx hb dX12_hearthsOf_23 rfl (lv_at hl 0 rfl) ?_
          have k_1 : (1 : Int32).toInt = 1 := by decide
          refine lv_ishl hx hb dX12_hearthsOf_24 ?_
          refine lv_topi (fun v9 ev9 => ?_)
          have f10 : 1 ≤ v9.toInt ∧ v9.toInt ≤ 2048 := by rw [ev9]; exact i_shl1 11 (by omega) (by omega) (by decide)
          refine lv_goto (tgt := 29) hx hb dX12_hearthsOf_25 (by decide) ?_
          refine lv_ior hx hb dX12_hearthsOf_29 ?_
          refine lv_topi (fun v11 ev11 => ?_)
          have f12 : 0 ≤ v11.toInt ∧ v11.toInt < 4096 := by rw [ev11]; exact i_or 12 (by omega) (by omega) (by omega) (by omega)
          refine lv_istore_n (lv' := [(2, .int v11), (3, .int x3_4), (0, .ref a0), (1, .int x1)]) hx hb dX12_hearthsOf_30 rfl hl (by decide) rfl (fun ls hl => ?_)
          obtain ⟨v13, ev13⟩ : ∃ y : Int32, y = x3_4 + (1) := ⟨_, rfl⟩
          have f14 : v13.toInt = x3_4.toInt + (1) := by rw [ev13]; exact i_addc k_1 (by omega) (by omega)
          refine lv_iinc (v := v13) (lv' := [(3, .int v13), (2, .int v11), (0, .ref a0), (1, .int x1)]) hx hb dX12_hearthsOf_31 hl (k := 1) rfl (by rw [ev13]; rfl) (by decide) rfl (fun ls hl => ?_)
          refine lv_goto (tgt := 4) hx hb dX12_hearthsOf_34 (by decide) ?_
          exact ih4 v13 v11 ls (by omega) (by omega) (by rw [show v13.toInt.toNat = x3_4.toInt.toNat + 1 by omega, bto_s (by rw [← mv_h hpre (by omega)]; omega), ev11]; exact or_add u4_0 (bto_lt _ _ _) (sh1 (by omega) (by omega) ev9) (by omega)) (by omega) (lv_sub hl [0, 1, 2, 3] rfl)
  have k_0 : (0 : Int32).toInt = 0 := by decide
  exact Lp4 13 (0 : Int32) (0 : Int32) ls (by omega) (by omega) (by decide)  (by omega) (lv_sub hl [0, 1, 2, 3] rfl)

set_option maxRecDepth 100000 in
set_option maxHeartbeats 4000000 in
theorem c_X12_after_f (l : Launch) (D : DD) (G : Nat → Nat) (a0 : Nat) (a1 n1 : Nat) (x2 : Int32) (x3 : Int32) (w : List Nat) (lo : Int) (hi : Int) (T : Tx) (b : Nat) (ga0 : G a0 = 30) (sa1 : D.1.2 99 a1 = n1 + 1) (ix2 : 0 ≤ x2.toInt ∧ x2.toInt ≤ 1000) (hw : Wc D a1 n1 w) (hc : 0 < n1) (hlo : x2.toInt = lo) (hhi : x3.toInt = hi) (h999 : x3.toInt ≤ 999) : CE l D G yX12_after cX12_after 4 (some .int) 5 [.ref a0, .ref a1, .int x2, .int x3] (fun H => (True) ∧ (RB D H a0 T b)) [(30, 10), (30, 12)] (xI (fun H r H1 => (r.toInt = -1 ∨ (x2.toInt ≤ r.toInt ∧ r.toInt ≤ x3.toInt)) ∧ ((isW T b w = true ∧ num T (nx T b) lo hi ≠ -1 ∧ r.toInt = num T (nx T b) lo hi ∧ RB D H1 a0 T (nx T (nx T b)) ∧ (fI D H1 11 a0 12).toInt = (((nx T b) : Nat) : Int)) ∨ (isW T b w = true ∧ num T (nx T b) lo hi = -1 ∧ r.toInt = -1 ∧ (fI D H1 11 a0 12).toInt = (((nx T b) : Nat) : Int)) ∨ (isW T b w = false ∧ r.toInt = -1 ∧ (fI D H1 11 a0 12).toInt = (((b) : Nat) : Int))))) := by
  refine enter (by decide) (Nat.le_of_ble_eq_true rfl) ?_
  intro p e s m args below meth c ls Q hA hQ C hr hO hpre hl
  have hx := C.1
  have hb := C.2.1
  have S : Sd D G [(30, 10), (30, 12)] s.heap s.heap [] := Sd.start hO
  have hl : lv_has ls 4 [(0, .ref a0), (1, .ref a1), (2, .int x2), (3, .int x3)] := hl
  obtain ⟨hpre, hf⟩ := hpre
  have ts0 := hf
  have hT : T.2 ≤ 400 := ts0.le hO ga0
  refine lv_aload_n hx hb dX12_after_0 rfl (lv_at hl 0 rfl) ?_
  refine callV_Ev C S (c_X12_letters_f l D G a0 T b ga0) kV_X12_102 ga0 (⟨trivial, ts0⟩) (by decide +kernel) dX12_after_1 hl.1 rfl rfl (by decide) cd_X12_letters ⟨Nat.le_of_ble_eq_true rfl, Nat.le_of_ble_eq_true rfl, Nat.le_of_ble_eq_true rfl, Nat.le_of_ble_eq_true rfl, Nat.le_of_ble_eq_true rfl⟩ (fun H1 L1 S1 K1 q1 => ?_)
  obtain ⟨q1, fq1⟩ := q1
  refine lv_aload_n hx hb dX12_after_4 rfl (lv_at hl 0 rfl) ?_
  refine lv_aload_n hx hb dX12_after_5 rfl (lv_at hl 1 rfl) ?_
  refine callV_Pi C S1.1 S1.2.1.2.1 (c_X12_isWord_f l D G a0 a1 n1 w T b ga0 sa1 hw hc) kV_X12_105 ga0 (⟨trivial, fq1⟩) dX12_after_6 hl.1 rfl rfl (by decide) cd_X12_isWord ⟨Nat.le_of_ble_eq_true rfl, Nat.le_of_ble_eq_true rfl, Nat.le_of_ble_eq_true rfl, Nat.le_of_ble_eq_true rfl, Nat.le_of_ble_eq_true rfl⟩ (fun v2 q2 => ?_)
  obtain ⟨q2, fq2⟩ := q2
  rcases fq2 with ⟨z2, y2⟩ | ⟨z2, y2⟩
  · skip
    have k_0 : (0 : Int32).toInt = 0 := by decide
    refine lv_if_eq (tgt := 21) hx hb dX12_after_9 (by decide) (fun c3 => ?_) (fun c3 => ?_)
    · have b3 : v2.toInt = (0 : Int32).toInt := i_eq.mp c3
      exact absurd b3 (by omega)
    · have b3 : ¬ v2.toInt = (0 : Int32).toInt := fun z9 => c3 (i_eq.mpr z9)
      refine lv_aload_n hx hb dX12_after_12 rfl (lv_at hl 0 rfl) ?_
      refine lv_iload_n hx hb dX12_after_13 rfl (lv_at hl 2 rfl) ?_
      refine lv_iload_n hx hb dX12_after_14 rfl (lv_at hl 3 rfl) ?_
      have rb4 := fq1.rb1 (isW_k y2)
      refine callV_Ei C S1 (c_X12_number_f l D G a0 x2 x3 lo hi T (nx T b) ga0 (by omega) hlo hhi h999) kV_X12_109 ga0 (⟨trivial, rb4⟩) (by decide +kernel) dX12_after_15 hl.1 rfl rfl (by decide) cd_X12_number ⟨Nat.le_of_ble_eq_true rfl, Nat.le_of_ble_eq_true rfl, Nat.le_of_ble_eq_true rfl, Nat.le_of_ble_eq_true rfl, Nat.le_of_ble_eq_true rfl⟩ (fun v5 H5 L5 S5 K5 q5 => ?_)
      obtain ⟨q5, fq5⟩ := q5
      rcases fq5 with ⟨z5, y5, ts5, bg5⟩ | ⟨z5, y5, wr5⟩
      · skip
        refine lv_goto (tgt := 22) hx hb dX12_after_18 (by decide) ?_
        exact retE_i hQ C S5 hr dX12_after_22 (⟨by omega, Or.inl ⟨y2, y5, by omega, ts5, bg5⟩⟩)
      · skip
        refine lv_goto (tgt := 22) hx hb dX12_after_18 (by decide) ?_
        exact retE_i hQ C S5 hr dX12_after_22 (⟨by omega, Or.inr (Or.inl ⟨y2, y5, by omega, wr5⟩)⟩)
  · skip
    have k_0 : (0 : Int32).toInt = 0 := by decide
    refine lv_if_eq (tgt := 21) hx hb dX12_after_9 (by decide) (fun c6 => ?_) (fun c6 => ?_)
    · have b6 : v2.toInt = (0 : Int32).toInt := i_eq.mp c6
      refine lv_iconst (v := -1) hx hb dX12_after_21 (by decide) ?_
      have k_m1 : (-1 : Int32).toInt = -1 := by decide
      exact retE_i hQ C S1 hr dX12_after_22 (⟨by omega, Or.inr (Or.inr ⟨y2, by omega, fq1.2.2.1⟩)⟩)
    · have b6 : ¬ v2.toInt = (0 : Int32).toInt := fun z9 => c6 (i_eq.mpr z9)
      exact absurd b6 (by omega)

set_option maxRecDepth 100000 in
set_option maxHeartbeats 4000000 in
theorem c_X12_kindTold_f (l : Launch) (D : DD) (G : Nat → Nat) (a0 : Nat) (T : Tx) (b : Nat) (ga0 : G a0 = 30) : CE l D G yX12_kindTold cX12_kindTold 1 (some .int) 5 [.ref a0] (fun H => (True) ∧ (RB D H a0 T b)) [(30, 10), (30, 12)] (xI (fun H r H1 => (-1 ≤ r.toInt ∧ r.toInt ≤ 3) ∧ (r.toInt = kin T b ∧ LB D H1 a0 T b))) := by
  refine enter (by decide) (Nat.le_of_ble_eq_true rfl) ?_
  intro p e s m args below meth c ls Q hA hQ C hr hO hpre hl
  have hx := C.1
  have hb := C.2.1
  have S : Sd D G [(30, 10), (30, 12)] s.heap s.heap [] := Sd.start hO
  have hl : lv_has ls 1 [(0, .ref a0)] := hl
  obtain ⟨hpre, hf⟩ := hpre
  have ts0 := hf
  have hT : T.2 ≤ 400 := ts0.le hO ga0
  refine lv_aload_n hx hb dX12_kindTold_0 rfl (lv_at hl 0 rfl) ?_
  refine callV_Ev C S (c_X12_letters_f l D G a0 T b ga0) kV_X12_102 ga0 (⟨trivial, ts0⟩) (by decide +kernel) dX12_kindTold_1 hl.1 rfl rfl (by decide) cd_X12_letters ⟨Nat.le_of_ble_eq_true rfl, Nat.le_of_ble_eq_true rfl, Nat.le_of_ble_eq_true rfl, Nat.le_of_ble_eq_true rfl, Nat.le_of_ble_eq_true rfl⟩ (fun H1 L1 S1 K1 q1 => ?_)
  obtain ⟨q1, fq1⟩ := q1
  refine lv_aload_n hx hb dX12_kindTold_4 rfl (lv_at hl 0 rfl) ?_
  refine q_lds C ks_X12_125 dX12_kindTold_5 (fun a2 ha2 wa2 => ?_)
  refine callV_Pi C S1.1 S1.2.1.2.1 (c_X12_isWord_f l D G a0 a2 4 w_fire T b ga0 ha2 (Wc.of wa2 kw_fire) (by decide)) kV_X12_105 ga0 (⟨trivial, fq1⟩) dX12_kindTold_7 hl.1 rfl rfl (by decide) cd_X12_isWord ⟨Nat.le_of_ble_eq_true rfl, Nat.le_of_ble_eq_true rfl, Nat.le_of_ble_eq_true rfl, Nat.le_of_ble_eq_true rfl, Nat.le_of_ble_eq_true rfl⟩ (fun v3 q3 => ?_)
  obtain ⟨q3, fq3⟩ := q3
  rcases fq3 with ⟨z3, y3⟩ | ⟨z3, y3⟩
  · skip
    have k_0 : (0 : Int32).toInt = 0 := by decide
    refine lv_if_eq (tgt := 17) hx hb dX12_kindTold_10 (by decide) (fun c4 => ?_) (fun c4 => ?_)
    · have b4 : v3.toInt = (0 : Int32).toInt := i_eq.mp c4
      exact absurd b4 (by omega)
    · have b4 : ¬ v3.toInt = (0 : Int32).toInt := fun z9 => c4 (i_eq.mpr z9)
      refine lv_iconst (v := 0) hx hb dX12_kindTold_13 (by decide) ?_
      refine lv_goto (tgt := 57) hx hb dX12_kindTold_14 (by decide) ?_
      exact retE_i hQ C S1 hr dX12_kindTold_57 (⟨by omega, ⟨by rw [show kin T b = 0 by simp [kin, y3]]; omega, fq1⟩⟩)
  · skip
    have k_0 : (0 : Int32).toInt = 0 := by decide
    refine lv_if_eq (tgt := 17) hx hb dX12_kindTold_10 (by decide) (fun c5 => ?_) (fun c5 => ?_)
    · have b5 : v3.toInt = (0 : Int32).toInt := i_eq.mp c5
      refine lv_aload_n hx hb dX12_kindTold_17 rfl (lv_at hl 0 rfl) ?_
      refine q_lds C ks_X12_127 dX12_kindTold_18 (fun a6 ha6 wa6 => ?_)
      refine callV_Pi C S1.1 S1.2.1.2.1 (c_X12_isWord_f l D G a0 a6 4 w_oven T b ga0 ha6 (Wc.of wa6 kw_oven) (by decide)) kV_X12_105 ga0 (⟨trivial, fq1⟩) dX12_kindTold_20 hl.1 rfl rfl (by decide) cd_X12_isWord ⟨Nat.le_of_ble_eq_true rfl, Nat.le_of_ble_eq_true rfl, Nat.le_of_ble_eq_true rfl, Nat.le_of_ble_eq_true rfl, Nat.le_of_ble_eq_true rfl⟩ (fun v7 q7 => ?_)
      obtain ⟨q7, fq7⟩ := q7
      rcases fq7 with ⟨z7, y7⟩ | ⟨z7, y7⟩
      · skip
        refine lv_if_eq (tgt := 30) hx hb dX12_kindTold_23 (by decide) (fun c8 => ?_) (fun c8 => ?_)
        · have b8 : v7.toInt = (0 : Int32).toInt := i_eq.mp c8
          exact absurd b8 (by omega)
        · have b8 : ¬ v7.toInt = (0 : Int32).toInt := fun z9 => c8 (i_eq.mpr z9)
          refine lv_iconst (v := 1) hx hb dX12_kindTold_26 (by decide) ?_
          refine lv_goto (tgt := 57) hx hb dX12_kindTold_27 (by decide) ?_
          have k_1 : (1 : Int32).toInt = 1 := by decide
          exact retE_i hQ C S1 hr dX12_kindTold_57 (⟨by omega, ⟨by rw [show kin T b = 1 by simp [kin, y3, y7]]; omega, fq1⟩⟩)
      · skip
        refine lv_if_eq (tgt := 30) hx hb dX12_kindTold_23 (by decide) (fun c9 => ?_) (fun c9 => ?_)
        · have b9 : v7.toInt = (0 : Int32).toInt := i_eq.mp c9
          refine lv_aload_n hx hb dX12_kindTold_30 rfl (lv_at hl 0 rfl) ?_
          refine q_lds C ks_X12_129 dX12_kindTold_31 (fun a10 ha10 wa10 => ?_)
          refine callV_Pi C S1.1 S1.2.1.2.1 (c_X12_isWord_f l D G a0 a10 5 w_forge T b ga0 ha10 (Wc.of wa10 kw_forge) (by decide)) kV_X12_105 ga0 (⟨trivial, fq1⟩) dX12_kindTold_33 hl.1 rfl rfl (by decide) cd_X12_isWord ⟨Nat.le_of_ble_eq_true rfl, Nat.le_of_ble_eq_true rfl, Nat.le_of_ble_eq_true rfl, Nat.le_of_ble_eq_true rfl, Nat.le_of_ble_eq_true rfl⟩ (fun v11 q11 => ?_)
          obtain ⟨q11, fq11⟩ := q11
          rcases fq11 with ⟨z11, y11⟩ | ⟨z11, y11⟩
          · skip
            refine lv_if_eq (tgt := 43) hx hb dX12_kindTold_36 (by decide) (fun c12 => ?_) (fun c12 => ?_)
            · have b12 : v11.toInt = (0 : Int32).toInt := i_eq.mp c12
              exact absurd b12 (by omega)
            · have b12 : ¬ v11.toInt = (0 : Int32).toInt := fun z9 => c12 (i_eq.mpr z9)
              refine lv_iconst (v := 2) hx hb dX12_kindTold_39 (by decide) ?_
              refine lv_goto (tgt := 57) hx hb dX12_kindTold_40 (by decide) ?_
              have k_2 : (2 : Int32).toInt = 2 := by decide
              exact retE_i hQ C S1 hr dX12_kindTold_57 (⟨by omega, ⟨by rw [show kin T b = 2 by simp [kin, y3, y7, y11]]; omega, fq1⟩⟩)
          · skip
            refine lv_if_eq (tgt := 43) hx hb dX12_kindTold_36 (by decide) (fun c13 => ?_) (fun c13 => ?_)
            · have b13 : v11.toInt = (0 : Int32).toInt := i_eq.mp c13
              refine lv_aload_n hx hb dX12_kindTold_43 rfl (lv_at hl 0 rfl) ?_
              refine q_lds C ks_X12_131 dX12_kindTold_44 (fun a14 ha14 wa14 => ?_)
              refine callV_Pi C S1.1 S1.2.1.2.1 (c_X12_isWord_f l D G a0 a14 3 w_pot T b ga0 ha14 (Wc.of wa14 kw_pot) (by decide)) kV_X12_105 ga0 (⟨trivial, fq1⟩) dX12_kindTold_46 hl.1 rfl rfl (by decide) cd_X12_isWord ⟨Nat.le_of_ble_eq_true rfl, Nat.le_of_ble_eq_true rfl, Nat.le_of_ble_eq_true rfl, Nat.le_of_ble_eq_true rfl, Nat.le_of_ble_eq_true rfl⟩ (fun v15 q15 => ?_)
              obtain ⟨q15, fq15⟩ := q15
              rcases fq15 with ⟨z15, y15⟩ | ⟨z15, y15⟩
              · skip
                refine lv_if_eq (tgt := 56) hx hb dX12_kindTold_49 (by decide) (fun c16 => ?_) (fun c16 => ?_)
                · have b16 : v15.toInt = (0 : Int32).toInt := i_eq.mp c16
                  exact absurd b16 (by omega)
                · have b16 : ¬ v15.toInt = (0 : Int32).toInt := fun z9 => c16 (i_eq.mpr z9)
                  refine lv_iconst (v := 3) hx hb dX12_kindTold_52 (by decide) ?_
                  refine lv_goto (tgt := 57) hx hb dX12_kindTold_53 (by decide) ?_
                  have k_3 : (3 : Int32).toInt = 3 := by decide
                  exact retE_i hQ C S1 hr dX12_kindTold_57 (⟨by omega, ⟨by rw [show kin T b = 3 by simp [kin, y3, y7, y11, y15]]; omega, fq1⟩⟩)
              · skip
                refine lv_if_eq (tgt := 56) hx hb dX12_kindTold_49 (by decide) (fun c17 => ?_) (fun c17 => ?_)
                · have b17 : v15.toInt = (0 : Int32).toInt := i_eq.mp c17
                  refine lv_iconst (v := -1) hx hb dX12_kindTold_56 (by decide) ?_
                  have k_m1 : (-1 : Int32).toInt = -1 := by decide
                  exact retE_i hQ C S1 hr dX12_kindTold_57 (⟨by omega, ⟨by rw [show kin T b = -1 by simp [kin, y3, y7, y11, y15]]; omega, fq1⟩⟩)
                · have b17 : ¬ v15.toInt = (0 : Int32).toInt := fun z9 => c17 (i_eq.mpr z9)
                  exact absurd b17 (by omega)
            · have b13 : ¬ v11.toInt = (0 : Int32).toInt := fun z9 => c13 (i_eq.mpr z9)
              exact absurd b13 (by omega)
        · have b9 : ¬ v7.toInt = (0 : Int32).toInt := fun z9 => c9 (i_eq.mpr z9)
          exact absurd b9 (by omega)
    · have b5 : ¬ v3.toInt = (0 : Int32).toInt := fun z9 => c5 (i_eq.mpr z9)
      exact absurd b5 (by omega)

set_option maxRecDepth 100000 in
set_option maxHeartbeats 4000000 in
theorem c_X12_readNumber_f (l : Launch) (D : DD) (G : Nat → Nat) (a0 : Nat) (x1 : Int32) (x2 : Int32) (x3 : Int32) (hi : Int) (at9 : Int) (sg : Sg) (T : Tx) (b : Nat) (ga0 : G a0 = 30) (ix1 : 4 ≤ x1.toInt ∧ x1.toInt ≤ 8) (ix2 : 0 ≤ x2.toInt ∧ x2.toInt ≤ 1000) (hat : x1.toInt = at9) (hlo : x2.toInt = 0) (hhi : x3.toInt = hi) (h999 : x3.toInt ≤ 999) : CE l D G yX12_readNumber cX12_readNumber 5 (some .boolean) 3 [.ref a0, .int x1, .int x2, .int x3] (fun H => (True) ∧ (RB D H a0 T b ∧ MV D H a0 sg ∧ PV sg)) [(30, 10), (30, 12), (31, 0), (31, 1)] (xI (fun H r H1 => (0 ≤ r.toInt ∧ r.toInt ≤ 1) ∧ (RRP D H1 a0 T (nmF T sg b hi at9) r))) := by
  refine enter (by decide) (Nat.le_of_ble_eq_true rfl) ?_
  intro p e s m args below meth c ls Q hA hQ C hr hO hpre hl
  have hx := C.1
  have hb := C.2.1
  have S : Sd D G [(30, 10), (30, 12), (31, 0), (31, 1)] s.heap s.heap [] := Sd.start hO
  have hl : lv_has ls 5 [(0, .ref a0), (1, .int x1), (2, .int x2), (3, .int x3)] := hl
  obtain ⟨hpre, hf⟩ := hpre
  obtain ⟨ts0, mv0, pv0⟩ := hf
  have hT : T.2 ≤ 400 := ts0.le hO ga0
  refine lv_aload_n hx hb dX12_readNumber_0 rfl (lv_at hl 0 rfl) ?_
  refine lv_iload_n hx hb dX12_readNumber_1 rfl (lv_at hl 2 rfl) ?_
  refine lv_iload_n hx hb dX12_readNumber_2 rfl (lv_at hl 3 rfl) ?_
  refine callV_Ei C S (c_X12_number_f l D G a0 x2 x3 0 hi T b ga0 (by omega) hlo hhi h999) kV_X12_109 ga0 (⟨trivial, ts0⟩) (by decide +kernel) dX12_readNumber_3 hl.1 rfl rfl (by decide) cd_X12_number ⟨Nat.le_of_ble_eq_true rfl, Nat.le_of_ble_eq_true rfl, Nat.le_of_ble_eq_true rfl, Nat.le_of_ble_eq_true rfl, Nat.le_of_ble_eq_true rfl⟩ (fun v1 H1 L1 S1 K1 q1 => ?_)
  obtain ⟨q1, fq1⟩ := q1
  have mv1 := mv0.keep S.1 ga0 K1 (by decide +kernel) (by decide +kernel)
  rcases fq1 with ⟨z1, y1, ts1, bg1⟩ | ⟨z1, y1, wr1⟩
  · skip
    refine lv_istore (lv' := [(4, .int v1), (0, .ref a0), (1, .int x1), (2, .int x2), (3, .int x3)]) hx hb dX12_readNumber_6 hl (by decide) rfl (fun ls hl => ?_)
    refine lv_aload_n hx hb dX12_readNumber_8 rfl (lv_at hl 1 rfl) ?_
    refine q_gr (T := TX12) C S1.1 ga0 1 kF_X12_13 dX12_readNumber_9 rfl rfl (by decide) rfl (by decide) rfl (fun g2 => ?_)
    refine lv_iload_n hx hb dX12_readNumber_12 rfl (lv_at hl 2 rfl) ?_
    refine lv_iload hx hb dX12_readNumber_13 (lv_at hl 0 rfl) ?_
    have k_0 : (0 : Int32).toInt = 0 := by decide
    refine lv_if_ge (tgt := 27) hx hb dX12_readNumber_15 (by decide) (fun c3 => ?_) (fun c3 => ?_)
    · have b3 : (0 : Int32).toInt ≤ v1.toInt := i_le.mp c3
      refine lv_iload hx hb dX12_readNumber_27 (lv_at hl 0 rfl) ?_
      have n4 : aN H1 (fR D H1 11 a0 1) = 2052 := len_31 S1.1 g2
      refine q_iast C S1 g2 (by omega) (by omega) dX12_readNumber_29 rfl (by decide) (by decide +kernel) (fun _ _ h => wk_low _ _ (by omega) (fun h9 => by omega) (fun h9 => by omega) (fun h9 => by omega) (fun j hj h9 => by omega) h) (fun H5 L5 S5 P5 => ?_) (hs := fun _ => Or.inl (by decide +kernel))
      have rb5 := ts1.cells S1.1 ga0 g2 (by decide) (by decide) P5.2.2.1
      have bg5 : (fI D H5 11 a0 12).toInt = ((b : Nat) : Int) := by rw [Pa.f P5 (ne_role ga0 g2 (by decide))]; exact bg1
      have mv5 := MV.num mv1 S1.1 ga0 rfl P5 (by omega) ⟨by omega, by omega⟩ (by omega)
      refine lv_iload hx hb dX12_readNumber_30 (lv_at hl 0 rfl) ?_
      refine lv_if_lt (tgt := 39) hx hb dX12_readNumber_32 (by decide) (fun c6 => ?_) (fun c6 => ?_)
      · have b6 : v1.toInt < (0 : Int32).toInt := i_lt.mp c6
        exact absurd b6 (by omega)
      · have b6 : ¬ v1.toInt < (0 : Int32).toInt := fun z9 => c6 (i_lt.mpr z9)
        refine lv_iconst (v := 1) hx hb dX12_readNumber_35 (by decide) ?_
        refine lv_goto (tgt := 40) hx hb dX12_readNumber_36 (by decide) ?_
        have k_1 : (1 : Int32).toInt = 1 := by decide
        exact retE_z hQ C S5 hr dX12_readNumber_40 (z01 (by omega) (by omega)) (⟨by omega, RRP.ok (s1 := (if at9 = 7 then sup sg 15 (num T b 0 hi) else sg)) (by simp [nmF, y1]) (by omega) rb5 (mv5) (PV.nmF9 pv0)⟩)
    · have b3 : ¬ (0 : Int32).toInt ≤ v1.toInt := fun z9 => c3 (i_le.mpr z9)
      exact absurd b3 (by omega)
  · skip
    refine lv_istore (lv' := [(4, .int v1), (0, .ref a0), (1, .int x1), (2, .int x2), (3, .int x3)]) hx hb dX12_readNumber_6 hl (by decide) rfl (fun ls hl => ?_)
    refine lv_aload_n hx hb dX12_readNumber_8 rfl (lv_at hl 1 rfl) ?_
    refine q_gr (T := TX12) C S1.1 ga0 1 kF_X12_13 dX12_readNumber_9 rfl rfl (by decide) rfl (by decide) rfl (fun g7 => ?_)
    refine lv_iload_n hx hb dX12_readNumber_12 rfl (lv_at hl 2 rfl) ?_
    refine lv_iload hx hb dX12_readNumber_13 (lv_at hl 0 rfl) ?_
    have k_0 : (0 : Int32).toInt = 0 := by decide
    refine lv_if_ge (tgt := 27) hx hb dX12_readNumber_15 (by decide) (fun c8 => ?_) (fun c8 => ?_)
    · have b8 : (0 : Int32).toInt ≤ v1.toInt := i_le.mp c8
      exact absurd b8 (by omega)
    · have b8 : ¬ (0 : Int32).toInt ≤ v1.toInt := fun z9 => c8 (i_le.mpr z9)
      refine lv_aload_n hx hb dX12_readNumber_18 rfl (lv_at hl 1 rfl) ?_
      refine q_gr (T := TX12) C S1.1 ga0 1 kF_X12_13 dX12_readNumber_19 rfl rfl (by decide) rfl (by decide) rfl (fun g9 => ?_)
      refine lv_iload_n hx hb dX12_readNumber_22 rfl (lv_at hl 2 rfl) ?_
      have n10 : aN H1 (fR D H1 11 a0 1) = 2052 := len_31 S1.1 g9
      refine q_iald C S1.1 g9 (by omega) (by omega) dX12_readNumber_23 rfl (by decide) ?_
      refine lv_topi (fun v11 ev11 => ?_)
      refine lv_goto (tgt := 29) hx hb dX12_readNumber_24 (by decide) ?_
      refine q_iast C S1 g7 (by omega) (by omega) dX12_readNumber_29 rfl (by decide) (by decide +kernel) (fun _ _ h => wk_low _ _ (by omega) (fun h9 => by omega) (fun h9 => by omega) (fun h9 => by omega) (fun j hj h9 => by omega) h) (fun H12 L12 S12 P12 => ?_) (hs := fun _ => Or.inl (by decide +kernel))
      have bg12 : (fI D H12 11 a0 12).toInt = ((b : Nat) : Int) := by rw [Pa.f P12 (ne_role ga0 g7 (by decide))]; exact wr1
      have mv12 := hO
      refine lv_iload hx hb dX12_readNumber_30 (lv_at hl 0 rfl) ?_
      refine lv_if_lt (tgt := 39) hx hb dX12_readNumber_32 (by decide) (fun c13 => ?_) (fun c13 => ?_)
      · have b13 : v1.toInt < (0 : Int32).toInt := i_lt.mp c13
        refine lv_iconst (v := 0) hx hb dX12_readNumber_39 (by decide) ?_
        exact retE_z hQ C S12 hr dX12_readNumber_40 (z01 (by omega) (by omega)) (⟨by omega, RRP.no (s1 := sg) (by simp [nmF, y1]) (by omega) bg12⟩)
      · have b13 : ¬ v1.toInt < (0 : Int32).toInt := fun z9 => c13 (i_lt.mpr z9)
        exact absurd b13 (by omega)

set_option maxRecDepth 100000 in
set_option maxHeartbeats 4000000 in
theorem c_X12_readHouse_f (l : Launch) (D : DD) (G : Nat → Nat) (a0 : Nat) (sg : Sg) (T : Tx) (b : Nat) (ga0 : G a0 = 30) (hw0 : isW T b w_house = true) : CE l D G yX12_readHouse cX12_readHouse 6 (some .boolean) 6 [.ref a0] (fun H => (True) ∧ (LB D H a0 T b ∧ MV D H a0 sg ∧ PV sg)) [(30, 10), (30, 12), (31, 0), (31, 1)] (xI (fun H r H1 => (0 ≤ r.toInt ∧ r.toInt ≤ 1) ∧ (RRP D H1 a0 T (houF T sg b) r))) := by
  refine enter (by decide) (Nat.le_of_ble_eq_true rfl) ?_
  intro p e s m args below meth c ls Q hA hQ C hr hO hpre hl
  have hx := C.1
  have hb := C.2.1
  have S : Sd D G [(30, 10), (30, 12), (31, 0), (31, 1)] s.heap s.heap [] := Sd.start hO
  have hl : lv_has ls 6 [(0, .ref a0)] := hl
  obtain ⟨hpre, hf⟩ := hpre
  obtain ⟨ts0, mv0, pv0⟩ := hf
  have hT : T.2 ≤ 400 := ts0.le hO ga0
  have hs9 := mv_0 mv0
  refine lv_aload_n hx hb dX12_readHouse_0 rfl (lv_at hl 0 rfl) ?_
  refine callV_Pi C S.1 S.2.1.2.1 (c_X12_houses_v l D G a0 ga0) kV_X12_59 ga0 (trivial) dX12_readHouse_1 hl.1 rfl rfl (by decide) cd_X12_houses ⟨Nat.le_of_ble_eq_true rfl, Nat.le_of_ble_eq_true rfl, Nat.le_of_ble_eq_true rfl, Nat.le_of_ble_eq_true rfl, Nat.le_of_ble_eq_true rfl⟩ (fun v1 q1 => ?_)
  refine lv_istore_n (lv' := [(1, .int v1), (0, .ref a0)]) hx hb dX12_readHouse_4 rfl hl (by decide) rfl (fun ls hl => ?_)
  refine lv_iload_n hx hb dX12_readHouse_5 rfl (lv_at hl 0 rfl) ?_
  refine lv_bipush (v := 6) hx hb dX12_readHouse_6 (by decide) ?_
  have k_6 : (6 : Int32).toInt = 6 := by decide
  refine lv_icmp_ne (tgt := 13) hx hb dX12_readHouse_8 (by decide) (fun c2 => ?_) (fun c2 => ?_)
  · have b2 : ¬ v1.toInt = (6 : Int32).toInt := fun z9 => c2 (i_eq.mpr z9)
    have hc3 : ¬ sg 0 = 6 := by omega
    refine lv_aload_n hx hb dX12_readHouse_13 rfl (lv_at hl 1 rfl) ?_
    refine lv_iconst (v := 0) hx hb dX12_readHouse_14 (by decide) ?_
    refine lv_sipush (v := 999) hx hb dX12_readHouse_15 (by decide) ?_
    have rb4 := ts0.rb1 (isW_k hw0)
    have k_0 : (0 : Int32).toInt = 0 := by decide
    have k_999 : (999 : Int32).toInt = 999 := by decide
    refine callV_Ei C S (c_X12_number_f l D G a0 (0 : Int32) (999 : Int32) 0 999 T (nx T b) ga0 (by omega) (by omega) (by omega) (by omega)) kV_X12_109 ga0 (⟨trivial, rb4⟩) (by decide +kernel) dX12_readHouse_18 hl.1 rfl rfl (by decide) cd_X12_number ⟨Nat.le_of_ble_eq_true rfl, Nat.le_of_ble_eq_true rfl, Nat.le_of_ble_eq_true rfl, Nat.le_of_ble_eq_true rfl, Nat.le_of_ble_eq_true rfl⟩ (fun v5 H5 L5 S5 K5 q5 => ?_)
    obtain ⟨q5, fq5⟩ := q5
    have mv5 := mv0.keep S.1 ga0 K5 (by decide +kernel) (by decide +kernel)
    rcases fq5 with ⟨z5, y5, ts5, bg5⟩ | ⟨z5, y5, wr5⟩
    · skip
      refine lv_istore_n (lv' := [(2, .int v5), (1, .int v1), (0, .ref a0)]) hx hb dX12_readHouse_21 rfl hl (by decide) rfl (fun ls hl => ?_)
      refine lv_iload_n hx hb dX12_readHouse_22 rfl (lv_at hl 0 rfl) ?_
      refine lv_if_ge (tgt := 30) hx hb dX12_readHouse_23 (by decide) (fun c6 => ?_) (fun c6 => ?_)
      · have b6 : (0 : Int32).toInt ≤ v5.toInt := i_le.mp c6
        refine lv_aload_n hx hb dX12_readHouse_30 rfl (lv_at hl 2 rfl) ?_
        refine q_lds C ks_X12_112 dX12_readHouse_31 (fun a7 ha7 wa7 => ?_)
        refine lv_iconst (v := 0) hx hb dX12_readHouse_33 (by decide) ?_
        refine lv_bipush (v := 30) hx hb dX12_readHouse_34 (by decide) ?_
        have k_30 : (30 : Int32).toInt = 30 := by decide
        refine callV_Ei C S5 (c_X12_after_f l D G a0 a7 7 (0 : Int32) (30 : Int32) w_windows 0 30 T (nx T (nx T b)) ga0 ha7 (by omega) (Wc.of wa7 kw_windows) (by decide) (by omega) (by omega) (by omega)) kV_X12_114 ga0 (⟨trivial, ts5⟩) (by decide +kernel) dX12_readHouse_36 hl.1 rfl rfl (by decide) cd_X12_after ⟨Nat.le_of_ble_eq_true rfl, Nat.le_of_ble_eq_true rfl, Nat.le_of_ble_eq_true rfl, Nat.le_of_ble_eq_true rfl, Nat.le_of_ble_eq_true rfl⟩ (fun v8 H8 L8 S8 K8 q8 => ?_)
        obtain ⟨q8, fq8⟩ := q8
        have mv8 := mv5.keep S5.1 ga0 K8 (by decide +kernel) (by decide +kernel)
        rcases fq8 with ⟨w8, y8, z8, ts8, bg8⟩ | ⟨w8, y8, z8, wr8⟩ | ⟨w8, z8, wr8⟩
        · have u8 : 0 ≤ v8.toInt ∧ v8.toInt ≤ 30 := by have z9 := num_r (T := T) (b := nx T (nx T (nx T b))) (lo := 0) (hi := 30) (by decide); omega
          refine lv_istore_n (lv' := [(3, .int v8), (2, .int v5), (1, .int v1), (0, .ref a0)]) hx hb dX12_readHouse_39 rfl hl (by decide) rfl (fun ls hl => ?_)
          refine lv_iload_n hx hb dX12_readHouse_40 rfl (lv_at hl 0 rfl) ?_
          refine lv_if_ge (tgt := 46) hx hb dX12_readHouse_41 (by decide) (fun c9 => ?_) (fun c9 => ?_)
          · have b9 : (0 : Int32).toInt ≤ v8.toInt := i_le.mp c9
            refine lv_aload_n hx hb dX12_readHouse_46 rfl (lv_at hl 3 rfl) ?_
            refine q_lds C ks_X12_118 dX12_readHouse_47 (fun a10 ha10 wa10 => ?_)
            refine callV_Ei C S8 (c_X12_passes_f l D G a0 a10 5 w_paper T (nx T (nx T (nx T (nx T b)))) ga0 ha10 (Wc.of wa10 kw_paper) (by decide)) kV_X12_120 ga0 (⟨trivial, ts8⟩) (by decide +kernel) dX12_readHouse_49 hl.1 rfl rfl (by decide) cd_X12_passes ⟨Nat.le_of_ble_eq_true rfl, Nat.le_of_ble_eq_true rfl, Nat.le_of_ble_eq_true rfl, Nat.le_of_ble_eq_true rfl, Nat.le_of_ble_eq_true rfl⟩ (fun v11 H11 L11 S11 K11 q11 => ?_)
            obtain ⟨q11, fq11⟩ := q11
            have mv11 := mv8.keep S8.1 ga0 K11 (by decide +kernel) (by decide +kernel)
            rcases fq11 with ⟨z11, y11, ts11, wr11⟩ | ⟨z11, y11, ts11, wr11⟩
            · skip
              refine lv_if_eq (tgt := 59) hx hb dX12_readHouse_52 (by decide) (fun c12 => ?_) (fun c12 => ?_)
              · have b12 : v11.toInt = (0 : Int32).toInt := i_eq.mp c12
                exact absurd b12 (by omega)
              · have b12 : ¬ v11.toInt = (0 : Int32).toInt := fun z9 => c12 (i_eq.mpr z9)
                refine lv_iconst (v := 1) hx hb dX12_readHouse_55 (by decide) ?_
                refine lv_goto (tgt := 60) hx hb dX12_readHouse_56 (by decide) ?_
                refine lv_istore (lv' := [(4, .int (1 : Int32)), (3, .int v8), (2, .int v5), (1, .int v1), (0, .ref a0)]) hx hb dX12_readHouse_60 hl (by decide) rfl (fun ls hl => ?_)
                refine lv_aload_n hx hb dX12_readHouse_62 rfl (lv_at hl 4 rfl) ?_
                refine q_lds C ks_X12_123 dX12_readHouse_63 (fun a13 ha13 wa13 => ?_)
                refine callV_Ei C S11 (c_X12_passes_f l D G a0 a13 5 w_tells T (nx T (nx T (nx T (nx T (nx T b))))) ga0 ha13 (Wc.of wa13 kw_tells) (by decide)) kV_X12_120 ga0 (⟨trivial, ts11⟩) (by decide +kernel) dX12_readHouse_65 hl.1 rfl rfl (by decide) cd_X12_passes ⟨Nat.le_of_ble_eq_true rfl, Nat.le_of_ble_eq_true rfl, Nat.le_of_ble_eq_true rfl, Nat.le_of_ble_eq_true rfl, Nat.le_of_ble_eq_true rfl⟩ (fun v14 H14 L14 S14 K14 q14 => ?_)
                obtain ⟨q14, fq14⟩ := q14
                have mv14 := mv11.keep S11.1 ga0 K14 (by decide +kernel) (by decide +kernel)
                rcases fq14 with ⟨z14, y14, ts14, wr14⟩ | ⟨z14, y14, ts14, wr14⟩
                · skip
                  refine lv_if_eq (tgt := 81) hx hb dX12_readHouse_68 (by decide) (fun c15 => ?_) (fun c15 => ?_)
                  · have b15 : v14.toInt = (0 : Int32).toInt := i_eq.mp c15
                    exact absurd b15 (by omega)
                  · have b15 : ¬ v14.toInt = (0 : Int32).toInt := fun z9 => c15 (i_eq.mpr z9)
                    refine lv_aload_n hx hb dX12_readHouse_71 rfl (lv_at hl 4 rfl) ?_
                    refine lv_iconst (v := 0) hx hb dX12_readHouse_72 (by decide) ?_
                    refine lv_bipush (v := 100) hx hb dX12_readHouse_73 (by decide) ?_
                    have k_100 : (100 : Int32).toInt = 100 := by decide
                    refine callV_Ei C S14 (c_X12_number_f l D G a0 (0 : Int32) (100 : Int32) 0 100 T (nx T (nx T (nx T (nx T (nx T (nx T b)))))) ga0 (by omega) (by omega) (by omega) (by omega)) kV_X12_109 ga0 (⟨trivial, ts14⟩) (by decide +kernel) dX12_readHouse_75 hl.1 rfl rfl (by decide) cd_X12_number ⟨Nat.le_of_ble_eq_true rfl, Nat.le_of_ble_eq_true rfl, Nat.le_of_ble_eq_true rfl, Nat.le_of_ble_eq_true rfl, Nat.le_of_ble_eq_true rfl⟩ (fun v16 H16 L16 S16 K16 q16 => ?_)
                    obtain ⟨q16, fq16⟩ := q16
                    have mv16 := mv14.keep S14.1 ga0 K16 (by decide +kernel) (by decide +kernel)
                    rcases fq16 with ⟨z16, y16, ts16, bg16⟩ | ⟨z16, y16, wr16⟩
                    · skip
                      refine lv_goto (tgt := 82) hx hb dX12_readHouse_78 (by decide) ?_
                      refine lv_istore (lv' := [(5, .int v16), (4, .int (1 : Int32)), (3, .int v8), (2, .int v5), (1, .int v1), (0, .ref a0)]) hx hb dX12_readHouse_82 hl (by decide) rfl (fun ls hl => ?_)
                      refine lv_iload hx hb dX12_readHouse_84 (lv_at hl 0 rfl) ?_
                      refine lv_if_ge (tgt := 91) hx hb dX12_readHouse_86 (by decide) (fun c17 => ?_) (fun c17 => ?_)
                      · have b17 : (0 : Int32).toInt ≤ v16.toInt := i_le.mp c17
                        refine lv_aload_n hx hb dX12_readHouse_91 rfl (lv_at hl 5 rfl) ?_
                        refine q_gr (T := TX12) C S16.1 ga0 1 kF_X12_13 dX12_readHouse_92 rfl rfl (by decide) rfl (by decide) rfl (fun g18 => ?_)
                        refine lv_iload_n hx hb dX12_readHouse_95 rfl (lv_at hl 4 rfl) ?_
                        refine lv_iconst (v := 0) hx hb dX12_readHouse_96 (by decide) ?_
                        refine callS_Pi C S16.1 S16.2.1.2.1 (c_X12_houseAt l D G v1 (0 : Int32) (by omega) (by omega)) kS_X12_49 (trivial) dX12_readHouse_97 hl.1 cd_X12_houseAt ⟨Nat.le_of_ble_eq_true rfl, Nat.le_of_ble_eq_true rfl, Nat.le_of_ble_eq_true rfl, Nat.le_of_ble_eq_true rfl, Nat.le_of_ble_eq_true rfl⟩ (fun v19 q19 => ?_)
                        refine lv_iload_n hx hb dX12_readHouse_100 rfl (lv_at hl 3 rfl) ?_
                        have n20 : aN H16 (fR D H16 11 a0 1) = 2052 := len_31 S16.1 g18
                        refine q_iast C S16 g18 (by omega) (by omega) dX12_readHouse_101 rfl (by decide) (by decide +kernel) (fun _ _ h => wk_low _ _ (by omega) (fun h9 => by omega) (fun h9 => by omega) (fun h9 => by omega) (fun j hj h9 => by omega) h) (fun H21 L21 S21 P21 => ?_) (hs := fun _ => Or.inl (by decide +kernel))
                        have rb21 := ts16.cells S16.1 ga0 g18 (by decide) (by decide) P21.2.2.1
                        have bg21 : (fI D H21 11 a0 12).toInt = (((nx T (nx T (nx T (nx T (nx T (nx T b)))))) : Nat) : Int) := by rw [Pa.f P21 (ne_role ga0 g18 (by decide))]; exact bg16
                        have mv21 := mv16.asto S16.1 ga0 rfl P21 (vy_no (by omega) (by omega) (by omega) (by omega) (fun h9 hh9 => by omega) (fun j9 hj9 => by omega))
                        refine lv_aload_n hx hb dX12_readHouse_102 rfl (lv_at hl 5 rfl) ?_
                        refine q_gr (T := TX12) C S21.1 ga0 1 kF_X12_13 dX12_readHouse_103 rfl rfl (by decide) rfl (by decide) rfl (fun g22 => ?_)
                        refine lv_iload_n hx hb dX12_readHouse_106 rfl (lv_at hl 4 rfl) ?_
                        refine lv_iconst (v := 1) hx hb dX12_readHouse_107 (by decide) ?_
                        have k_1 : (1 : Int32).toInt = 1 := by decide
                        refine callS_Pi C S21.1 S21.2.1.2.1 (c_X12_houseAt l D G v1 (1 : Int32) (by omega) (by omega)) kS_X12_49 (trivial) dX12_readHouse_108 hl.1 cd_X12_houseAt ⟨Nat.le_of_ble_eq_true rfl, Nat.le_of_ble_eq_true rfl, Nat.le_of_ble_eq_true rfl, Nat.le_of_ble_eq_true rfl, Nat.le_of_ble_eq_true rfl⟩ (fun v23 q23 => ?_)
                        refine lv_iload hx hb dX12_readHouse_111 (lv_at hl 1 rfl) ?_
                        have n24 : aN H21 (fR D H21 11 a0 1) = 2052 := len_31 S21.1 g22
                        refine q_iast C S21 g22 (by omega) (by omega) dX12_readHouse_113 rfl (by decide) (by decide +kernel) (fun _ _ h => wk_low _ _ (by omega) (fun h9 => by omega) (fun h9 => by omega) (fun h9 => by omega) (fun j hj h9 => by omega) h) (fun H25 L25 S25 P25 => ?_) (hs := fun _ => Or.inl (by decide +kernel))
                        have rb25 := rb21.cells S21.1 ga0 g22 (by decide) (by decide) P25.2.2.1
                        have bg25 : (fI D H25 11 a0 12).toInt = (((nx T (nx T (nx T (nx T (nx T (nx T b)))))) : Nat) : Int) := by rw [Pa.f P25 (ne_role ga0 g22 (by decide))]; exact bg21
                        have mv25 := mv21.asto S21.1 ga0 rfl P25 (vy_no (by omega) (by omega) (by omega) (by omega) (fun h9 hh9 => by omega) (fun j9 hj9 => by omega))
                        refine lv_aload_n hx hb dX12_readHouse_114 rfl (lv_at hl 5 rfl) ?_
                        refine q_gr (T := TX12) C S25.1 ga0 1 kF_X12_13 dX12_readHouse_115 rfl rfl (by decide) rfl (by decide) rfl (fun g26 => ?_)
                        refine lv_iload_n hx hb dX12_readHouse_118 rfl (lv_at hl 4 rfl) ?_
                        refine lv_iconst (v := 2) hx hb dX12_readHouse_119 (by decide) ?_
                        have k_2 : (2 : Int32).toInt = 2 := by decide
                        refine callS_Pi C S25.1 S25.2.1.2.1 (c_X12_houseAt l D G v1 (2 : Int32) (by omega) (by omega)) kS_X12_49 (trivial) dX12_readHouse_120 hl.1 cd_X12_houseAt ⟨Nat.le_of_ble_eq_true rfl, Nat.le_of_ble_eq_true rfl, Nat.le_of_ble_eq_true rfl, Nat.le_of_ble_eq_true rfl, Nat.le_of_ble_eq_true rfl⟩ (fun v27 q27 => ?_)
                        refine lv_iload_n hx hb dX12_readHouse_123 rfl (lv_at hl 2 rfl) ?_
                        have n28 : aN H25 (fR D H25 11 a0 1) = 2052 := len_31 S25.1 g26
                        refine q_iast C S25 g26 (by omega) (by omega) dX12_readHouse_124 rfl (by decide) (by decide +kernel) (fun _ _ h => wk_low _ _ (by omega) (fun h9 => by omega) (fun h9 => by omega) (fun h9 => by omega) (fun j hj h9 => by omega) h) (fun H29 L29 S29 P29 => ?_) (hs := fun _ => Or.inl (by decide +kernel))
                        have rb29 := rb25.cells S25.1 ga0 g26 (by decide) (by decide) P29.2.2.1
                        have bg29 : (fI D H29 11 a0 12).toInt = (((nx T (nx T (nx T (nx T (nx T (nx T b)))))) : Nat) : Int) := by rw [Pa.f P29 (ne_role ga0 g26 (by decide))]; exact bg25
                        have mv29 := mv25.asto S25.1 ga0 rfl P29 (vy_no (by omega) (by omega) (by omega) (by omega) (fun h9 hh9 => by omega) (fun j9 hj9 => by omega))
                        refine lv_aload_n hx hb dX12_readHouse_125 rfl (lv_at hl 5 rfl) ?_
                        refine q_gr (T := TX12) C S29.1 ga0 1 kF_X12_13 dX12_readHouse_126 rfl rfl (by decide) rfl (by decide) rfl (fun g30 => ?_)
                        refine lv_iload_n hx hb dX12_readHouse_129 rfl (lv_at hl 4 rfl) ?_
                        refine lv_iconst (v := 3) hx hb dX12_readHouse_130 (by decide) ?_
                        have k_3 : (3 : Int32).toInt = 3 := by decide
                        refine callS_Pi C S29.1 S29.2.1.2.1 (c_X12_houseAt l D G v1 (3 : Int32) (by omega) (by omega)) kS_X12_49 (trivial) dX12_readHouse_131 hl.1 cd_X12_houseAt ⟨Nat.le_of_ble_eq_true rfl, Nat.le_of_ble_eq_true rfl, Nat.le_of_ble_eq_true rfl, Nat.le_of_ble_eq_true rfl, Nat.le_of_ble_eq_true rfl⟩ (fun v31 q31 => ?_)
                        refine lv_iconst (v := 0) hx hb dX12_readHouse_134 (by decide) ?_
                        have n32 : aN H29 (fR D H29 11 a0 1) = 2052 := len_31 S29.1 g30
                        refine q_iast C S29 g30 (by omega) (by omega) dX12_readHouse_135 rfl (by decide) (by decide +kernel) (fun _ _ h => wk_low _ _ (by omega) (fun h9 => by omega) (fun h9 => by omega) (fun h9 => by omega) (fun j hj h9 => by omega) h) (fun H33 L33 S33 P33 => ?_) (hs := fun _ => Or.inl (by decide +kernel))
                        have rb33 := rb29.cells S29.1 ga0 g30 (by decide) (by decide) P33.2.2.1
                        have bg33 : (fI D H33 11 a0 12).toInt = (((nx T (nx T (nx T (nx T (nx T (nx T b)))))) : Nat) : Int) := by rw [Pa.f P33 (ne_role ga0 g30 (by decide))]; exact bg29
                        have mv33 := mv29.asto S29.1 ga0 rfl P33 (vy_no (by omega) (by omega) (by omega) (by omega) (fun h9 hh9 => by omega) (fun j9 hj9 => by omega))
                        refine lv_aload_n hx hb dX12_readHouse_136 rfl (lv_at hl 5 rfl) ?_
                        refine q_gr (T := TX12) C S33.1 ga0 1 kF_X12_13 dX12_readHouse_137 rfl rfl (by decide) rfl (by decide) rfl (fun g34 => ?_)
                        refine lv_iload_n hx hb dX12_readHouse_140 rfl (lv_at hl 4 rfl) ?_
                        refine lv_iconst (v := 4) hx hb dX12_readHouse_141 (by decide) ?_
                        have k_4 : (4 : Int32).toInt = 4 := by decide
                        refine callS_Pi C S33.1 S33.2.1.2.1 (c_X12_houseAt l D G v1 (4 : Int32) (by omega) (by omega)) kS_X12_49 (trivial) dX12_readHouse_142 hl.1 cd_X12_houseAt ⟨Nat.le_of_ble_eq_true rfl, Nat.le_of_ble_eq_true rfl, Nat.le_of_ble_eq_true rfl, Nat.le_of_ble_eq_true rfl, Nat.le_of_ble_eq_true rfl⟩ (fun v35 q35 => ?_)
                        refine lv_iload hx hb dX12_readHouse_145 (lv_at hl 0 rfl) ?_
                        have n36 : aN H33 (fR D H33 11 a0 1) = 2052 := len_31 S33.1 g34
                        refine q_iast C S33 g34 (by omega) (by omega) dX12_readHouse_147 rfl (by decide) (by decide +kernel) (fun _ _ h => wk_low _ _ (by omega) (fun h9 => by omega) (fun h9 => by omega) (fun h9 => by omega) (fun j hj h9 => by omega) h) (fun H37 L37 S37 P37 => ?_) (hs := fun _ => Or.inl (by decide +kernel))
                        have rb37 := rb33.cells S33.1 ga0 g34 (by decide) (by decide) P37.2.2.1
                        have bg37 : (fI D H37 11 a0 12).toInt = (((nx T (nx T (nx T (nx T (nx T (nx T b)))))) : Nat) : Int) := by rw [Pa.f P37 (ne_role ga0 g34 (by decide))]; exact bg33
                        have mv37 := MV.ast mv33 S33.1 ga0 rfl P37 (k := 16 + (sg 0).toNat) (by omega) (by rw [vy_w]; omega)
                        refine lv_aload_n hx hb dX12_readHouse_148 rfl (lv_at hl 5 rfl) ?_
                        refine q_gr (T := TX12) C S37.1 ga0 1 kF_X12_13 dX12_readHouse_149 rfl rfl (by decide) rfl (by decide) rfl (fun g38 => ?_)
                        refine lv_iconst (v := 0) hx hb dX12_readHouse_152 (by decide) ?_
                        refine lv_dup2_11 hx hb dX12_readHouse_153 rfl rfl ?_
                        have mc9 : (eI H37 (fR D H37 11 a0 1) 0).toInt = sg 0 := (mv_0 mv37).trans (sup_o _ _ (by omega))
                        have n39 : aN H37 (fR D H37 11 a0 1) = 2052 := len_31 S37.1 g38
                        refine q_iald C S37.1 g38 (by omega) (by omega) dX12_readHouse_154 rfl (by decide) ?_
                        refine lv_topi (fun v40 ev40 => ?_)
                        have wv40 : v40.toInt = (eI H37 (fR D H37 11 a0 1) 0).toInt := by rw [ev40]; rfl
                        refine lv_iconst (v := 1) hx hb dX12_readHouse_155 (by decide) ?_
                        refine lv_iadd hx hb dX12_readHouse_156 ?_
                        refine lv_topi (fun v41 ev41 => ?_)
                        have f42 : v41.toInt = v40.toInt + (1 : Int32).toInt := by rw [ev41]; exact i_add (by omega) (by omega)
                        refine q_iast C S37 g38 (by omega) (by omega) dX12_readHouse_157 rfl (by decide) (by decide +kernel) (fun _ _ h => wk_low _ _ (by omega) (fun h9 => by omega) (fun h9 => by omega) (fun h9 => by omega) (fun j hj h9 => by omega) h) (fun H43 L43 S43 P43 => ?_) (hs := fun _ => Or.inl (by decide +kernel))
                        have rb43 := rb37.cells S37.1 ga0 g38 (by decide) (by decide) P43.2.2.1
                        have bg43 : (fI D H43 11 a0 12).toInt = (((nx T (nx T (nx T (nx T (nx T (nx T b)))))) : Nat) : Int) := by rw [Pa.f P43 (ne_role ga0 g38 (by decide))]; exact bg37
                        have mv43 := MV.ast mv37 S37.1 ga0 rfl P43 (k := 0) (by decide) (by first | rfl | (show _ = 0; omega))
                        refine lv_iconst (v := 1) hx hb dX12_readHouse_158 (by decide) ?_
                        exact retE_z hQ C S43 hr dX12_readHouse_159 (z01 (by omega) (by omega)) (⟨by omega, RRP.ok (s1 := (hup sg (num T (nx T (nx T (nx T (nx T (nx T (nx T b)))))) 0 100))) (by simp [houF, houW, houP, houT, hc3, y5, w8, y8, y11, y14, y16]) (by omega) rb43 (by have z9 := mv43; rw [show v16.toInt = num T (nx T (nx T (nx T (nx T (nx T (nx T b)))))) 0 100 by first | omega | decide, show v41.toInt = sg 0 + 1 by omega] at z9; exact z9) (PV.houF9 pv0)⟩)
                      · have b17 : ¬ (0 : Int32).toInt ≤ v16.toInt := fun z9 => c17 (i_le.mpr z9)
                        exact absurd b17 (by omega)
                    · skip
                      refine lv_goto (tgt := 82) hx hb dX12_readHouse_78 (by decide) ?_
                      refine lv_istore (lv' := [(5, .int v16), (4, .int (1 : Int32)), (3, .int v8), (2, .int v5), (1, .int v1), (0, .ref a0)]) hx hb dX12_readHouse_82 hl (by decide) rfl (fun ls hl => ?_)
                      refine lv_iload hx hb dX12_readHouse_84 (lv_at hl 0 rfl) ?_
                      refine lv_if_ge (tgt := 91) hx hb dX12_readHouse_86 (by decide) (fun c44 => ?_) (fun c44 => ?_)
                      · have b44 : (0 : Int32).toInt ≤ v16.toInt := i_le.mp c44
                        exact absurd b44 (by omega)
                      · have b44 : ¬ (0 : Int32).toInt ≤ v16.toInt := fun z9 => c44 (i_le.mpr z9)
                        refine lv_iconst (v := 0) hx hb dX12_readHouse_89 (by decide) ?_
                        exact retE_z hQ C S16 hr dX12_readHouse_90 (z01 (by omega) (by omega)) (⟨by omega, RRP.no (s1 := sg) (by simp [houF, houW, houP, houT, hc3, y5, w8, y8, y11, y14, y16]) (by omega) wr16⟩)
                · skip
                  refine lv_if_eq (tgt := 81) hx hb dX12_readHouse_68 (by decide) (fun c45 => ?_) (fun c45 => ?_)
                  · have b45 : v14.toInt = (0 : Int32).toInt := i_eq.mp c45
                    refine lv_iconst (v := 0) hx hb dX12_readHouse_81 (by decide) ?_
                    refine lv_istore (lv' := [(5, .int (0 : Int32)), (4, .int (1 : Int32)), (3, .int v8), (2, .int v5), (1, .int v1), (0, .ref a0)]) hx hb dX12_readHouse_82 hl (by decide) rfl (fun ls hl => ?_)
                    refine lv_iload hx hb dX12_readHouse_84 (lv_at hl 0 rfl) ?_
                    refine lv_if_ge (tgt := 91) hx hb dX12_readHouse_86 (by decide) (fun c46 => ?_) (fun c46 => ?_)
                    · have b46 : (0 : Int32).toInt ≤ (0 : Int32).toInt := i_le.mp c46
                      refine lv_aload_n hx hb dX12_readHouse_91 rfl (lv_at hl 5 rfl) ?_
                      refine q_gr (T := TX12) C S14.1 ga0 1 kF_X12_13 dX12_readHouse_92 rfl rfl (by decide) rfl (by decide) rfl (fun g47 => ?_)
                      refine lv_iload_n hx hb dX12_readHouse_95 rfl (lv_at hl 4 rfl) ?_
                      refine lv_iconst (v := 0) hx hb dX12_readHouse_96 (by decide) ?_
                      refine callS_Pi C S14.1 S14.2.1.2.1 (c_X12_houseAt l D G v1 (0 : Int32) (by omega) (by omega)) kS_X12_49 (trivial) dX12_readHouse_97 hl.1 cd_X12_houseAt ⟨Nat.le_of_ble_eq_true rfl, Nat.le_of_ble_eq_true rfl, Nat.le_of_ble_eq_true rfl, Nat.le_of_ble_eq_true rfl, Nat.le_of_ble_eq_true rfl⟩ (fun v48 q48 => ?_)
                      refine lv_iload_n hx hb dX12_readHouse_100 rfl (lv_at hl 3 rfl) ?_
                      have n49 : aN H14 (fR D H14 11 a0 1) = 2052 := len_31 S14.1 g47
                      refine q_iast C S14 g47 (by omega) (by omega) dX12_readHouse_101 rfl (by decide) (by decide +kernel) (fun _ _ h => wk_low _ _ (by omega) (fun h9 => by omega) (fun h9 => by omega) (fun h9 => by omega) (fun j hj h9 => by omega) h) (fun H50 L50 S50 P50 => ?_) (hs := fun _ => Or.inl (by decide +kernel))
                      have rb50 := ts14.cells S14.1 ga0 g47 (by decide) (by decide) P50.2.2.1
                      have bg50 : (fI D H50 11 a0 12).toInt = (((nx T (nx T (nx T (nx T (nx T b))))) : Nat) : Int) := by rw [Pa.f P50 (ne_role ga0 g47 (by decide))]; exact wr14
                      have mv50 := mv14.asto S14.1 ga0 rfl P50 (vy_no (by omega) (by omega) (by omega) (by omega) (fun h9 hh9 => by omega) (fun j9 hj9 => by omega))
                      refine lv_aload_n hx hb dX12_readHouse_102 rfl (lv_at hl 5 rfl) ?_
                      refine q_gr (T := TX12) C S50.1 ga0 1 kF_X12_13 dX12_readHouse_103 rfl rfl (by decide) rfl (by decide) rfl (fun g51 => ?_)
                      refine lv_iload_n hx hb dX12_readHouse_106 rfl (lv_at hl 4 rfl) ?_
                      refine lv_iconst (v := 1) hx hb dX12_readHouse_107 (by decide) ?_
                      have k_1 : (1 : Int32).toInt = 1 := by decide
                      refine callS_Pi C S50.1 S50.2.1.2.1 (c_X12_houseAt l D G v1 (1 : Int32) (by omega) (by omega)) kS_X12_49 (trivial) dX12_readHouse_108 hl.1 cd_X12_houseAt ⟨Nat.le_of_ble_eq_true rfl, Nat.le_of_ble_eq_true rfl, Nat.le_of_ble_eq_true rfl, Nat.le_of_ble_eq_true rfl, Nat.le_of_ble_eq_true rfl⟩ (fun v52 q52 => ?_)
                      refine lv_iload hx hb dX12_readHouse_111 (lv_at hl 1 rfl) ?_
                      have n53 : aN H50 (fR D H50 11 a0 1) = 2052 := len_31 S50.1 g51
                      refine q_iast C S50 g51 (by omega) (by omega) dX12_readHouse_113 rfl (by decide) (by decide +kernel) (fun _ _ h => wk_low _ _ (by omega) (fun h9 => by omega) (fun h9 => by omega) (fun h9 => by omega) (fun j hj h9 => by omega) h) (fun H54 L54 S54 P54 => ?_) (hs := fun _ => Or.inl (by decide +kernel))
                      have rb54 := rb50.cells S50.1 ga0 g51 (by decide) (by decide) P54.2.2.1
                      have bg54 : (fI D H54 11 a0 12).toInt = (((nx T (nx T (nx T (nx T (nx T b))))) : Nat) : Int) := by rw [Pa.f P54 (ne_role ga0 g51 (by decide))]; exact bg50
                      have mv54 := mv50.asto S50.1 ga0 rfl P54 (vy_no (by omega) (by omega) (by omega) (by omega) (fun h9 hh9 => by omega) (fun j9 hj9 => by omega))
                      refine lv_aload_n hx hb dX12_readHouse_114 rfl (lv_at hl 5 rfl) ?_
                      refine q_gr (T := TX12) C S54.1 ga0 1 kF_X12_13 dX12_readHouse_115 rfl rfl (by decide) rfl (by decide) rfl (fun g55 => ?_)
                      refine lv_iload_n hx hb dX12_readHouse_118 rfl (lv_at hl 4 rfl) ?_
                      refine lv_iconst (v := 2) hx hb dX12_readHouse_119 (by decide) ?_
                      have k_2 : (2 : Int32).toInt = 2 := by decide
                      refine callS_Pi C S54.1 S54.2.1.2.1 (c_X12_houseAt l D G v1 (2 : Int32) (by omega) (by omega)) kS_X12_49 (trivial) dX12_readHouse_120 hl.1 cd_X12_houseAt ⟨Nat.le_of_ble_eq_true rfl, Nat.le_of_ble_eq_true rfl, Nat.le_of_ble_eq_true rfl, Nat.le_of_ble_eq_true rfl, Nat.le_of_ble_eq_true rfl⟩ (fun v56 q56 => ?_)
                      refine lv_iload_n hx hb dX12_readHouse_123 rfl (lv_at hl 2 rfl) ?_
                      have n57 : aN H54 (fR D H54 11 a0 1) = 2052 := len_31 S54.1 g55
                      refine q_iast C S54 g55 (by omega) (by omega) dX12_readHouse_124 rfl (by decide) (by decide +kernel) (fun _ _ h => wk_low _ _ (by omega) (fun h9 => by omega) (fun h9 => by omega) (fun h9 => by omega) (fun j hj h9 => by omega) h) (fun H58 L58 S58 P58 => ?_) (hs := fun _ => Or.inl (by decide +kernel))
                      have rb58 := rb54.cells S54.1 ga0 g55 (by decide) (by decide) P58.2.2.1
                      have bg58 : (fI D H58 11 a0 12).toInt = (((nx T (nx T (nx T (nx T (nx T b))))) : Nat) : Int) := by rw [Pa.f P58 (ne_role ga0 g55 (by decide))]; exact bg54
                      have mv58 := mv54.asto S54.1 ga0 rfl P58 (vy_no (by omega) (by omega) (by omega) (by omega) (fun h9 hh9 => by omega) (fun j9 hj9 => by omega))
                      refine lv_aload_n hx hb dX12_readHouse_125 rfl (lv_at hl 5 rfl) ?_
                      refine q_gr (T := TX12) C S58.1 ga0 1 kF_X12_13 dX12_readHouse_126 rfl rfl (by decide) rfl (by decide) rfl (fun g59 => ?_)
                      refine lv_iload_n hx hb dX12_readHouse_129 rfl (lv_at hl 4 rfl) ?_
                      refine lv_iconst (v := 3) hx hb dX12_readHouse_130 (by decide) ?_
                      have k_3 : (3 : Int32).toInt = 3 := by decide
                      refine callS_Pi C S58.1 S58.2.1.2.1 (c_X12_houseAt l D G v1 (3 : Int32) (by omega) (by omega)) kS_X12_49 (trivial) dX12_readHouse_131 hl.1 cd_X12_houseAt ⟨Nat.le_of_ble_eq_true rfl, Nat.le_of_ble_eq_true rfl, Nat.le_of_ble_eq_true rfl, Nat.le_of_ble_eq_true rfl, Nat.le_of_ble_eq_true rfl⟩ (fun v60 q60 => ?_)
                      refine lv_iconst (v := 0) hx hb dX12_readHouse_134 (by decide) ?_
                      have n61 : aN H58 (fR D H58 11 a0 1) = 2052 := len_31 S58.1 g59
                      refine q_iast C S58 g59 (by omega) (by omega) dX12_readHouse_135 rfl (by decide) (by decide +kernel) (fun _ _ h => wk_low _ _ (by omega) (fun h9 => by omega) (fun h9 => by omega) (fun h9 => by omega) (fun j hj h9 => by omega) h) (fun H62 L62 S62 P62 => ?_) (hs := fun _ => Or.inl (by decide +kernel))
                      have rb62 := rb58.cells S58.1 ga0 g59 (by decide) (by decide) P62.2.2.1
                      have bg62 : (fI D H62 11 a0 12).toInt = (((nx T (nx T (nx T (nx T (nx T b))))) : Nat) : Int) := by rw [Pa.f P62 (ne_role ga0 g59 (by decide))]; exact bg58
                      have mv62 := mv58.asto S58.1 ga0 rfl P62 (vy_no (by omega) (by omega) (by omega) (by omega) (fun h9 hh9 => by omega) (fun j9 hj9 => by omega))
                      refine lv_aload_n hx hb dX12_readHouse_136 rfl (lv_at hl 5 rfl) ?_
                      refine q_gr (T := TX12) C S62.1 ga0 1 kF_X12_13 dX12_readHouse_137 rfl rfl (by decide) rfl (by decide) rfl (fun g63 => ?_)
                      refine lv_iload_n hx hb dX12_readHouse_140 rfl (lv_at hl 4 rfl) ?_
                      refine lv_iconst (v := 4) hx hb dX12_readHouse_141 (by decide) ?_
                      have k_4 : (4 : Int32).toInt = 4 := by decide
                      refine callS_Pi C S62.1 S62.2.1.2.1 (c_X12_houseAt l D G v1 (4 : Int32) (by omega) (by omega)) kS_X12_49 (trivial) dX12_readHouse_142 hl.1 cd_X12_houseAt ⟨Nat.le_of_ble_eq_true rfl, Nat.le_of_ble_eq_true rfl, Nat.le_of_ble_eq_true rfl, Nat.le_of_ble_eq_true rfl, Nat.le_of_ble_eq_true rfl⟩ (fun v64 q64 => ?_)
                      refine lv_iload hx hb dX12_readHouse_145 (lv_at hl 0 rfl) ?_
                      have n65 : aN H62 (fR D H62 11 a0 1) = 2052 := len_31 S62.1 g63
                      refine q_iast C S62 g63 (by omega) (by omega) dX12_readHouse_147 rfl (by decide) (by decide +kernel) (fun _ _ h => wk_low _ _ (by omega) (fun h9 => by omega) (fun h9 => by omega) (fun h9 => by omega) (fun j hj h9 => by omega) h) (fun H66 L66 S66 P66 => ?_) (hs := fun _ => Or.inl (by decide +kernel))
                      have rb66 := rb62.cells S62.1 ga0 g63 (by decide) (by decide) P66.2.2.1
                      have bg66 : (fI D H66 11 a0 12).toInt = (((nx T (nx T (nx T (nx T (nx T b))))) : Nat) : Int) := by rw [Pa.f P66 (ne_role ga0 g63 (by decide))]; exact bg62
                      have mv66 := MV.ast mv62 S62.1 ga0 rfl P66 (k := 16 + (sg 0).toNat) (by omega) (by rw [vy_w]; omega)
                      refine lv_aload_n hx hb dX12_readHouse_148 rfl (lv_at hl 5 rfl) ?_
                      refine q_gr (T := TX12) C S66.1 ga0 1 kF_X12_13 dX12_readHouse_149 rfl rfl (by decide) rfl (by decide) rfl (fun g67 => ?_)
                      refine lv_iconst (v := 0) hx hb dX12_readHouse_152 (by decide) ?_
                      refine lv_dup2_11 hx hb dX12_readHouse_153 rfl rfl ?_
                      have mc9 : (eI H66 (fR D H66 11 a0 1) 0).toInt = sg 0 := (mv_0 mv66).trans (sup_o _ _ (by omega))
                      have n68 : aN H66 (fR D H66 11 a0 1) = 2052 := len_31 S66.1 g67
                      refine q_iald C S66.1 g67 (by omega) (by omega) dX12_readHouse_154 rfl (by decide) ?_
                      refine lv_topi (fun v69 ev69 => ?_)
                      have wv69 : v69.toInt = (eI H66 (fR D H66 11 a0 1) 0).toInt := by rw [ev69]; rfl
                      refine lv_iconst (v := 1) hx hb dX12_readHouse_155 (by decide) ?_
                      refine lv_iadd hx hb dX12_readHouse_156 ?_
                      refine lv_topi (fun v70 ev70 => ?_)
                      have f71 : v70.toInt = v69.toInt + (1 : Int32).toInt := by rw [ev70]; exact i_add (by omega) (by omega)
                      refine q_iast C S66 g67 (by omega) (by omega) dX12_readHouse_157 rfl (by decide) (by decide +kernel) (fun _ _ h => wk_low _ _ (by omega) (fun h9 => by omega) (fun h9 => by omega) (fun h9 => by omega) (fun j hj h9 => by omega) h) (fun H72 L72 S72 P72 => ?_) (hs := fun _ => Or.inl (by decide +kernel))
                      have rb72 := rb66.cells S66.1 ga0 g67 (by decide) (by decide) P72.2.2.1
                      have bg72 : (fI D H72 11 a0 12).toInt = (((nx T (nx T (nx T (nx T (nx T b))))) : Nat) : Int) := by rw [Pa.f P72 (ne_role ga0 g67 (by decide))]; exact bg66
                      have mv72 := MV.ast mv66 S66.1 ga0 rfl P72 (k := 0) (by decide) (by first | rfl | (show _ = 0; omega))
                      refine lv_iconst (v := 1) hx hb dX12_readHouse_158 (by decide) ?_
                      exact retE_z hQ C S72 hr dX12_readHouse_159 (z01 (by omega) (by omega)) (⟨by omega, RRP.ok (s1 := (hup sg 0)) (by simp [houF, houW, houP, houT, hc3, y5, w8, y8, y11, y14]) (by omega) rb72 (by have z9 := mv72; rw [show (0 : Int32).toInt = 0 by first | omega | decide, show v70.toInt = sg 0 + 1 by omega] at z9; exact z9) (PV.houF9 pv0)⟩)
                    · have b46 : ¬ (0 : Int32).toInt ≤ (0 : Int32).toInt := fun z9 => c46 (i_le.mpr z9)
                      exact absurd b46 (by omega)
                  · have b45 : ¬ v14.toInt = (0 : Int32).toInt := fun z9 => c45 (i_eq.mpr z9)
                    exact absurd b45 (by omega)
            · skip
              refine lv_if_eq (tgt := 59) hx hb dX12_readHouse_52 (by decide) (fun c73 => ?_) (fun c73 => ?_)
              · have b73 : v11.toInt = (0 : Int32).toInt := i_eq.mp c73
                refine lv_iconst (v := 0) hx hb dX12_readHouse_59 (by decide) ?_
                refine lv_istore (lv' := [(4, .int (0 : Int32)), (3, .int v8), (2, .int v5), (1, .int v1), (0, .ref a0)]) hx hb dX12_readHouse_60 hl (by decide) rfl (fun ls hl => ?_)
                refine lv_aload_n hx hb dX12_readHouse_62 rfl (lv_at hl 4 rfl) ?_
                refine q_lds C ks_X12_123 dX12_readHouse_63 (fun a74 ha74 wa74 => ?_)
                refine callV_Ei C S11 (c_X12_passes_f l D G a0 a74 5 w_tells T (nx T (nx T (nx T (nx T b)))) ga0 ha74 (Wc.of wa74 kw_tells) (by decide)) kV_X12_120 ga0 (⟨trivial, ts11⟩) (by decide +kernel) dX12_readHouse_65 hl.1 rfl rfl (by decide) cd_X12_passes ⟨Nat.le_of_ble_eq_true rfl, Nat.le_of_ble_eq_true rfl, Nat.le_of_ble_eq_true rfl, Nat.le_of_ble_eq_true rfl, Nat.le_of_ble_eq_true rfl⟩ (fun v75 H75 L75 S75 K75 q75 => ?_)
                obtain ⟨q75, fq75⟩ := q75
                have mv75 := mv11.keep S11.1 ga0 K75 (by decide +kernel) (by decide +kernel)
                rcases fq75 with ⟨z75, y75, ts75, wr75⟩ | ⟨z75, y75, ts75, wr75⟩
                · skip
                  refine lv_if_eq (tgt := 81) hx hb dX12_readHouse_68 (by decide) (fun c76 => ?_) (fun c76 => ?_)
                  · have b76 : v75.toInt = (0 : Int32).toInt := i_eq.mp c76
                    exact absurd b76 (by omega)
                  · have b76 : ¬ v75.toInt = (0 : Int32).toInt := fun z9 => c76 (i_eq.mpr z9)
                    refine lv_aload_n hx hb dX12_readHouse_71 rfl (lv_at hl 4 rfl) ?_
                    refine lv_iconst (v := 0) hx hb dX12_readHouse_72 (by decide) ?_
                    refine lv_bipush (v := 100) hx hb dX12_readHouse_73 (by decide) ?_
                    have k_100 : (100 : Int32).toInt = 100 := by decide
                    refine callV_Ei C S75 (c_X12_number_f l D G a0 (0 : Int32) (100 : Int32) 0 100 T (nx T (nx T (nx T (nx T (nx T b))))) ga0 (by omega) (by omega) (by omega) (by omega)) kV_X12_109 ga0 (⟨trivial, ts75⟩) (by decide +kernel) dX12_readHouse_75 hl.1 rfl rfl (by decide) cd_X12_number ⟨Nat.le_of_ble_eq_true rfl, Nat.le_of_ble_eq_true rfl, Nat.le_of_ble_eq_true rfl, Nat.le_of_ble_eq_true rfl, Nat.le_of_ble_eq_true rfl⟩ (fun v77 H77 L77 S77 K77 q77 => ?_)
                    obtain ⟨q77, fq77⟩ := q77
                    have mv77 := mv75.keep S75.1 ga0 K77 (by decide +kernel) (by decide +kernel)
                    rcases fq77 with ⟨z77, y77, ts77, bg77⟩ | ⟨z77, y77, wr77⟩
                    · skip
                      refine lv_goto (tgt := 82) hx hb dX12_readHouse_78 (by decide) ?_
                      refine lv_istore (lv' := [(5, .int v77), (4, .int (0 : Int32)), (3, .int v8), (2, .int v5), (1, .int v1), (0, .ref a0)]) hx hb dX12_readHouse_82 hl (by decide) rfl (fun ls hl => ?_)
                      refine lv_iload hx hb dX12_readHouse_84 (lv_at hl 0 rfl) ?_
                      refine lv_if_ge (tgt := 91) hx hb dX12_readHouse_86 (by decide) (fun c78 => ?_) (fun c78 => ?_)
                      · have b78 : (0 : Int32).toInt ≤ v77.toInt := i_le.mp c78
                        refine lv_aload_n hx hb dX12_readHouse_91 rfl (lv_at hl 5 rfl) ?_
                        refine q_gr (T := TX12) C S77.1 ga0 1 kF_X12_13 dX12_readHouse_92 rfl rfl (by decide) rfl (by decide) rfl (fun g79 => ?_)
                        refine lv_iload_n hx hb dX12_readHouse_95 rfl (lv_at hl 4 rfl) ?_
                        refine lv_iconst (v := 0) hx hb dX12_readHouse_96 (by decide) ?_
                        refine callS_Pi C S77.1 S77.2.1.2.1 (c_X12_houseAt l D G v1 (0 : Int32) (by omega) (by omega)) kS_X12_49 (trivial) dX12_readHouse_97 hl.1 cd_X12_houseAt ⟨Nat.le_of_ble_eq_true rfl, Nat.le_of_ble_eq_true rfl, Nat.le_of_ble_eq_true rfl, Nat.le_of_ble_eq_true rfl, Nat.le_of_ble_eq_true rfl⟩ (fun v80 q80 => ?_)
                        refine lv_iload_n hx hb dX12_readHouse_100 rfl (lv_at hl 3 rfl) ?_
                        have n81 : aN H77 (fR D H77 11 a0 1) = 2052 := len_31 S77.1 g79
                        refine q_iast C S77 g79 (by omega) (by omega) dX12_readHouse_101 rfl (by decide) (by decide +kernel) (fun _ _ h => wk_low _ _ (by omega) (fun h9 => by omega) (fun h9 => by omega) (fun h9 => by omega) (fun j hj h9 => by omega) h) (fun H82 L82 S82 P82 => ?_) (hs := fun _ => Or.inl (by decide +kernel))
                        have rb82 := ts77.cells S77.1 ga0 g79 (by decide) (by decide) P82.2.2.1
                        have bg82 : (fI D H82 11 a0 12).toInt = (((nx T (nx T (nx T (nx T (nx T b))))) : Nat) : Int) := by rw [Pa.f P82 (ne_role ga0 g79 (by decide))]; exact bg77
                        have mv82 := mv77.asto S77.1 ga0 rfl P82 (vy_no (by omega) (by omega) (by omega) (by omega) (fun h9 hh9 => by omega) (fun j9 hj9 => by omega))
                        refine lv_aload_n hx hb dX12_readHouse_102 rfl (lv_at hl 5 rfl) ?_
                        refine q_gr (T := TX12) C S82.1 ga0 1 kF_X12_13 dX12_readHouse_103 rfl rfl (by decide) rfl (by decide) rfl (fun g83 => ?_)
                        refine lv_iload_n hx hb dX12_readHouse_106 rfl (lv_at hl 4 rfl) ?_
                        refine lv_iconst (v := 1) hx hb dX12_readHouse_107 (by decide) ?_
                        have k_1 : (1 : Int32).toInt = 1 := by decide
                        refine callS_Pi C S82.1 S82.2.1.2.1 (c_X12_houseAt l D G v1 (1 : Int32) (by omega) (by omega)) kS_X12_49 (trivial) dX12_readHouse_108 hl.1 cd_X12_houseAt ⟨Nat.le_of_ble_eq_true rfl, Nat.le_of_ble_eq_true rfl, Nat.le_of_ble_eq_true rfl, Nat.le_of_ble_eq_true rfl, Nat.le_of_ble_eq_true rfl⟩ (fun v84 q84 => ?_)
                        refine lv_iload hx hb dX12_readHouse_111 (lv_at hl 1 rfl) ?_
                        have n85 : aN H82 (fR D H82 11 a0 1) = 2052 := len_31 S82.1 g83
                        refine q_iast C S82 g83 (by omega) (by omega) dX12_readHouse_113 rfl (by decide) (by decide +kernel) (fun _ _ h => wk_low _ _ (by omega) (fun h9 => by omega) (fun h9 => by omega) (fun h9 => by omega) (fun j hj h9 => by omega) h) (fun H86 L86 S86 P86 => ?_) (hs := fun _ => Or.inl (by decide +kernel))
                        have rb86 := rb82.cells S82.1 ga0 g83 (by decide) (by decide) P86.2.2.1
                        have bg86 : (fI D H86 11 a0 12).toInt = (((nx T (nx T (nx T (nx T (nx T b))))) : Nat) : Int) := by rw [Pa.f P86 (ne_role ga0 g83 (by decide))]; exact bg82
                        have mv86 := mv82.asto S82.1 ga0 rfl P86 (vy_no (by omega) (by omega) (by omega) (by omega) (fun h9 hh9 => by omega) (fun j9 hj9 => by omega))
                        refine lv_aload_n hx hb dX12_readHouse_114 rfl (lv_at hl 5 rfl) ?_
                        refine q_gr (T := TX12) C S86.1 ga0 1 kF_X12_13 dX12_readHouse_115 rfl rfl (by decide) rfl (by decide) rfl (fun g87 => ?_)
                        refine lv_iload_n hx hb dX12_readHouse_118 rfl (lv_at hl 4 rfl) ?_
                        refine lv_iconst (v := 2) hx hb dX12_readHouse_119 (by decide) ?_
                        have k_2 : (2 : Int32).toInt = 2 := by decide
                        refine callS_Pi C S86.1 S86.2.1.2.1 (c_X12_houseAt l D G v1 (2 : Int32) (by omega) (by omega)) kS_X12_49 (trivial) dX12_readHouse_120 hl.1 cd_X12_houseAt ⟨Nat.le_of_ble_eq_true rfl, Nat.le_of_ble_eq_true rfl, Nat.le_of_ble_eq_true rfl, Nat.le_of_ble_eq_true rfl, Nat.le_of_ble_eq_true rfl⟩ (fun v88 q88 => ?_)
                        refine lv_iload_n hx hb dX12_readHouse_123 rfl (lv_at hl 2 rfl) ?_
                        have n89 : aN H86 (fR D H86 11 a0 1) = 2052 := len_31 S86.1 g87
                        refine q_iast C S86 g87 (by omega) (by omega) dX12_readHouse_124 rfl (by decide) (by decide +kernel) (fun _ _ h => wk_low _ _ (by omega) (fun h9 => by omega) (fun h9 => by omega) (fun h9 => by omega) (fun j hj h9 => by omega) h) (fun H90 L90 S90 P90 => ?_) (hs := fun _ => Or.inl (by decide +kernel))
                        have rb90 := rb86.cells S86.1 ga0 g87 (by decide) (by decide) P90.2.2.1
                        have bg90 : (fI D H90 11 a0 12).toInt = (((nx T (nx T (nx T (nx T (nx T b))))) : Nat) : Int) := by rw [Pa.f P90 (ne_role ga0 g87 (by decide))]; exact bg86
                        have mv90 := mv86.asto S86.1 ga0 rfl P90 (vy_no (by omega) (by omega) (by omega) (by omega) (fun h9 hh9 => by omega) (fun j9 hj9 => by omega))
                        refine lv_aload_n hx hb dX12_readHouse_125 rfl (lv_at hl 5 rfl) ?_
                        refine q_gr (T := TX12) C S90.1 ga0 1 kF_X12_13 dX12_readHouse_126 rfl rfl (by decide) rfl (by decide) rfl (fun g91 => ?_)
                        refine lv_iload_n hx hb dX12_readHouse_129 rfl (lv_at hl 4 rfl) ?_
                        refine lv_iconst (v := 3) hx hb dX12_readHouse_130 (by decide) ?_
                        have k_3 : (3 : Int32).toInt = 3 := by decide
                        refine callS_Pi C S90.1 S90.2.1.2.1 (c_X12_houseAt l D G v1 (3 : Int32) (by omega) (by omega)) kS_X12_49 (trivial) dX12_readHouse_131 hl.1 cd_X12_houseAt ⟨Nat.le_of_ble_eq_true rfl, Nat.le_of_ble_eq_true rfl, Nat.le_of_ble_eq_true rfl, Nat.le_of_ble_eq_true rfl, Nat.le_of_ble_eq_true rfl⟩ (fun v92 q92 => ?_)
                        refine lv_iconst (v := 0) hx hb dX12_readHouse_134 (by decide) ?_
                        have n93 : aN H90 (fR D H90 11 a0 1) = 2052 := len_31 S90.1 g91
                        refine q_iast C S90 g91 (by omega) (by omega) dX12_readHouse_135 rfl (by decide) (by decide +kernel) (fun _ _ h => wk_low _ _ (by omega) (fun h9 => by omega) (fun h9 => by omega) (fun h9 => by omega) (fun j hj h9 => by omega) h) (fun H94 L94 S94 P94 => ?_) (hs := fun _ => Or.inl (by decide +kernel))
                        have rb94 := rb90.cells S90.1 ga0 g91 (by decide) (by decide) P94.2.2.1
                        have bg94 : (fI D H94 11 a0 12).toInt = (((nx T (nx T (nx T (nx T (nx T b))))) : Nat) : Int) := by rw [Pa.f P94 (ne_role ga0 g91 (by decide))]; exact bg90
                        have mv94 := mv90.asto S90.1 ga0 rfl P94 (vy_no (by omega) (by omega) (by omega) (by omega) (fun h9 hh9 => by omega) (fun j9 hj9 => by omega))
                        refine lv_aload_n hx hb dX12_readHouse_136 rfl (lv_at hl 5 rfl) ?_
                        refine q_gr (T := TX12) C S94.1 ga0 1 kF_X12_13 dX12_readHouse_137 rfl rfl (by decide) rfl (by decide) rfl (fun g95 => ?_)
                        refine lv_iload_n hx hb dX12_readHouse_140 rfl (lv_at hl 4 rfl) ?_
                        refine lv_iconst (v := 4) hx hb dX12_readHouse_141 (by decide) ?_
                        have k_4 : (4 : Int32).toInt = 4 := by decide
                        refine callS_Pi C S94.1 S94.2.1.2.1 (c_X12_houseAt l D G v1 (4 : Int32) (by omega) (by omega)) kS_X12_49 (trivial) dX12_readHouse_142 hl.1 cd_X12_houseAt ⟨Nat.le_of_ble_eq_true rfl, Nat.le_of_ble_eq_true rfl, Nat.le_of_ble_eq_true rfl, Nat.le_of_ble_eq_true rfl, Nat.le_of_ble_eq_true rfl⟩ (fun v96 q96 => ?_)
                        refine lv_iload hx hb dX12_readHouse_145 (lv_at hl 0 rfl) ?_
                        have n97 : aN H94 (fR D H94 11 a0 1) = 2052 := len_31 S94.1 g95
                        refine q_iast C S94 g95 (by omega) (by omega) dX12_readHouse_147 rfl (by decide) (by decide +kernel) (fun _ _ h => wk_low _ _ (by omega) (fun h9 => by omega) (fun h9 => by omega) (fun h9 => by omega) (fun j hj h9 => by omega) h) (fun H98 L98 S98 P98 => ?_) (hs := fun _ => Or.inl (by decide +kernel))
                        have rb98 := rb94.cells S94.1 ga0 g95 (by decide) (by decide) P98.2.2.1
                        have bg98 : (fI D H98 11 a0 12).toInt = (((nx T (nx T (nx T (nx T (nx T b))))) : Nat) : Int) := by rw [Pa.f P98 (ne_role ga0 g95 (by decide))]; exact bg94
                        have mv98 := MV.ast mv94 S94.1 ga0 rfl P98 (k := 16 + (sg 0).toNat) (by omega) (by rw [vy_w]; omega)
                        refine lv_aload_n hx hb dX12_readHouse_148 rfl (lv_at hl 5 rfl) ?_
                        refine q_gr (T := TX12) C S98.1 ga0 1 kF_X12_13 dX12_readHouse_149 rfl rfl (by decide) rfl (by decide) rfl (fun g99 => ?_)
                        refine lv_iconst (v := 0) hx hb dX12_readHouse_152 (by decide) ?_
                        refine lv_dup2_11 hx hb dX12_readHouse_153 rfl rfl ?_
                        have mc9 : (eI H98 (fR D H98 11 a0 1) 0).toInt = sg 0 := (mv_0 mv98).trans (sup_o _ _ (by omega))
                        have n100 : aN H98 (fR D H98 11 a0 1) = 2052 := len_31 S98.1 g99
                        refine q_iald C S98.1 g99 (by omega) (by omega) dX12_readHouse_154 rfl (by decide) ?_
                        refine lv_topi (fun v101 ev101 => ?_)
                        have wv101 : v101.toInt = (eI H98 (fR D H98 11 a0 1) 0).toInt := by rw [ev101]; rfl
                        refine lv_iconst (v := 1) hx hb dX12_readHouse_155 (by decide) ?_
                        refine lv_iadd hx hb dX12_readHouse_156 ?_
                        refine lv_topi (fun v102 ev102 => ?_)
                        have f103 : v102.toInt = v101.toInt + (1 : Int32).toInt := by rw [ev102]; exact i_add (by omega) (by omega)
                        refine q_iast C S98 g99 (by omega) (by omega) dX12_readHouse_157 rfl (by decide) (by decide +kernel) (fun _ _ h => wk_low _ _ (by omega) (fun h9 => by omega) (fun h9 => by omega) (fun h9 => by omega) (fun j hj h9 => by omega) h) (fun H104 L104 S104 P104 => ?_) (hs := fun _ => Or.inl (by decide +kernel))
                        have rb104 := rb98.cells S98.1 ga0 g99 (by decide) (by decide) P104.2.2.1
                        have bg104 : (fI D H104 11 a0 12).toInt = (((nx T (nx T (nx T (nx T (nx T b))))) : Nat) : Int) := by rw [Pa.f P104 (ne_role ga0 g99 (by decide))]; exact bg98
                        have mv104 := MV.ast mv98 S98.1 ga0 rfl P104 (k := 0) (by decide) (by first | rfl | (show _ = 0; omega))
                        refine lv_iconst (v := 1) hx hb dX12_readHouse_158 (by decide) ?_
                        exact retE_z hQ C S104 hr dX12_readHouse_159 (z01 (by omega) (by omega)) (⟨by omega, RRP.ok (s1 := (hup sg (num T (nx T (nx T (nx T (nx T (nx T b))))) 0 100))) (by simp [houF, houW, houP, houT, hc3, y5, w8, y8, y11, y75, y77]) (by omega) rb104 (by have z9 := mv104; rw [show v77.toInt = num T (nx T (nx T (nx T (nx T (nx T b))))) 0 100 by first | omega | decide, show v102.toInt = sg 0 + 1 by omega] at z9; exact z9) (PV.houF9 pv0)⟩)
                      · have b78 : ¬ (0 : Int32).toInt ≤ v77.toInt := fun z9 => c78 (i_le.mpr z9)
                        exact absurd b78 (by omega)
                    · skip
                      refine lv_goto (tgt := 82) hx hb dX12_readHouse_78 (by decide) ?_
                      refine lv_istore (lv' := [(5, .int v77), (4, .int (0 : Int32)), (3, .int v8), (2, .int v5), (1, .int v1), (0, .ref a0)]) hx hb dX12_readHouse_82 hl (by decide) rfl (fun ls hl => ?_)
                      refine lv_iload hx hb dX12_readHouse_84 (lv_at hl 0 rfl) ?_
                      refine lv_if_ge (tgt := 91) hx hb dX12_readHouse_86 (by decide) (fun c105 => ?_) (fun c105 => ?_)
                      · have b105 : (0 : Int32).toInt ≤ v77.toInt := i_le.mp c105
                        exact absurd b105 (by omega)
                      · have b105 : ¬ (0 : Int32).toInt ≤ v77.toInt := fun z9 => c105 (i_le.mpr z9)
                        refine lv_iconst (v := 0) hx hb dX12_readHouse_89 (by decide) ?_
                        exact retE_z hQ C S77 hr dX12_readHouse_90 (z01 (by omega) (by omega)) (⟨by omega, RRP.no (s1 := sg) (by simp [houF, houW, houP, houT, hc3, y5, w8, y8, y11, y75, y77]) (by omega) wr77⟩)
                · skip
                  refine lv_if_eq (tgt := 81) hx hb dX12_readHouse_68 (by decide) (fun c106 => ?_) (fun c106 => ?_)
                  · have b106 : v75.toInt = (0 : Int32).toInt := i_eq.mp c106
                    refine lv_iconst (v := 0) hx hb dX12_readHouse_81 (by decide) ?_
                    refine lv_istore (lv' := [(5, .int (0 : Int32)), (4, .int (0 : Int32)), (3, .int v8), (2, .int v5), (1, .int v1), (0, .ref a0)]) hx hb dX12_readHouse_82 hl (by decide) rfl (fun ls hl => ?_)
                    refine lv_iload hx hb dX12_readHouse_84 (lv_at hl 0 rfl) ?_
                    refine lv_if_ge (tgt := 91) hx hb dX12_readHouse_86 (by decide) (fun c107 => ?_) (fun c107 => ?_)
                    · have b107 : (0 : Int32).toInt ≤ (0 : Int32).toInt := i_le.mp c107
                      refine lv_aload_n hx hb dX12_readHouse_91 rfl (lv_at hl 5 rfl) ?_
                      refine q_gr (T := TX12) C S75.1 ga0 1 kF_X12_13 dX12_readHouse_92 rfl rfl (by decide) rfl (by decide) rfl (fun g108 => ?_)
                      refine lv_iload_n hx hb dX12_readHouse_95 rfl (lv_at hl 4 rfl) ?_
                      refine lv_iconst (v := 0) hx hb dX12_readHouse_96 (by decide) ?_
                      refine callS_Pi C S75.1 S75.2.1.2.1 (c_X12_houseAt l D G v1 (0 : Int32) (by omega) (by omega)) kS_X12_49 (trivial) dX12_readHouse_97 hl.1 cd_X12_houseAt ⟨Nat.le_of_ble_eq_true rfl, Nat.le_of_ble_eq_true rfl, Nat.le_of_ble_eq_true rfl, Nat.le_of_ble_eq_true rfl, Nat.le_of_ble_eq_true rfl⟩ (fun v109 q109 => ?_)
                      refine lv_iload_n hx hb dX12_readHouse_100 rfl (lv_at hl 3 rfl) ?_
                      have n110 : aN H75 (fR D H75 11 a0 1) = 2052 := len_31 S75.1 g108
                      refine q_iast C S75 g108 (by omega) (by omega) dX12_readHouse_101 rfl (by decide) (by decide +kernel) (fun _ _ h => wk_low _ _ (by omega) (fun h9 => by omega) (fun h9 => by omega) (fun h9 => by omega) (fun j hj h9 => by omega) h) (fun H111 L111 S111 P111 => ?_) (hs := fun _ => Or.inl (by decide +kernel))
                      have rb111 := ts75.cells S75.1 ga0 g108 (by decide) (by decide) P111.2.2.1
                      have bg111 : (fI D H111 11 a0 12).toInt = (((nx T (nx T (nx T (nx T b)))) : Nat) : Int) := by rw [Pa.f P111 (ne_role ga0 g108 (by decide))]; exact wr75
                      have mv111 := mv75.asto S75.1 ga0 rfl P111 (vy_no (by omega) (by omega) (by omega) (by omega) (fun h9 hh9 => by omega) (fun j9 hj9 => by omega))
                      refine lv_aload_n hx hb dX12_readHouse_102 rfl (lv_at hl 5 rfl) ?_
                      refine q_gr (T := TX12) C S111.1 ga0 1 kF_X12_13 dX12_readHouse_103 rfl rfl (by decide) rfl (by decide) rfl (fun g112 => ?_)
                      refine lv_iload_n hx hb dX12_readHouse_106 rfl (lv_at hl 4 rfl) ?_
                      refine lv_iconst (v := 1) hx hb dX12_readHouse_107 (by decide) ?_
                      have k_1 : (1 : Int32).toInt = 1 := by decide
                      refine callS_Pi C S111.1 S111.2.1.2.1 (c_X12_houseAt l D G v1 (1 : Int32) (by omega) (by omega)) kS_X12_49 (trivial) dX12_readHouse_108 hl.1 cd_X12_houseAt ⟨Nat.le_of_ble_eq_true rfl, Nat.le_of_ble_eq_true rfl, Nat.le_of_ble_eq_true rfl, Nat.le_of_ble_eq_true rfl, Nat.le_of_ble_eq_true rfl⟩ (fun v113 q113 => ?_)
                      refine lv_iload hx hb dX12_readHouse_111 (lv_at hl 1 rfl) ?_
                      have n114 : aN H111 (fR D H111 11 a0 1) = 2052 := len_31 S111.1 g112
                      refine q_iast C S111 g112 (by omega) (by omega) dX12_readHouse_113 rfl (by decide) (by decide +kernel) (fun _ _ h => wk_low _ _ (by omega) (fun h9 => by omega) (fun h9 => by omega) (fun h9 => by omega) (fun j hj h9 => by omega) h) (fun H115 L115 S115 P115 => ?_) (hs := fun _ => Or.inl (by decide +kernel))
                      have rb115 := rb111.cells S111.1 ga0 g112 (by decide) (by decide) P115.2.2.1
                      have bg115 : (fI D H115 11 a0 12).toInt = (((nx T (nx T (nx T (nx T b)))) : Nat) : Int) := by rw [Pa.f P115 (ne_role ga0 g112 (by decide))]; exact bg111
                      have mv115 := mv111.asto S111.1 ga0 rfl P115 (vy_no (by omega) (by omega) (by omega) (by omega) (fun h9 hh9 => by omega) (fun j9 hj9 => by omega))
                      refine lv_aload_n hx hb dX12_readHouse_114 rfl (lv_at hl 5 rfl) ?_
                      refine q_gr (T := TX12) C S115.1 ga0 1 kF_X12_13 dX12_readHouse_115 rfl rfl (by decide) rfl (by decide) rfl (fun g116 => ?_)
                      refine lv_iload_n hx hb dX12_readHouse_118 rfl (lv_at hl 4 rfl) ?_
                      refine lv_iconst (v := 2) hx hb dX12_readHouse_119 (by decide) ?_
                      have k_2 : (2 : Int32).toInt = 2 := by decide
                      refine callS_Pi C S115.1 S115.2.1.2.1 (c_X12_houseAt l D G v1 (2 : Int32) (by omega) (by omega)) kS_X12_49 (trivial) dX12_readHouse_120 hl.1 cd_X12_houseAt ⟨Nat.le_of_ble_eq_true rfl, Nat.le_of_ble_eq_true rfl, Nat.le_of_ble_eq_true rfl, Nat.le_of_ble_eq_true rfl, Nat.le_of_ble_eq_true rfl⟩ (fun v117 q117 => ?_)
                      refine lv_iload_n hx hb dX12_readHouse_123 rfl (lv_at hl 2 rfl) ?_
                      have n118 : aN H115 (fR D H115 11 a0 1) = 2052 := len_31 S115.1 g116
                      refine q_iast C S115 g116 (by omega) (by omega) dX12_readHouse_124 rfl (by decide) (by decide +kernel) (fun _ _ h => wk_low _ _ (by omega) (fun h9 => by omega) (fun h9 => by omega) (fun h9 => by omega) (fun j hj h9 => by omega) h) (fun H119 L119 S119 P119 => ?_) (hs := fun _ => Or.inl (by decide +kernel))
                      have rb119 := rb115.cells S115.1 ga0 g116 (by decide) (by decide) P119.2.2.1
                      have bg119 : (fI D H119 11 a0 12).toInt = (((nx T (nx T (nx T (nx T b)))) : Nat) : Int) := by rw [Pa.f P119 (ne_role ga0 g116 (by decide))]; exact bg115
                      have mv119 := mv115.asto S115.1 ga0 rfl P119 (vy_no (by omega) (by omega) (by omega) (by omega) (fun h9 hh9 => by omega) (fun j9 hj9 => by omega))
                      refine lv_aload_n hx hb dX12_readHouse_125 rfl (lv_at hl 5 rfl) ?_
                      refine q_gr (T := TX12) C S119.1 ga0 1 kF_X12_13 dX12_readHouse_126 rfl rfl (by decide) rfl (by decide) rfl (fun g120 => ?_)
                      refine lv_iload_n hx hb dX12_readHouse_129 rfl (lv_at hl 4 rfl) ?_
                      refine lv_iconst (v := 3) hx hb dX12_readHouse_130 (by decide) ?_
                      have k_3 : (3 : Int32).toInt = 3 := by decide
                      refine callS_Pi C S119.1 S119.2.1.2.1 (c_X12_houseAt l D G v1 (3 : Int32) (by omega) (by omega)) kS_X12_49 (trivial) dX12_readHouse_131 hl.1 cd_X12_houseAt ⟨Nat.le_of_ble_eq_true rfl, Nat.le_of_ble_eq_true rfl, Nat.le_of_ble_eq_true rfl, Nat.le_of_ble_eq_true rfl, Nat.le_of_ble_eq_true rfl⟩ (fun v121 q121 => ?_)
                      refine lv_iconst (v := 0) hx hb dX12_readHouse_134 (by decide) ?_
                      have n122 : aN H119 (fR D H119 11 a0 1) = 2052 := len_31 S119.1 g120
                      refine q_iast C S119 g120 (by omega) (by omega) dX12_readHouse_135 rfl (by decide) (by decide +kernel) (fun _ _ h => wk_low _ _ (by omega) (fun h9 => by omega) (fun h9 => by omega) (fun h9 => by omega) (fun j hj h9 => by omega) h) (fun H123 L123 S123 P123 => ?_) (hs := fun _ => Or.inl (by decide +kernel))
                      have rb123 := rb119.cells S119.1 ga0 g120 (by decide) (by decide) P123.2.2.1
                      have bg123 : (fI D H123 11 a0 12).toInt = (((nx T (nx T (nx T (nx T b)))) : Nat) : Int) := by rw [Pa.f P123 (ne_role ga0 g120 (by decide))]; exact bg119
                      have mv123 := mv119.asto S119.1 ga0 rfl P123 (vy_no (by omega) (by omega) (by omega) (by omega) (fun h9 hh9 => by omega) (fun j9 hj9 => by omega))
                      refine lv_aload_n hx hb dX12_readHouse_136 rfl (lv_at hl 5 rfl) ?_
                      refine q_gr (T := TX12) C S123.1 ga0 1 kF_X12_13 dX12_readHouse_137 rfl rfl (by decide) rfl (by decide) rfl (fun g124 => ?_)
                      refine lv_iload_n hx hb dX12_readHouse_140 rfl (lv_at hl 4 rfl) ?_
                      refine lv_iconst (v := 4) hx hb dX12_readHouse_141 (by decide) ?_
                      have k_4 : (4 : Int32).toInt = 4 := by decide
                      refine callS_Pi C S123.1 S123.2.1.2.1 (c_X12_houseAt l D G v1 (4 : Int32) (by omega) (by omega)) kS_X12_49 (trivial) dX12_readHouse_142 hl.1 cd_X12_houseAt ⟨Nat.le_of_ble_eq_true rfl, Nat.le_of_ble_eq_true rfl, Nat.le_of_ble_eq_true rfl, Nat.le_of_ble_eq_true rfl, Nat.le_of_ble_eq_true rfl⟩ (fun v125 q125 => ?_)
                      refine lv_iload hx hb dX12_readHouse_145 (lv_at hl 0 rfl) ?_
                      have n126 : aN H123 (fR D H123 11 a0 1) = 2052 := len_31 S123.1 g124
                      refine q_iast C S123 g124 (by omega) (by omega) dX12_readHouse_147 rfl (by decide) (by decide +kernel) (fun _ _ h => wk_low _ _ (by omega) (fun h9 => by omega) (fun h9 => by omega) (fun h9 => by omega) (fun j hj h9 => by omega) h) (fun H127 L127 S127 P127 => ?_) (hs := fun _ => Or.inl (by decide +kernel))
                      have rb127 := rb123.cells S123.1 ga0 g124 (by decide) (by decide) P127.2.2.1
                      have bg127 : (fI D H127 11 a0 12).toInt = (((nx T (nx T (nx T (nx T b)))) : Nat) : Int) := by rw [Pa.f P127 (ne_role ga0 g124 (by decide))]; exact bg123
                      have mv127 := MV.ast mv123 S123.1 ga0 rfl P127 (k := 16 + (sg 0).toNat) (by omega) (by rw [vy_w]; omega)
                      refine lv_aload_n hx hb dX12_readHouse_148 rfl (lv_at hl 5 rfl) ?_
                      refine q_gr (T := TX12) C S127.1 ga0 1 kF_X12_13 dX12_readHouse_149 rfl rfl (by decide) rfl (by decide) rfl (fun g128 => ?_)
                      refine lv_iconst (v := 0) hx hb dX12_readHouse_152 (by decide) ?_
                      refine lv_dup2_11 hx hb dX12_readHouse_153 rfl rfl ?_
                      have mc9 : (eI H127 (fR D H127 11 a0 1) 0).toInt = sg 0 := (mv_0 mv127).trans (sup_o _ _ (by omega))
                      have n129 : aN H127 (fR D H127 11 a0 1) = 2052 := len_31 S127.1 g128
                      refine q_iald C S127.1 g128 (by omega) (by omega) dX12_readHouse_154 rfl (by decide) ?_
                      refine lv_topi (fun v130 ev130 => ?_)
                      have wv130 : v130.toInt = (eI H127 (fR D H127 11 a0 1) 0).toInt := by rw [ev130]; rfl
                      refine lv_iconst (v := 1) hx hb dX12_readHouse_155 (by decide) ?_
                      refine lv_iadd hx hb dX12_readHouse_156 ?_
                      refine lv_topi (fun v131 ev131 => ?_)
                      have f132 : v131.toInt = v130.toInt + (1 : Int32).toInt := by rw [ev131]; exact i_add (by omega) (by omega)
                      refine q_iast C S127 g128 (by omega) (by omega) dX12_readHouse_157 rfl (by decide) (by decide +kernel) (fun _ _ h => wk_low _ _ (by omega) (fun h9 => by omega) (fun h9 => by omega) (fun h9 => by omega) (fun j hj h9 => by omega) h) (fun H133 L133 S133 P133 => ?_) (hs := fun _ => Or.inl (by decide +kernel))
                      have rb133 := rb127.cells S127.1 ga0 g128 (by decide) (by decide) P133.2.2.1
                      have bg133 : (fI D H133 11 a0 12).toInt = (((nx T (nx T (nx T (nx T b)))) : Nat) : Int) := by rw [Pa.f P133 (ne_role ga0 g128 (by decide))]; exact bg127
                      have mv133 := MV.ast mv127 S127.1 ga0 rfl P133 (k := 0) (by decide) (by first | rfl | (show _ = 0; omega))
                      refine lv_iconst (v := 1) hx hb dX12_readHouse_158 (by decide) ?_
                      exact retE_z hQ C S133 hr dX12_readHouse_159 (z01 (by omega) (by omega)) (⟨by omega, RRP.ok (s1 := (hup sg 0)) (by simp [houF, houW, houP, houT, hc3, y5, w8, y8, y11, y75]) (by omega) rb133 (by have z9 := mv133; rw [show (0 : Int32).toInt = 0 by first | omega | decide, show v131.toInt = sg 0 + 1 by omega] at z9; exact z9) (PV.houF9 pv0)⟩)
                    · have b107 : ¬ (0 : Int32).toInt ≤ (0 : Int32).toInt := fun z9 => c107 (i_le.mpr z9)
                      exact absurd b107 (by omega)
                  · have b106 : ¬ v75.toInt = (0 : Int32).toInt := fun z9 => c106 (i_eq.mpr z9)
                    exact absurd b106 (by omega)
              · have b73 : ¬ v11.toInt = (0 : Int32).toInt := fun z9 => c73 (i_eq.mpr z9)
                exact absurd b73 (by omega)
          · have b9 : ¬ (0 : Int32).toInt ≤ v8.toInt := fun z9 => c9 (i_le.mpr z9)
            exact absurd b9 (by omega)
        · skip
          refine lv_istore_n (lv' := [(3, .int v8), (2, .int v5), (1, .int v1), (0, .ref a0)]) hx hb dX12_readHouse_39 rfl hl (by decide) rfl (fun ls hl => ?_)
          refine lv_iload_n hx hb dX12_readHouse_40 rfl (lv_at hl 0 rfl) ?_
          refine lv_if_ge (tgt := 46) hx hb dX12_readHouse_41 (by decide) (fun c134 => ?_) (fun c134 => ?_)
          · have b134 : (0 : Int32).toInt ≤ v8.toInt := i_le.mp c134
            exact absurd b134 (by omega)
          · have b134 : ¬ (0 : Int32).toInt ≤ v8.toInt := fun z9 => c134 (i_le.mpr z9)
            refine lv_iconst (v := 0) hx hb dX12_readHouse_44 (by decide) ?_
            exact retE_z hQ C S8 hr dX12_readHouse_45 (z01 (by omega) (by omega)) (⟨by omega, RRP.no (s1 := sg) (by simp [houF, houW, houP, houT, hc3, y5, w8, y8]) (by omega) wr8⟩)
        · skip
          refine lv_istore_n (lv' := [(3, .int v8), (2, .int v5), (1, .int v1), (0, .ref a0)]) hx hb dX12_readHouse_39 rfl hl (by decide) rfl (fun ls hl => ?_)
          refine lv_iload_n hx hb dX12_readHouse_40 rfl (lv_at hl 0 rfl) ?_
          refine lv_if_ge (tgt := 46) hx hb dX12_readHouse_41 (by decide) (fun c135 => ?_) (fun c135 => ?_)
          · have b135 : (0 : Int32).toInt ≤ v8.toInt := i_le.mp c135
            exact absurd b135 (by omega)
          · have b135 : ¬ (0 : Int32).toInt ≤ v8.toInt := fun z9 => c135 (i_le.mpr z9)
            refine lv_iconst (v := 0) hx hb dX12_readHouse_44 (by decide) ?_
            exact retE_z hQ C S8 hr dX12_readHouse_45 (z01 (by omega) (by omega)) (⟨by omega, RRP.no (s1 := sg) (by simp [houF, houW, houP, houT, hc3, y5, w8]) (by omega) wr8⟩)
      · have b6 : ¬ (0 : Int32).toInt ≤ v5.toInt := fun z9 => c6 (i_le.mpr z9)
        exact absurd b6 (by omega)
    · skip
      refine lv_istore_n (lv' := [(2, .int v5), (1, .int v1), (0, .ref a0)]) hx hb dX12_readHouse_21 rfl hl (by decide) rfl (fun ls hl => ?_)
      refine lv_iload_n hx hb dX12_readHouse_22 rfl (lv_at hl 0 rfl) ?_
      refine lv_if_ge (tgt := 30) hx hb dX12_readHouse_23 (by decide) (fun c136 => ?_) (fun c136 => ?_)
      · have b136 : (0 : Int32).toInt ≤ v5.toInt := i_le.mp c136
        exact absurd b136 (by omega)
      · have b136 : ¬ (0 : Int32).toInt ≤ v5.toInt := fun z9 => c136 (i_le.mpr z9)
        refine lv_iconst (v := -1) hx hb dX12_readHouse_26 (by decide) ?_
        refine lv_goto (tgt := 39) hx hb dX12_readHouse_27 (by decide) ?_
        refine lv_istore_n (lv' := [(3, .int (-1 : Int32)), (2, .int v5), (1, .int v1), (0, .ref a0)]) hx hb dX12_readHouse_39 rfl hl (by decide) rfl (fun ls hl => ?_)
        refine lv_iload_n hx hb dX12_readHouse_40 rfl (lv_at hl 0 rfl) ?_
        have k_m1 : (-1 : Int32).toInt = -1 := by decide
        refine lv_if_ge (tgt := 46) hx hb dX12_readHouse_41 (by decide) (fun c137 => ?_) (fun c137 => ?_)
        · have b137 : (0 : Int32).toInt ≤ (-1 : Int32).toInt := i_le.mp c137
          exact absurd b137 (by omega)
        · have b137 : ¬ (0 : Int32).toInt ≤ (-1 : Int32).toInt := fun z9 => c137 (i_le.mpr z9)
          refine lv_iconst (v := 0) hx hb dX12_readHouse_44 (by decide) ?_
          exact retE_z hQ C S5 hr dX12_readHouse_45 (z01 (by omega) (by omega)) (⟨by omega, RRP.no (s1 := sg) (by simp [houF, houW, houP, houT, hc3, y5]) (by omega) wr5⟩)
  · have b2 : v1.toInt = (6 : Int32).toInt := i_eq.mp c2
    have hc138 : sg 0 = 6 := by omega
    refine lv_iconst (v := 0) hx hb dX12_readHouse_11 (by decide) ?_
    have k_0 : (0 : Int32).toInt = 0 := by decide
    exact retE_z hQ C S hr dX12_readHouse_12 (z01 (by omega) (by omega)) (⟨by omega, RRP.no (s1 := sg) (by simp [houF, houW, houP, houT, hc138]) (by omega) ts0.2.2.1⟩)

set_option maxRecDepth 100000 in
set_option maxHeartbeats 4000000 in
theorem c_X12_readSees_f (l : Launch) (D : DD) (G : Nat → Nat) (a0 : Nat) (sg : Sg) (T : Tx) (b : Nat) (ga0 : G a0 = 30) (hw0 : isW T b w_sees = true) : CE l D G yX12_readSees cX12_readSees 3 (some .boolean) 3 [.ref a0] (fun H => (True) ∧ (LB D H a0 T b ∧ MV D H a0 sg ∧ PV sg)) [(30, 10), (30, 12), (31, 0)] (xI (fun H r H1 => (0 ≤ r.toInt ∧ r.toInt ≤ 1) ∧ (RRP D H1 a0 T (seeF T sg b) r))) := by
  refine enter (by decide) (Nat.le_of_ble_eq_true rfl) ?_
  intro p e s m args below meth c ls Q hA hQ C hr hO hpre hl
  have hx := C.1
  have hb := C.2.1
  have S : Sd D G [(30, 10), (30, 12), (31, 0)] s.heap s.heap [] := Sd.start hO
  have hl : lv_has ls 3 [(0, .ref a0)] := hl
  obtain ⟨hpre, hf⟩ := hpre
  obtain ⟨ts0, mv0, pv0⟩ := hf
  have hT : T.2 ≤ 400 := ts0.le hO ga0
  have hs9 := mv_0 mv0
  refine lv_aload_n hx hb dX12_readSees_0 rfl (lv_at hl 0 rfl) ?_
  refine lv_iconst (v := 0) hx hb dX12_readSees_1 (by decide) ?_
  refine lv_iconst (v := 4) hx hb dX12_readSees_2 (by decide) ?_
  have rb1 := ts0.rb1 (isW_k hw0)
  have k_0 : (0 : Int32).toInt = 0 := by decide
  have k_4 : (4 : Int32).toInt = 4 := by decide
  refine callV_Ei C S (c_X12_number_f l D G a0 (0 : Int32) (4 : Int32) 0 4 T (nx T b) ga0 (by omega) (by omega) (by omega) (by omega)) kV_X12_109 ga0 (⟨trivial, rb1⟩) (by decide +kernel) dX12_readSees_3 hl.1 rfl rfl (by decide) cd_X12_number ⟨Nat.le_of_ble_eq_true rfl, Nat.le_of_ble_eq_true rfl, Nat.le_of_ble_eq_true rfl, Nat.le_of_ble_eq_true rfl, Nat.le_of_ble_eq_true rfl⟩ (fun v2 H2 L2 S2 K2 q2 => ?_)
  obtain ⟨q2, fq2⟩ := q2
  have mv2 := mv0.keep S.1 ga0 K2 (by decide +kernel) (by decide +kernel)
  rcases fq2 with ⟨z2, y2, ts2, bg2⟩ | ⟨z2, y2, wr2⟩
  · skip
    refine lv_istore_n (lv' := [(1, .int v2), (0, .ref a0)]) hx hb dX12_readSees_6 rfl hl (by decide) rfl (fun ls hl => ?_)
    refine lv_iload_n hx hb dX12_readSees_7 rfl (lv_at hl 0 rfl) ?_
    refine lv_if_ge (tgt := 15) hx hb dX12_readSees_8 (by decide) (fun c3 => ?_) (fun c3 => ?_)
    · have b3 : (0 : Int32).toInt ≤ v2.toInt := i_le.mp c3
      refine lv_aload_n hx hb dX12_readSees_15 rfl (lv_at hl 1 rfl) ?_
      refine lv_iconst (v := 0) hx hb dX12_readSees_16 (by decide) ?_
      refine lv_aload_n hx hb dX12_readSees_17 rfl (lv_at hl 1 rfl) ?_
      refine callV_Pi C S2.1 S2.2.1.2.1 (c_X12_houses_v l D G a0 ga0) kV_X12_59 ga0 (trivial) dX12_readSees_18 hl.1 rfl rfl (by decide) cd_X12_houses ⟨Nat.le_of_ble_eq_true rfl, Nat.le_of_ble_eq_true rfl, Nat.le_of_ble_eq_true rfl, Nat.le_of_ble_eq_true rfl, Nat.le_of_ble_eq_true rfl⟩ (fun v4 q4 => ?_)
      have hs8 : v4.toInt = sg 0 := q4.2.trans (mv_0 mv2)
      refine lv_iconst (v := 1) hx hb dX12_readSees_21 (by decide) ?_
      have k_1 : (1 : Int32).toInt = 1 := by decide
      refine lv_isub hx hb dX12_readSees_22 ?_
      refine lv_topi (fun v5 ev5 => ?_)
      have f6 : v5.toInt = v4.toInt - (1 : Int32).toInt := by rw [ev5]; exact i_sub (by omega) (by omega)
      refine callV_Ei C S2 (c_X12_number_f l D G a0 (0 : Int32) v5 0 (sg 0 - 1) T (nx T (nx T b)) ga0 (by omega) (by omega) (by omega) (by omega)) kV_X12_109 ga0 (⟨trivial, ts2⟩) (by decide +kernel) dX12_readSees_23 hl.1 rfl rfl (by decide) cd_X12_number ⟨Nat.le_of_ble_eq_true rfl, Nat.le_of_ble_eq_true rfl, Nat.le_of_ble_eq_true rfl, Nat.le_of_ble_eq_true rfl, Nat.le_of_ble_eq_true rfl⟩ (fun v7 H7 L7 S7 K7 q7 => ?_)
      obtain ⟨q7, fq7⟩ := q7
      have mv7 := mv2.keep S2.1 ga0 K7 (by decide +kernel) (by decide +kernel)
      rcases fq7 with ⟨z7, y7, ts7, bg7⟩ | ⟨z7, y7, wr7⟩
      · skip
        refine lv_istore_n (lv' := [(2, .int v7), (1, .int v2), (0, .ref a0)]) hx hb dX12_readSees_26 rfl hl (by decide) rfl (fun ls hl => ?_)
        refine lv_iload_n hx hb dX12_readSees_27 rfl (lv_at hl 0 rfl) ?_
        refine lv_if_lt (tgt := 47) hx hb dX12_readSees_28 (by decide) (fun c8 => ?_) (fun c8 => ?_)
        · have b8 : v7.toInt < (0 : Int32).toInt := i_lt.mp c8
          exact absurd b8 (by omega)
        · have b8 : ¬ v7.toInt < (0 : Int32).toInt := fun z9 => c8 (i_lt.mpr z9)
          refine lv_aload_n hx hb dX12_readSees_31 rfl (lv_at hl 2 rfl) ?_
          refine q_gr (T := TX12) C S7.1 ga0 1 kF_X12_13 dX12_readSees_32 rfl rfl (by decide) rfl (by decide) rfl (fun g9 => ?_)
          refine lv_iload_n hx hb dX12_readSees_35 rfl (lv_at hl 0 rfl) ?_
          refine lv_iconst (v := 3) hx hb dX12_readSees_36 (by decide) ?_
          have k_3 : (3 : Int32).toInt = 3 := by decide
          refine callS_Pi C S7.1 S7.2.1.2.1 (c_X12_houseAt l D G v7 (3 : Int32) (by omega) (by omega)) kS_X12_49 (trivial) dX12_readSees_37 hl.1 cd_X12_houseAt ⟨Nat.le_of_ble_eq_true rfl, Nat.le_of_ble_eq_true rfl, Nat.le_of_ble_eq_true rfl, Nat.le_of_ble_eq_true rfl, Nat.le_of_ble_eq_true rfl⟩ (fun v10 q10 => ?_)
          refine lv_dup2_11 hx hb dX12_readSees_40 rfl rfl ?_
          have n11 : aN H7 (fR D H7 11 a0 1) = 2052 := len_31 S7.1 g9
          refine q_iald C S7.1 g9 (by omega) (by omega) dX12_readSees_41 rfl (by decide) ?_
          refine lv_topi (fun v12 ev12 => ?_)
          refine lv_iconst (v := 1) hx hb dX12_readSees_42 (by decide) ?_
          refine lv_iload_n hx hb dX12_readSees_43 rfl (lv_at hl 1 rfl) ?_
          refine lv_ishl hx hb dX12_readSees_44 ?_
          refine lv_topi (fun v13 ev13 => ?_)
          refine lv_ior hx hb dX12_readSees_45 ?_
          refine lv_topi (fun v14 ev14 => ?_)
          refine q_iast C S7 g9 (by omega) (by omega) dX12_readSees_46 rfl (by decide) (by decide +kernel) (fun _ _ h => wk_low _ _ (by omega) (fun h9 => by omega) (fun h9 => by omega) (fun h9 => by omega) (fun j hj h9 => by omega) h) (fun H15 L15 S15 P15 => ?_) (hs := fun _ => Or.inr (vy_no (by omega) (by omega) (by omega) (by omega) (fun h9 hh9 => by omega) (fun j9 hj9 => by omega)))
          have rb15 := ts7.cells S7.1 ga0 g9 (by decide) (by decide) P15.2.2.1
          have bg15 : (fI D H15 11 a0 12).toInt = (((nx T (nx T b)) : Nat) : Int) := by rw [Pa.f P15 (ne_role ga0 g9 (by decide))]; exact bg7
          have mv15 := mv7.asto S7.1 ga0 rfl P15 (vy_no (by omega) (by omega) (by omega) (by omega) (fun h9 hh9 => by omega) (fun j9 hj9 => by omega))
          refine lv_iload_n hx hb dX12_readSees_47 rfl (lv_at hl 0 rfl) ?_
          refine lv_if_lt (tgt := 55) hx hb dX12_readSees_48 (by decide) (fun c16 => ?_) (fun c16 => ?_)
          · have b16 : v7.toInt < (0 : Int32).toInt := i_lt.mp c16
            exact absurd b16 (by omega)
          · have b16 : ¬ v7.toInt < (0 : Int32).toInt := fun z9 => c16 (i_lt.mpr z9)
            refine lv_iconst (v := 1) hx hb dX12_readSees_51 (by decide) ?_
            refine lv_goto (tgt := 56) hx hb dX12_readSees_52 (by decide) ?_
            exact retE_z hQ C S15 hr dX12_readSees_56 (z01 (by omega) (by omega)) (⟨by omega, RRP.ok (s1 := sg) (by simp [seeF, y2, y7]) (by omega) rb15 (mv15) (PV.seeF9 pv0)⟩)
      · skip
        refine lv_istore_n (lv' := [(2, .int v7), (1, .int v2), (0, .ref a0)]) hx hb dX12_readSees_26 rfl hl (by decide) rfl (fun ls hl => ?_)
        refine lv_iload_n hx hb dX12_readSees_27 rfl (lv_at hl 0 rfl) ?_
        refine lv_if_lt (tgt := 47) hx hb dX12_readSees_28 (by decide) (fun c17 => ?_) (fun c17 => ?_)
        · have b17 : v7.toInt < (0 : Int32).toInt := i_lt.mp c17
          refine lv_iload_n hx hb dX12_readSees_47 rfl (lv_at hl 0 rfl) ?_
          refine lv_if_lt (tgt := 55) hx hb dX12_readSees_48 (by decide) (fun c18 => ?_) (fun c18 => ?_)
          · have b18 : v7.toInt < (0 : Int32).toInt := i_lt.mp c18
            refine lv_iconst (v := 0) hx hb dX12_readSees_55 (by decide) ?_
            exact retE_z hQ C S7 hr dX12_readSees_56 (z01 (by omega) (by omega)) (⟨by omega, RRP.no (s1 := sg) (by simp [seeF, y2, y7]) (by omega) wr7⟩)
          · have b18 : ¬ v7.toInt < (0 : Int32).toInt := fun z9 => c18 (i_lt.mpr z9)
            exact absurd b18 (by omega)
        · have b17 : ¬ v7.toInt < (0 : Int32).toInt := fun z9 => c17 (i_lt.mpr z9)
          exact absurd b17 (by omega)
    · have b3 : ¬ (0 : Int32).toInt ≤ v2.toInt := fun z9 => c3 (i_le.mpr z9)
      exact absurd b3 (by omega)
  · skip
    refine lv_istore_n (lv' := [(1, .int v2), (0, .ref a0)]) hx hb dX12_readSees_6 rfl hl (by decide) rfl (fun ls hl => ?_)
    refine lv_iload_n hx hb dX12_readSees_7 rfl (lv_at hl 0 rfl) ?_
    refine lv_if_ge (tgt := 15) hx hb dX12_readSees_8 (by decide) (fun c19 => ?_) (fun c19 => ?_)
    · have b19 : (0 : Int32).toInt ≤ v2.toInt := i_le.mp c19
      exact absurd b19 (by omega)
    · have b19 : ¬ (0 : Int32).toInt ≤ v2.toInt := fun z9 => c19 (i_le.mpr z9)
      refine lv_iconst (v := -1) hx hb dX12_readSees_11 (by decide) ?_
      refine lv_goto (tgt := 26) hx hb dX12_readSees_12 (by decide) ?_
      refine lv_istore_n (lv' := [(2, .int (-1 : Int32)), (1, .int v2), (0, .ref a0)]) hx hb dX12_readSees_26 rfl hl (by decide) rfl (fun ls hl => ?_)
      refine lv_iload_n hx hb dX12_readSees_27 rfl (lv_at hl 0 rfl) ?_
      have k_m1 : (-1 : Int32).toInt = -1 := by decide
      refine lv_if_lt (tgt := 47) hx hb dX12_readSees_28 (by decide) (fun c20 => ?_) (fun c20 => ?_)
      · have b20 : (-1 : Int32).toInt < (0 : Int32).toInt := i_lt.mp c20
        refine lv_iload_n hx hb dX12_readSees_47 rfl (lv_at hl 0 rfl) ?_
        refine lv_if_lt (tgt := 55) hx hb dX12_readSees_48 (by decide) (fun c21 => ?_) (fun c21 => ?_)
        · have b21 : (-1 : Int32).toInt < (0 : Int32).toInt := i_lt.mp c21
          refine lv_iconst (v := 0) hx hb dX12_readSees_55 (by decide) ?_
          exact retE_z hQ C S2 hr dX12_readSees_56 (z01 (by omega) (by omega)) (⟨by omega, RRP.no (s1 := sg) (by simp [seeF, y2]) (by omega) wr2⟩)
        · have b21 : ¬ (-1 : Int32).toInt < (0 : Int32).toInt := fun z9 => c21 (i_lt.mpr z9)
          exact absurd b21 (by omega)
      · have b20 : ¬ (-1 : Int32).toInt < (0 : Int32).toInt := fun z9 => c20 (i_lt.mpr z9)
        exact absurd b20 (by omega)

set_option maxRecDepth 100000 in
set_option maxHeartbeats 4000000 in
theorem c_X12_readHearth_f (l : Launch) (D : DD) (G : Nat → Nat) (a0 : Nat) (sg : Sg) (T : Tx) (b : Nat) (ga0 : G a0 = 30) (hw0 : isW T b w_hearth = true) : CE l D G yX12_readHearth cX12_readHearth 7 (some .boolean) 6 [.ref a0] (fun H => (True) ∧ (LB D H a0 T b ∧ MV D H a0 sg ∧ PV sg)) [(30, 10), (30, 12), (31, 0), (31, 1)] (xI (fun H r H1 => (0 ≤ r.toInt ∧ r.toInt ≤ 1) ∧ (RRP D H1 a0 T (heaF T sg b) r))) := by
  refine enter (by decide) (Nat.le_of_ble_eq_true rfl) ?_
  intro p e s m args below meth c ls Q hA hQ C hr hO hpre hl
  have hx := C.1
  have hb := C.2.1
  have S : Sd D G [(30, 10), (30, 12), (31, 0), (31, 1)] s.heap s.heap [] := Sd.start hO
  have hl : lv_has ls 7 [(0, .ref a0)] := hl
  obtain ⟨hpre, hf⟩ := hpre
  obtain ⟨ts0, mv0, pv0⟩ := hf
  have hT : T.2 ≤ 400 := ts0.le hO ga0
  have hs9 := mv_1 mv0
  refine lv_aload_n hx hb dX12_readHearth_0 rfl (lv_at hl 0 rfl) ?_
  refine callV_Pi C S.1 S.2.1.2.1 (c_X12_hearths_v l D G a0 ga0) kV_X12_67 ga0 (trivial) dX12_readHearth_1 hl.1 rfl rfl (by decide) cd_X12_hearths ⟨Nat.le_of_ble_eq_true rfl, Nat.le_of_ble_eq_true rfl, Nat.le_of_ble_eq_true rfl, Nat.le_of_ble_eq_true rfl, Nat.le_of_ble_eq_true rfl⟩ (fun v1 q1 => ?_)
  refine lv_istore_n (lv' := [(1, .int v1), (0, .ref a0)]) hx hb dX12_readHearth_4 rfl hl (by decide) rfl (fun ls hl => ?_)
  refine lv_iload_n hx hb dX12_readHearth_5 rfl (lv_at hl 0 rfl) ?_
  refine lv_bipush (v := 12) hx hb dX12_readHearth_6 (by decide) ?_
  have k_12 : (12 : Int32).toInt = 12 := by decide
  refine lv_icmp_ne (tgt := 13) hx hb dX12_readHearth_8 (by decide) (fun c2 => ?_) (fun c2 => ?_)
  · have b2 : ¬ v1.toInt = (12 : Int32).toInt := fun z9 => c2 (i_eq.mpr z9)
    have hc3 : ¬ sg 1 = 12 := by omega
    refine lv_aload_n hx hb dX12_readHearth_13 rfl (lv_at hl 1 rfl) ?_
    have rb4 := ts0.rb1 (isW_k hw0)
    refine callV_Ei C S (c_X12_kindTold_f l D G a0 T (nx T b) ga0) kV_X12_133 ga0 (⟨trivial, rb4⟩) (by decide +kernel) dX12_readHearth_14 hl.1 rfl rfl (by decide) cd_X12_kindTold ⟨Nat.le_of_ble_eq_true rfl, Nat.le_of_ble_eq_true rfl, Nat.le_of_ble_eq_true rfl, Nat.le_of_ble_eq_true rfl, Nat.le_of_ble_eq_true rfl⟩ (fun v5 H5 L5 S5 K5 q5 => ?_)
    obtain ⟨q5, fq5⟩ := q5
    have mv5 := mv0.keep S.1 ga0 K5 (by decide +kernel) (by decide +kernel)
    have z5 := fq5.1
    refine lv_istore_n (lv' := [(2, .int v5), (1, .int v1), (0, .ref a0)]) hx hb dX12_readHearth_17 rfl hl (by decide) rfl (fun ls hl => ?_)
    refine lv_iload_n hx hb dX12_readHearth_18 rfl (lv_at hl 0 rfl) ?_
    have k_0 : (0 : Int32).toInt = 0 := by decide
    refine lv_if_ge (tgt := 26) hx hb dX12_readHearth_19 (by decide) (fun c6 => ?_) (fun c6 => ?_)
    · have b6 : (0 : Int32).toInt ≤ v5.toInt := i_le.mp c6
      have hk7 : ¬ kin T (nx T b) = -1 := by omega
      have rbk := fq5.2.rb1 (kin_k hk7)
      refine lv_aload_n hx hb dX12_readHearth_26 rfl (lv_at hl 2 rfl) ?_
      refine q_lds C ks_X12_136 dX12_readHearth_27 (fun a8 ha8 wa8 => ?_)
      refine lv_iconst (v := 0) hx hb dX12_readHearth_29 (by decide) ?_
      refine lv_aload_n hx hb dX12_readHearth_30 rfl (lv_at hl 2 rfl) ?_
      refine callV_Pi C S5.1 S5.2.1.2.1 (c_X12_houses_v l D G a0 ga0) kV_X12_59 ga0 (trivial) dX12_readHearth_31 hl.1 rfl rfl (by decide) cd_X12_houses ⟨Nat.le_of_ble_eq_true rfl, Nat.le_of_ble_eq_true rfl, Nat.le_of_ble_eq_true rfl, Nat.le_of_ble_eq_true rfl, Nat.le_of_ble_eq_true rfl⟩ (fun v9 q9 => ?_)
      have hs8 : v9.toInt = sg 0 := q9.2.trans (mv_0 mv5)
      refine lv_iconst (v := 1) hx hb dX12_readHearth_34 (by decide) ?_
      have k_1 : (1 : Int32).toInt = 1 := by decide
      refine lv_isub hx hb dX12_readHearth_35 ?_
      refine lv_topi (fun v10 ev10 => ?_)
      have f11 : v10.toInt = v9.toInt - (1 : Int32).toInt := by rw [ev10]; exact i_sub (by omega) (by omega)
      refine callV_Ei C S5 (c_X12_after_f l D G a0 a8 2 (0 : Int32) v10 w_of 0 (sg 0 - 1) T (nx T (nx T b)) ga0 ha8 (by omega) (Wc.of wa8 kw_of) (by decide) (by omega) (by omega) (by omega)) kV_X12_114 ga0 (⟨trivial, rbk⟩) (by decide +kernel) dX12_readHearth_36 hl.1 rfl rfl (by decide) cd_X12_after ⟨Nat.le_of_ble_eq_true rfl, Nat.le_of_ble_eq_true rfl, Nat.le_of_ble_eq_true rfl, Nat.le_of_ble_eq_true rfl, Nat.le_of_ble_eq_true rfl⟩ (fun v12 H12 L12 S12 K12 q12 => ?_)
      obtain ⟨q12, fq12⟩ := q12
      have mv12 := mv5.keep S5.1 ga0 K12 (by decide +kernel) (by decide +kernel)
      rcases fq12 with ⟨w12, y12, z12, ts12, bg12⟩ | ⟨w12, y12, z12, wr12⟩ | ⟨w12, z12, wr12⟩
      · have u12 : 0 ≤ v12.toInt ∧ v12.toInt ≤ 5 := by have z9 := num_r (T := T) (b := nx T (nx T (nx T b))) (lo := 0) (hi := (sg 0 - 1)) (by decide); omega
        refine lv_istore_n (lv' := [(3, .int v12), (2, .int v5), (1, .int v1), (0, .ref a0)]) hx hb dX12_readHearth_39 rfl hl (by decide) rfl (fun ls hl => ?_)
        refine lv_iload_n hx hb dX12_readHearth_40 rfl (lv_at hl 0 rfl) ?_
        refine lv_if_lt (tgt := 57) hx hb dX12_readHearth_41 (by decide) (fun c13 => ?_) (fun c13 => ?_)
        · have b13 : v12.toInt < (0 : Int32).toInt := i_lt.mp c13
          exact absurd b13 (by omega)
        · have b13 : ¬ v12.toInt < (0 : Int32).toInt := fun z9 => c13 (i_lt.mpr z9)
          refine lv_aload_n hx hb dX12_readHearth_44 rfl (lv_at hl 3 rfl) ?_
          refine lv_iload_n hx hb dX12_readHearth_45 rfl (lv_at hl 0 rfl) ?_
          refine callV_Pi C S12.1 S12.2.1.2.1 (c_X12_hearthsOf_v l D G a0 v12 sg ga0) kV_X12_138 ga0 (mv12) dX12_readHearth_46 hl.1 rfl rfl (by decide) cd_X12_hearthsOf ⟨Nat.le_of_ble_eq_true rfl, Nat.le_of_ble_eq_true rfl, Nat.le_of_ble_eq_true rfl, Nat.le_of_ble_eq_true rfl, Nat.le_of_ble_eq_true rfl⟩ (fun v14 q14 => ?_)
          have hb2 : v14.toInt.toNat = bto sg v12.toInt (sg 1).toNat := by have := q14.2; omega
          refine callS_Pi C S12.1 S12.2.1.2.1 (c_J6_bitCount_0f7a4 l D G v14) kS_X12_142 (trivial) dX12_readHearth_49 hl.1 cd_J6_bitCount_0f7a4 ⟨Nat.le_of_ble_eq_true rfl, Nat.le_of_ble_eq_true rfl, Nat.le_of_ble_eq_true rfl, Nat.le_of_ble_eq_true rfl, Nat.le_of_ble_eq_true rfl⟩ (fun v15 q15 => ?_)
          have hon := q15 (by omega)
          rw [hb2] at hon
          refine lv_bipush (v := 6) hx hb dX12_readHearth_52 (by decide) ?_
          have k_6 : (6 : Int32).toInt = 6 := by decide
          refine lv_icmp_ne (tgt := 59) hx hb dX12_readHearth_54 (by decide) (fun c16 => ?_) (fun c16 => ?_)
          · have b16 : ¬ v15.toInt = (6 : Int32).toInt := fun z9 => c16 (i_eq.mpr z9)
            have hb17 : ¬ 6 ≤ ones (bto sg (num T (nx T (nx T (nx T b))) 0 (sg 0 - 1)) (sg 1).toNat) := by rw [← z12]; have z9 := pv0.2.2.1 v12.toInt; omega
            refine lv_aload_n hx hb dX12_readHearth_59 rfl (lv_at hl 3 rfl) ?_
            refine q_lds C ks_X12_147 dX12_readHearth_60 (fun a18 ha18 wa18 => ?_)
            refine lv_iconst (v := 0) hx hb dX12_readHearth_62 (by decide) ?_
            refine lv_bipush (v := 9) hx hb dX12_readHearth_63 (by decide) ?_
            have k_9 : (9 : Int32).toInt = 9 := by decide
            refine callV_Ei C S12 (c_X12_after_f l D G a0 a18 4 (0 : Int32) (9 : Int32) w_flue 0 9 T (nx T (nx T (nx T (nx T b)))) ga0 ha18 (by omega) (Wc.of wa18 kw_flue) (by decide) (by omega) (by omega) (by omega)) kV_X12_114 ga0 (⟨trivial, ts12⟩) (by decide +kernel) dX12_readHearth_65 hl.1 rfl rfl (by decide) cd_X12_after ⟨Nat.le_of_ble_eq_true rfl, Nat.le_of_ble_eq_true rfl, Nat.le_of_ble_eq_true rfl, Nat.le_of_ble_eq_true rfl, Nat.le_of_ble_eq_true rfl⟩ (fun v19 H19 L19 S19 K19 q19 => ?_)
            obtain ⟨q19, fq19⟩ := q19
            have mv19 := mv12.keep S12.1 ga0 K19 (by decide +kernel) (by decide +kernel)
            rcases fq19 with ⟨w19, y19, z19, ts19, bg19⟩ | ⟨w19, y19, z19, wr19⟩ | ⟨w19, z19, wr19⟩
            · have u19 : 0 ≤ v19.toInt ∧ v19.toInt ≤ 9 := by have z9 := num_r (T := T) (b := nx T (nx T (nx T (nx T (nx T b))))) (lo := 0) (hi := 9) (by decide); omega
              refine lv_istore (lv' := [(4, .int v19), (3, .int v12), (2, .int v5), (1, .int v1), (0, .ref a0)]) hx hb dX12_readHearth_68 hl (by decide) rfl (fun ls hl => ?_)
              refine lv_iload hx hb dX12_readHearth_70 (lv_at hl 0 rfl) ?_
              refine lv_if_ge (tgt := 79) hx hb dX12_readHearth_72 (by decide) (fun c20 => ?_) (fun c20 => ?_)
              · have b20 : (0 : Int32).toInt ≤ v19.toInt := i_le.mp c20
                refine lv_aload_n hx hb dX12_readHearth_79 rfl (lv_at hl 4 rfl) ?_
                refine q_lds C ks_X12_149 dX12_readHearth_80 (fun a21 ha21 wa21 => ?_)
                refine lv_iconst (v := 1) hx hb dX12_readHearth_82 (by decide) ?_
                refine lv_bipush (v := 9) hx hb dX12_readHearth_83 (by decide) ?_
                refine callV_Ei C S19 (c_X12_after_f l D G a0 a21 4 (1 : Int32) (9 : Int32) w_warm 1 9 T (nx T (nx T (nx T (nx T (nx T (nx T b)))))) ga0 ha21 (by omega) (Wc.of wa21 kw_warm) (by decide) (by omega) (by omega) (by omega)) kV_X12_114 ga0 (⟨trivial, ts19⟩) (by decide +kernel) dX12_readHearth_85 hl.1 rfl rfl (by decide) cd_X12_after ⟨Nat.le_of_ble_eq_true rfl, Nat.le_of_ble_eq_true rfl, Nat.le_of_ble_eq_true rfl, Nat.le_of_ble_eq_true rfl, Nat.le_of_ble_eq_true rfl⟩ (fun v22 H22 L22 S22 K22 q22 => ?_)
                obtain ⟨q22, fq22⟩ := q22
                have mv22 := mv19.keep S19.1 ga0 K22 (by decide +kernel) (by decide +kernel)
                rcases fq22 with ⟨w22, y22, z22, ts22, bg22⟩ | ⟨w22, y22, z22, wr22⟩ | ⟨w22, z22, wr22⟩
                · have u22 : 1 ≤ v22.toInt ∧ v22.toInt ≤ 9 := by have z9 := num_r (T := T) (b := nx T (nx T (nx T (nx T (nx T (nx T (nx T b))))))) (lo := 1) (hi := 9) (by decide); omega
                  refine lv_istore (lv' := [(5, .int v22), (4, .int v19), (3, .int v12), (2, .int v5), (1, .int v1), (0, .ref a0)]) hx hb dX12_readHearth_88 hl (by decide) rfl (fun ls hl => ?_)
                  refine lv_iload hx hb dX12_readHearth_90 (lv_at hl 0 rfl) ?_
                  refine lv_if_ge (tgt := 99) hx hb dX12_readHearth_92 (by decide) (fun c23 => ?_) (fun c23 => ?_)
                  · have b23 : (0 : Int32).toInt ≤ v22.toInt := i_le.mp c23
                    refine lv_aload_n hx hb dX12_readHearth_99 rfl (lv_at hl 5 rfl) ?_
                    refine q_lds C ks_X12_151 dX12_readHearth_100 (fun a24 ha24 wa24 => ?_)
                    refine lv_iconst (v := 1) hx hb dX12_readHearth_102 (by decide) ?_
                    refine lv_bipush (v := 30) hx hb dX12_readHearth_103 (by decide) ?_
                    have k_30 : (30 : Int32).toInt = 30 := by decide
                    refine callV_Ei C S22 (c_X12_after_f l D G a0 a24 4 (1 : Int32) (30 : Int32) w_wall 1 30 T (nx T (nx T (nx T (nx T (nx T (nx T (nx T (nx T b)))))))) ga0 ha24 (by omega) (Wc.of wa24 kw_wall) (by decide) (by omega) (by omega) (by omega)) kV_X12_114 ga0 (⟨trivial, ts22⟩) (by decide +kernel) dX12_readHearth_105 hl.1 rfl rfl (by decide) cd_X12_after ⟨Nat.le_of_ble_eq_true rfl, Nat.le_of_ble_eq_true rfl, Nat.le_of_ble_eq_true rfl, Nat.le_of_ble_eq_true rfl, Nat.le_of_ble_eq_true rfl⟩ (fun v25 H25 L25 S25 K25 q25 => ?_)
                    obtain ⟨q25, fq25⟩ := q25
                    have mv25 := mv22.keep S22.1 ga0 K25 (by decide +kernel) (by decide +kernel)
                    rcases fq25 with ⟨w25, y25, z25, ts25, bg25⟩ | ⟨w25, y25, z25, wr25⟩ | ⟨w25, z25, wr25⟩
                    · have u25 : 1 ≤ v25.toInt ∧ v25.toInt ≤ 30 := by have z9 := num_r (T := T) (b := nx T (nx T (nx T (nx T (nx T (nx T (nx T (nx T (nx T b))))))))) (lo := 1) (hi := 30) (by decide); omega
                      refine lv_istore (lv' := [(6, .int v25), (5, .int v22), (4, .int v19), (3, .int v12), (2, .int v5), (1, .int v1), (0, .ref a0)]) hx hb dX12_readHearth_108 hl (by decide) rfl (fun ls hl => ?_)
                      refine lv_iload hx hb dX12_readHearth_110 (lv_at hl 0 rfl) ?_
                      refine lv_if_ge (tgt := 117) hx hb dX12_readHearth_112 (by decide) (fun c26 => ?_) (fun c26 => ?_)
                      · have b26 : (0 : Int32).toInt ≤ v25.toInt := i_le.mp c26
                        refine lv_aload_n hx hb dX12_readHearth_117 rfl (lv_at hl 6 rfl) ?_
                        refine q_gr (T := TX12) C S25.1 ga0 1 kF_X12_13 dX12_readHearth_118 rfl rfl (by decide) rfl (by decide) rfl (fun g27 => ?_)
                        refine lv_iload_n hx hb dX12_readHearth_121 rfl (lv_at hl 5 rfl) ?_
                        refine lv_iconst (v := 0) hx hb dX12_readHearth_122 (by decide) ?_
                        refine callS_Pi C S25.1 S25.2.1.2.1 (c_X12_hearthAt l D G v1 (0 : Int32) (by omega) (by omega)) kS_X12_53 (trivial) dX12_readHearth_123 hl.1 cd_X12_hearthAt ⟨Nat.le_of_ble_eq_true rfl, Nat.le_of_ble_eq_true rfl, Nat.le_of_ble_eq_true rfl, Nat.le_of_ble_eq_true rfl, Nat.le_of_ble_eq_true rfl⟩ (fun v28 q28 => ?_)
                        refine lv_iload_n hx hb dX12_readHearth_126 rfl (lv_at hl 3 rfl) ?_
                        have n29 : aN H25 (fR D H25 11 a0 1) = 2052 := len_31 S25.1 g27
                        refine q_iast C S25 g27 (by omega) (by omega) dX12_readHearth_127 rfl (by decide) (by decide +kernel) (fun _ _ h => wk_low _ _ (by omega) (fun h9 => by omega) (fun h9 => by omega) (fun h9 => by omega) (fun j hj h9 => by omega) h) (fun H30 L30 S30 P30 => ?_) (hs := fun _ => Or.inl (by decide +kernel))
                        have rb30 := ts25.cells S25.1 ga0 g27 (by decide) (by decide) P30.2.2.1
                        have bg30 : (fI D H30 11 a0 12).toInt = (((nx T (nx T (nx T (nx T (nx T (nx T (nx T (nx T (nx T b))))))))) : Nat) : Int) := by rw [Pa.f P30 (ne_role ga0 g27 (by decide))]; exact bg25
                        have mv30 := MV.ast mv25 S25.1 ga0 rfl P30 (k := 3 + (sg 1).toNat) (by omega) (by rw [vy_h (by omega)]; omega)
                        refine lv_aload_n hx hb dX12_readHearth_128 rfl (lv_at hl 6 rfl) ?_
                        refine q_gr (T := TX12) C S30.1 ga0 1 kF_X12_13 dX12_readHearth_129 rfl rfl (by decide) rfl (by decide) rfl (fun g31 => ?_)
                        refine lv_iload_n hx hb dX12_readHearth_132 rfl (lv_at hl 5 rfl) ?_
                        refine lv_iconst (v := 1) hx hb dX12_readHearth_133 (by decide) ?_
                        refine callS_Pi C S30.1 S30.2.1.2.1 (c_X12_hearthAt l D G v1 (1 : Int32) (by omega) (by omega)) kS_X12_53 (trivial) dX12_readHearth_134 hl.1 cd_X12_hearthAt ⟨Nat.le_of_ble_eq_true rfl, Nat.le_of_ble_eq_true rfl, Nat.le_of_ble_eq_true rfl, Nat.le_of_ble_eq_true rfl, Nat.le_of_ble_eq_true rfl⟩ (fun v32 q32 => ?_)
                        refine lv_iload_n hx hb dX12_readHearth_137 rfl (lv_at hl 4 rfl) ?_
                        have n33 : aN H30 (fR D H30 11 a0 1) = 2052 := len_31 S30.1 g31
                        refine q_iast C S30 g31 (by omega) (by omega) dX12_readHearth_138 rfl (by decide) (by decide +kernel) (fun _ _ h => wk_low _ _ (by omega) (fun h9 => by omega) (fun h9 => by omega) (fun h9 => by omega) (fun j hj h9 => by omega) h) (fun H34 L34 S34 P34 => ?_) (hs := fun _ => Or.inl (by decide +kernel))
                        have rb34 := rb30.cells S30.1 ga0 g31 (by decide) (by decide) P34.2.2.1
                        have bg34 : (fI D H34 11 a0 12).toInt = (((nx T (nx T (nx T (nx T (nx T (nx T (nx T (nx T (nx T b))))))))) : Nat) : Int) := by rw [Pa.f P34 (ne_role ga0 g31 (by decide))]; exact bg30
                        have mv34 := mv30.asto S30.1 ga0 rfl P34 (vy_no (by omega) (by omega) (by omega) (by omega) (fun h9 hh9 => by omega) (fun j9 hj9 => by omega))
                        refine lv_aload_n hx hb dX12_readHearth_139 rfl (lv_at hl 6 rfl) ?_
                        refine q_gr (T := TX12) C S34.1 ga0 1 kF_X12_13 dX12_readHearth_140 rfl rfl (by decide) rfl (by decide) rfl (fun g35 => ?_)
                        refine lv_iload_n hx hb dX12_readHearth_143 rfl (lv_at hl 5 rfl) ?_
                        refine lv_iconst (v := 2) hx hb dX12_readHearth_144 (by decide) ?_
                        have k_2 : (2 : Int32).toInt = 2 := by decide
                        refine callS_Pi C S34.1 S34.2.1.2.1 (c_X12_hearthAt l D G v1 (2 : Int32) (by omega) (by omega)) kS_X12_53 (trivial) dX12_readHearth_145 hl.1 cd_X12_hearthAt ⟨Nat.le_of_ble_eq_true rfl, Nat.le_of_ble_eq_true rfl, Nat.le_of_ble_eq_true rfl, Nat.le_of_ble_eq_true rfl, Nat.le_of_ble_eq_true rfl⟩ (fun v36 q36 => ?_)
                        refine lv_iload hx hb dX12_readHearth_148 (lv_at hl 2 rfl) ?_
                        have n37 : aN H34 (fR D H34 11 a0 1) = 2052 := len_31 S34.1 g35
                        refine q_iast C S34 g35 (by omega) (by omega) dX12_readHearth_150 rfl (by decide) (by decide +kernel) (fun _ _ h => wk_low _ _ (by omega) (fun h9 => by omega) (fun h9 => by omega) (fun h9 => by omega) (fun j hj h9 => by omega) h) (fun H38 L38 S38 P38 => ?_) (hs := fun _ => Or.inl (by decide +kernel))
                        have rb38 := rb34.cells S34.1 ga0 g35 (by decide) (by decide) P38.2.2.1
                        have bg38 : (fI D H38 11 a0 12).toInt = (((nx T (nx T (nx T (nx T (nx T (nx T (nx T (nx T (nx T b))))))))) : Nat) : Int) := by rw [Pa.f P38 (ne_role ga0 g35 (by decide))]; exact bg34
                        have mv38 := mv34.asto S34.1 ga0 rfl P38 (vy_no (by omega) (by omega) (by omega) (by omega) (fun h9 hh9 => by omega) (fun j9 hj9 => by omega))
                        refine lv_aload_n hx hb dX12_readHearth_151 rfl (lv_at hl 6 rfl) ?_
                        refine q_gr (T := TX12) C S38.1 ga0 1 kF_X12_13 dX12_readHearth_152 rfl rfl (by decide) rfl (by decide) rfl (fun g39 => ?_)
                        refine lv_iload_n hx hb dX12_readHearth_155 rfl (lv_at hl 5 rfl) ?_
                        refine lv_iconst (v := 3) hx hb dX12_readHearth_156 (by decide) ?_
                        have k_3 : (3 : Int32).toInt = 3 := by decide
                        refine callS_Pi C S38.1 S38.2.1.2.1 (c_X12_hearthAt l D G v1 (3 : Int32) (by omega) (by omega)) kS_X12_53 (trivial) dX12_readHearth_157 hl.1 cd_X12_hearthAt ⟨Nat.le_of_ble_eq_true rfl, Nat.le_of_ble_eq_true rfl, Nat.le_of_ble_eq_true rfl, Nat.le_of_ble_eq_true rfl, Nat.le_of_ble_eq_true rfl⟩ (fun v40 q40 => ?_)
                        refine lv_iload hx hb dX12_readHearth_160 (lv_at hl 1 rfl) ?_
                        have n41 : aN H38 (fR D H38 11 a0 1) = 2052 := len_31 S38.1 g39
                        refine q_iast C S38 g39 (by omega) (by omega) dX12_readHearth_162 rfl (by decide) (by decide +kernel) (fun _ _ h => wk_low _ _ (by omega) (fun h9 => by omega) (fun h9 => by omega) (fun h9 => by omega) (fun j hj h9 => by omega) h) (fun H42 L42 S42 P42 => ?_) (hs := fun _ => Or.inl (by decide +kernel))
                        have rb42 := rb38.cells S38.1 ga0 g39 (by decide) (by decide) P42.2.2.1
                        have bg42 : (fI D H42 11 a0 12).toInt = (((nx T (nx T (nx T (nx T (nx T (nx T (nx T (nx T (nx T b))))))))) : Nat) : Int) := by rw [Pa.f P42 (ne_role ga0 g39 (by decide))]; exact bg38
                        have mv42 := mv38.asto S38.1 ga0 rfl P42 (vy_no (by omega) (by omega) (by omega) (by omega) (fun h9 hh9 => by omega) (fun j9 hj9 => by omega))
                        refine lv_aload_n hx hb dX12_readHearth_163 rfl (lv_at hl 6 rfl) ?_
                        refine q_gr (T := TX12) C S42.1 ga0 1 kF_X12_13 dX12_readHearth_164 rfl rfl (by decide) rfl (by decide) rfl (fun g43 => ?_)
                        refine lv_iload_n hx hb dX12_readHearth_167 rfl (lv_at hl 5 rfl) ?_
                        refine lv_iconst (v := 4) hx hb dX12_readHearth_168 (by decide) ?_
                        have k_4 : (4 : Int32).toInt = 4 := by decide
                        refine callS_Pi C S42.1 S42.2.1.2.1 (c_X12_hearthAt l D G v1 (4 : Int32) (by omega) (by omega)) kS_X12_53 (trivial) dX12_readHearth_169 hl.1 cd_X12_hearthAt ⟨Nat.le_of_ble_eq_true rfl, Nat.le_of_ble_eq_true rfl, Nat.le_of_ble_eq_true rfl, Nat.le_of_ble_eq_true rfl, Nat.le_of_ble_eq_true rfl⟩ (fun v44 q44 => ?_)
                        refine lv_iload hx hb dX12_readHearth_172 (lv_at hl 0 rfl) ?_
                        have n45 : aN H42 (fR D H42 11 a0 1) = 2052 := len_31 S42.1 g43
                        refine q_iast C S42 g43 (by omega) (by omega) dX12_readHearth_174 rfl (by decide) (by decide +kernel) (fun _ _ h => wk_low _ _ (by omega) (fun h9 => by omega) (fun h9 => by omega) (fun h9 => by omega) (fun j hj h9 => by omega) h) (fun H46 L46 S46 P46 => ?_) (hs := fun _ => Or.inl (by decide +kernel))
                        have rb46 := rb42.cells S42.1 ga0 g43 (by decide) (by decide) P46.2.2.1
                        have bg46 : (fI D H46 11 a0 12).toInt = (((nx T (nx T (nx T (nx T (nx T (nx T (nx T (nx T (nx T b))))))))) : Nat) : Int) := by rw [Pa.f P46 (ne_role ga0 g43 (by decide))]; exact bg42
                        have mv46 := mv42.asto S42.1 ga0 rfl P46 (vy_no (by omega) (by omega) (by omega) (by omega) (fun h9 hh9 => by omega) (fun j9 hj9 => by omega))
                        refine lv_aload_n hx hb dX12_readHearth_175 rfl (lv_at hl 6 rfl) ?_
                        refine q_gr (T := TX12) C S46.1 ga0 1 kF_X12_13 dX12_readHearth_176 rfl rfl (by decide) rfl (by decide) rfl (fun g47 => ?_)
                        refine lv_iload_n hx hb dX12_readHearth_179 rfl (lv_at hl 5 rfl) ?_
                        refine lv_iconst (v := 5) hx hb dX12_readHearth_180 (by decide) ?_
                        have k_5 : (5 : Int32).toInt = 5 := by decide
                        refine callS_Pi C S46.1 S46.2.1.2.1 (c_X12_hearthAt l D G v1 (5 : Int32) (by omega) (by omega)) kS_X12_53 (trivial) dX12_readHearth_181 hl.1 cd_X12_hearthAt ⟨Nat.le_of_ble_eq_true rfl, Nat.le_of_ble_eq_true rfl, Nat.le_of_ble_eq_true rfl, Nat.le_of_ble_eq_true rfl, Nat.le_of_ble_eq_true rfl⟩ (fun v48 q48 => ?_)
                        refine lv_iconst (v := 0) hx hb dX12_readHearth_184 (by decide) ?_
                        have n49 : aN H46 (fR D H46 11 a0 1) = 2052 := len_31 S46.1 g47
                        refine q_iast C S46 g47 (by omega) (by omega) dX12_readHearth_185 rfl (by decide) (by decide +kernel) (fun _ _ h => wk_low _ _ (by omega) (fun h9 => by omega) (fun h9 => by omega) (fun h9 => by omega) (fun j hj h9 => by omega) h) (fun H50 L50 S50 P50 => ?_) (hs := fun _ => Or.inl (by decide +kernel))
                        have rb50 := rb46.cells S46.1 ga0 g47 (by decide) (by decide) P50.2.2.1
                        have bg50 : (fI D H50 11 a0 12).toInt = (((nx T (nx T (nx T (nx T (nx T (nx T (nx T (nx T (nx T b))))))))) : Nat) : Int) := by rw [Pa.f P50 (ne_role ga0 g47 (by decide))]; exact bg46
                        have mv50 := mv46.asto S46.1 ga0 rfl P50 (vy_no (by omega) (by omega) (by omega) (by omega) (fun h9 hh9 => by omega) (fun j9 hj9 => by omega))
                        refine lv_aload_n hx hb dX12_readHearth_186 rfl (lv_at hl 6 rfl) ?_
                        refine q_gr (T := TX12) C S50.1 ga0 1 kF_X12_13 dX12_readHearth_187 rfl rfl (by decide) rfl (by decide) rfl (fun g51 => ?_)
                        refine lv_iconst (v := 1) hx hb dX12_readHearth_190 (by decide) ?_
                        refine lv_dup2_11 hx hb dX12_readHearth_191 rfl rfl ?_
                        have mc9 : (eI H50 (fR D H50 11 a0 1) 1).toInt = sg 1 := (mv_1 mv50).trans (sup_o _ _ (by omega))
                        have n52 : aN H50 (fR D H50 11 a0 1) = 2052 := len_31 S50.1 g51
                        refine q_iald C S50.1 g51 (by omega) (by omega) dX12_readHearth_192 rfl (by decide) ?_
                        refine lv_topi (fun v53 ev53 => ?_)
                        have wv53 : v53.toInt = (eI H50 (fR D H50 11 a0 1) 1).toInt := by rw [ev53]; rfl
                        refine lv_iconst (v := 1) hx hb dX12_readHearth_193 (by decide) ?_
                        refine lv_iadd hx hb dX12_readHearth_194 ?_
                        refine lv_topi (fun v54 ev54 => ?_)
                        have f55 : v54.toInt = v53.toInt + (1 : Int32).toInt := by rw [ev54]; exact i_add (by omega) (by omega)
                        refine q_iast C S50 g51 (by omega) (by omega) dX12_readHearth_195 rfl (by decide) (by decide +kernel) (fun _ _ h => wk_low _ _ (by omega) (fun h9 => by omega) (fun h9 => by omega) (fun h9 => by omega) (fun j hj h9 => by omega) h) (fun H56 L56 S56 P56 => ?_) (hs := fun _ => Or.inl (by decide +kernel))
                        have rb56 := rb50.cells S50.1 ga0 g51 (by decide) (by decide) P56.2.2.1
                        have bg56 : (fI D H56 11 a0 12).toInt = (((nx T (nx T (nx T (nx T (nx T (nx T (nx T (nx T (nx T b))))))))) : Nat) : Int) := by rw [Pa.f P56 (ne_role ga0 g51 (by decide))]; exact bg50
                        have mv56 := MV.ast mv50 S50.1 ga0 rfl P56 (k := 1) (by decide) (by first | rfl | (show _ = 1; omega))
                        refine lv_iconst (v := 1) hx hb dX12_readHearth_196 (by decide) ?_
                        exact retE_z hQ C S56 hr dX12_readHearth_197 (z01 (by omega) (by omega)) (⟨by omega, RRP.ok (s1 := (fup sg (num T (nx T (nx T (nx T b))) 0 (sg 0 - 1)))) (by simp [heaF, heaO, hea1, hea2, hea3, hc3, hk7, w12, y12, hb17, w19, y19, w22, y22, w25, y25]) (by omega) rb56 (by have z9 := mv56; rw [show v12.toInt = num T (nx T (nx T (nx T b))) 0 (sg 0 - 1) by omega, show v54.toInt = sg 1 + 1 by omega] at z9; exact z9) (PV.heaF9 pv0)⟩)
                      · have b26 : ¬ (0 : Int32).toInt ≤ v25.toInt := fun z9 => c26 (i_le.mpr z9)
                        exact absurd b26 (by omega)
                    · skip
                      refine lv_istore (lv' := [(6, .int v25), (5, .int v22), (4, .int v19), (3, .int v12), (2, .int v5), (1, .int v1), (0, .ref a0)]) hx hb dX12_readHearth_108 hl (by decide) rfl (fun ls hl => ?_)
                      refine lv_iload hx hb dX12_readHearth_110 (lv_at hl 0 rfl) ?_
                      refine lv_if_ge (tgt := 117) hx hb dX12_readHearth_112 (by decide) (fun c57 => ?_) (fun c57 => ?_)
                      · have b57 : (0 : Int32).toInt ≤ v25.toInt := i_le.mp c57
                        exact absurd b57 (by omega)
                      · have b57 : ¬ (0 : Int32).toInt ≤ v25.toInt := fun z9 => c57 (i_le.mpr z9)
                        refine lv_iconst (v := 0) hx hb dX12_readHearth_115 (by decide) ?_
                        exact retE_z hQ C S25 hr dX12_readHearth_116 (z01 (by omega) (by omega)) (⟨by omega, RRP.no (s1 := sg) (by simp [heaF, heaO, hea1, hea2, hea3, hc3, hk7, w12, y12, hb17, w19, y19, w22, y22, w25, y25]) (by omega) wr25⟩)
                    · skip
                      refine lv_istore (lv' := [(6, .int v25), (5, .int v22), (4, .int v19), (3, .int v12), (2, .int v5), (1, .int v1), (0, .ref a0)]) hx hb dX12_readHearth_108 hl (by decide) rfl (fun ls hl => ?_)
                      refine lv_iload hx hb dX12_readHearth_110 (lv_at hl 0 rfl) ?_
                      refine lv_if_ge (tgt := 117) hx hb dX12_readHearth_112 (by decide) (fun c58 => ?_) (fun c58 => ?_)
                      · have b58 : (0 : Int32).toInt ≤ v25.toInt := i_le.mp c58
                        exact absurd b58 (by omega)
                      · have b58 : ¬ (0 : Int32).toInt ≤ v25.toInt := fun z9 => c58 (i_le.mpr z9)
                        refine lv_iconst (v := 0) hx hb dX12_readHearth_115 (by decide) ?_
                        exact retE_z hQ C S25 hr dX12_readHearth_116 (z01 (by omega) (by omega)) (⟨by omega, RRP.no (s1 := sg) (by simp [heaF, heaO, hea1, hea2, hea3, hc3, hk7, w12, y12, hb17, w19, y19, w22, y22, w25]) (by omega) wr25⟩)
                  · have b23 : ¬ (0 : Int32).toInt ≤ v22.toInt := fun z9 => c23 (i_le.mpr z9)
                    exact absurd b23 (by omega)
                · skip
                  refine lv_istore (lv' := [(5, .int v22), (4, .int v19), (3, .int v12), (2, .int v5), (1, .int v1), (0, .ref a0)]) hx hb dX12_readHearth_88 hl (by decide) rfl (fun ls hl => ?_)
                  refine lv_iload hx hb dX12_readHearth_90 (lv_at hl 0 rfl) ?_
                  refine lv_if_ge (tgt := 99) hx hb dX12_readHearth_92 (by decide) (fun c59 => ?_) (fun c59 => ?_)
                  · have b59 : (0 : Int32).toInt ≤ v22.toInt := i_le.mp c59
                    exact absurd b59 (by omega)
                  · have b59 : ¬ (0 : Int32).toInt ≤ v22.toInt := fun z9 => c59 (i_le.mpr z9)
                    refine lv_iconst (v := -1) hx hb dX12_readHearth_95 (by decide) ?_
                    refine lv_goto (tgt := 108) hx hb dX12_readHearth_96 (by decide) ?_
                    refine lv_istore (lv' := [(6, .int (-1 : Int32)), (5, .int v22), (4, .int v19), (3, .int v12), (2, .int v5), (1, .int v1), (0, .ref a0)]) hx hb dX12_readHearth_108 hl (by decide) rfl (fun ls hl => ?_)
                    refine lv_iload hx hb dX12_readHearth_110 (lv_at hl 0 rfl) ?_
                    have k_m1 : (-1 : Int32).toInt = -1 := by decide
                    refine lv_if_ge (tgt := 117) hx hb dX12_readHearth_112 (by decide) (fun c60 => ?_) (fun c60 => ?_)
                    · have b60 : (0 : Int32).toInt ≤ (-1 : Int32).toInt := i_le.mp c60
                      exact absurd b60 (by omega)
                    · have b60 : ¬ (0 : Int32).toInt ≤ (-1 : Int32).toInt := fun z9 => c60 (i_le.mpr z9)
                      refine lv_iconst (v := 0) hx hb dX12_readHearth_115 (by decide) ?_
                      exact retE_z hQ C S22 hr dX12_readHearth_116 (z01 (by omega) (by omega)) (⟨by omega, RRP.no (s1 := sg) (by simp [heaF, heaO, hea1, hea2, hea3, hc3, hk7, w12, y12, hb17, w19, y19, w22, y22]) (by omega) wr22⟩)
                · skip
                  refine lv_istore (lv' := [(5, .int v22), (4, .int v19), (3, .int v12), (2, .int v5), (1, .int v1), (0, .ref a0)]) hx hb dX12_readHearth_88 hl (by decide) rfl (fun ls hl => ?_)
                  refine lv_iload hx hb dX12_readHearth_90 (lv_at hl 0 rfl) ?_
                  refine lv_if_ge (tgt := 99) hx hb dX12_readHearth_92 (by decide) (fun c61 => ?_) (fun c61 => ?_)
                  · have b61 : (0 : Int32).toInt ≤ v22.toInt := i_le.mp c61
                    exact absurd b61 (by omega)
                  · have b61 : ¬ (0 : Int32).toInt ≤ v22.toInt := fun z9 => c61 (i_le.mpr z9)
                    refine lv_iconst (v := -1) hx hb dX12_readHearth_95 (by decide) ?_
                    refine lv_goto (tgt := 108) hx hb dX12_readHearth_96 (by decide) ?_
                    refine lv_istore (lv' := [(6, .int (-1 : Int32)), (5, .int v22), (4, .int v19), (3, .int v12), (2, .int v5), (1, .int v1), (0, .ref a0)]) hx hb dX12_readHearth_108 hl (by decide) rfl (fun ls hl => ?_)
                    refine lv_iload hx hb dX12_readHearth_110 (lv_at hl 0 rfl) ?_
                    have k_m1 : (-1 : Int32).toInt = -1 := by decide
                    refine lv_if_ge (tgt := 117) hx hb dX12_readHearth_112 (by decide) (fun c62 => ?_) (fun c62 => ?_)
                    · have b62 : (0 : Int32).toInt ≤ (-1 : Int32).toInt := i_le.mp c62
                      exact absurd b62 (by omega)
                    · have b62 : ¬ (0 : Int32).toInt ≤ (-1 : Int32).toInt := fun z9 => c62 (i_le.mpr z9)
                      refine lv_iconst (v := 0) hx hb dX12_readHearth_115 (by decide) ?_
                      exact retE_z hQ C S22 hr dX12_readHearth_116 (z01 (by omega) (by omega)) (⟨by omega, RRP.no (s1 := sg) (by simp [heaF, heaO, hea1, hea2, hea3, hc3, hk7, w12, y12, hb17, w19, y19, w22]) (by omega) wr22⟩)
              · have b20 : ¬ (0 : Int32).toInt ≤ v19.toInt := fun z9 => c20 (i_le.mpr z9)
                exact absurd b20 (by omega)
            · skip
              refine lv_istore (lv' := [(4, .int v19), (3, .int v12), (2, .int v5), (1, .int v1), (0, .ref a0)]) hx hb dX12_readHearth_68 hl (by decide) rfl (fun ls hl => ?_)
              refine lv_iload hx hb dX12_readHearth_70 (lv_at hl 0 rfl) ?_
              refine lv_if_ge (tgt := 79) hx hb dX12_readHearth_72 (by decide) (fun c63 => ?_) (fun c63 => ?_)
              · have b63 : (0 : Int32).toInt ≤ v19.toInt := i_le.mp c63
                exact absurd b63 (by omega)
              · have b63 : ¬ (0 : Int32).toInt ≤ v19.toInt := fun z9 => c63 (i_le.mpr z9)
                refine lv_iconst (v := -1) hx hb dX12_readHearth_75 (by decide) ?_
                refine lv_goto (tgt := 88) hx hb dX12_readHearth_76 (by decide) ?_
                refine lv_istore (lv' := [(5, .int (-1 : Int32)), (4, .int v19), (3, .int v12), (2, .int v5), (1, .int v1), (0, .ref a0)]) hx hb dX12_readHearth_88 hl (by decide) rfl (fun ls hl => ?_)
                refine lv_iload hx hb dX12_readHearth_90 (lv_at hl 0 rfl) ?_
                have k_m1 : (-1 : Int32).toInt = -1 := by decide
                refine lv_if_ge (tgt := 99) hx hb dX12_readHearth_92 (by decide) (fun c64 => ?_) (fun c64 => ?_)
                · have b64 : (0 : Int32).toInt ≤ (-1 : Int32).toInt := i_le.mp c64
                  exact absurd b64 (by omega)
                · have b64 : ¬ (0 : Int32).toInt ≤ (-1 : Int32).toInt := fun z9 => c64 (i_le.mpr z9)
                  refine lv_iconst (v := -1) hx hb dX12_readHearth_95 (by decide) ?_
                  refine lv_goto (tgt := 108) hx hb dX12_readHearth_96 (by decide) ?_
                  refine lv_istore (lv' := [(6, .int (-1 : Int32)), (5, .int (-1 : Int32)), (4, .int v19), (3, .int v12), (2, .int v5), (1, .int v1), (0, .ref a0)]) hx hb dX12_readHearth_108 hl (by decide) rfl (fun ls hl => ?_)
                  refine lv_iload hx hb dX12_readHearth_110 (lv_at hl 0 rfl) ?_
                  refine lv_if_ge (tgt := 117) hx hb dX12_readHearth_112 (by decide) (fun c65 => ?_) (fun c65 => ?_)
                  · have b65 : (0 : Int32).toInt ≤ (-1 : Int32).toInt := i_le.mp c65
                    exact absurd b65 (by omega)
                  · have b65 : ¬ (0 : Int32).toInt ≤ (-1 : Int32).toInt := fun z9 => c65 (i_le.mpr z9)
                    refine lv_iconst (v := 0) hx hb dX12_readHearth_115 (by decide) ?_
                    exact retE_z hQ C S19 hr dX12_readHearth_116 (z01 (by omega) (by omega)) (⟨by omega, RRP.no (s1 := sg) (by simp [heaF, heaO, hea1, hea2, hea3, hc3, hk7, w12, y12, hb17, w19, y19]) (by omega) wr19⟩)
            · skip
              refine lv_istore (lv' := [(4, .int v19), (3, .int v12), (2, .int v5), (1, .int v1), (0, .ref a0)]) hx hb dX12_readHearth_68 hl (by decide) rfl (fun ls hl => ?_)
              refine lv_iload hx hb dX12_readHearth_70 (lv_at hl 0 rfl) ?_
              refine lv_if_ge (tgt := 79) hx hb dX12_readHearth_72 (by decide) (fun c66 => ?_) (fun c66 => ?_)
              · have b66 : (0 : Int32).toInt ≤ v19.toInt := i_le.mp c66
                exact absurd b66 (by omega)
              · have b66 : ¬ (0 : Int32).toInt ≤ v19.toInt := fun z9 => c66 (i_le.mpr z9)
                refine lv_iconst (v := -1) hx hb dX12_readHearth_75 (by decide) ?_
                refine lv_goto (tgt := 88) hx hb dX12_readHearth_76 (by decide) ?_
                refine lv_istore (lv' := [(5, .int (-1 : Int32)), (4, .int v19), (3, .int v12), (2, .int v5), (1, .int v1), (0, .ref a0)]) hx hb dX12_readHearth_88 hl (by decide) rfl (fun ls hl => ?_)
                refine lv_iload hx hb dX12_readHearth_90 (lv_at hl 0 rfl) ?_
                have k_m1 : (-1 : Int32).toInt = -1 := by decide
                refine lv_if_ge (tgt := 99) hx hb dX12_readHearth_92 (by decide) (fun c67 => ?_) (fun c67 => ?_)
                · have b67 : (0 : Int32).toInt ≤ (-1 : Int32).toInt := i_le.mp c67
                  exact absurd b67 (by omega)
                · have b67 : ¬ (0 : Int32).toInt ≤ (-1 : Int32).toInt := fun z9 => c67 (i_le.mpr z9)
                  refine lv_iconst (v := -1) hx hb dX12_readHearth_95 (by decide) ?_
                  refine lv_goto (tgt := 108) hx hb dX12_readHearth_96 (by decide) ?_
                  refine lv_istore (lv' := [(6, .int (-1 : Int32)), (5, .int (-1 : Int32)), (4, .int v19), (3, .int v12), (2, .int v5), (1, .int v1), (0, .ref a0)]) hx hb dX12_readHearth_108 hl (by decide) rfl (fun ls hl => ?_)
                  refine lv_iload hx hb dX12_readHearth_110 (lv_at hl 0 rfl) ?_
                  refine lv_if_ge (tgt := 117) hx hb dX12_readHearth_112 (by decide) (fun c68 => ?_) (fun c68 => ?_)
                  · have b68 : (0 : Int32).toInt ≤ (-1 : Int32).toInt := i_le.mp c68
                    exact absurd b68 (by omega)
                  · have b68 : ¬ (0 : Int32).toInt ≤ (-1 : Int32).toInt := fun z9 => c68 (i_le.mpr z9)
                    refine lv_iconst (v := 0) hx hb dX12_readHearth_115 (by decide) ?_
                    exact retE_z hQ C S19 hr dX12_readHearth_116 (z01 (by omega) (by omega)) (⟨by omega, RRP.no (s1 := sg) (by simp [heaF, heaO, hea1, hea2, hea3, hc3, hk7, w12, y12, hb17, w19]) (by omega) wr19⟩)
          · have b16 : v15.toInt = (6 : Int32).toInt := i_eq.mp c16
            have hb69 : num T (nx T (nx T (nx T b))) 0 (sg 0 - 1) = -1 ∨ 6 ≤ ones (bto sg (num T (nx T (nx T (nx T b))) 0 (sg 0 - 1)) (sg 1).toNat) := Or.inr (by rw [← z12]; omega)
            refine lv_iconst (v := 0) hx hb dX12_readHearth_57 (by decide) ?_
            exact retE_z hQ C S12 hr dX12_readHearth_58 (z01 (by omega) (by omega)) (⟨by omega, RRP.no (s1 := sg) (by simp [heaF, heaO, hea1, hea2, hea3, hc3, hk7, w12, y12, hb69]) (by omega) bg12⟩)
      · skip
        refine lv_istore_n (lv' := [(3, .int v12), (2, .int v5), (1, .int v1), (0, .ref a0)]) hx hb dX12_readHearth_39 rfl hl (by decide) rfl (fun ls hl => ?_)
        refine lv_iload_n hx hb dX12_readHearth_40 rfl (lv_at hl 0 rfl) ?_
        refine lv_if_lt (tgt := 57) hx hb dX12_readHearth_41 (by decide) (fun c70 => ?_) (fun c70 => ?_)
        · have b70 : v12.toInt < (0 : Int32).toInt := i_lt.mp c70
          refine lv_iconst (v := 0) hx hb dX12_readHearth_57 (by decide) ?_
          exact retE_z hQ C S12 hr dX12_readHearth_58 (z01 (by omega) (by omega)) (⟨by omega, RRP.no (s1 := sg) (by simp [heaF, heaO, hea1, hea2, hea3, hc3, hk7, w12, y12]) (by omega) wr12⟩)
        · have b70 : ¬ v12.toInt < (0 : Int32).toInt := fun z9 => c70 (i_lt.mpr z9)
          exact absurd b70 (by omega)
      · skip
        refine lv_istore_n (lv' := [(3, .int v12), (2, .int v5), (1, .int v1), (0, .ref a0)]) hx hb dX12_readHearth_39 rfl hl (by decide) rfl (fun ls hl => ?_)
        refine lv_iload_n hx hb dX12_readHearth_40 rfl (lv_at hl 0 rfl) ?_
        refine lv_if_lt (tgt := 57) hx hb dX12_readHearth_41 (by decide) (fun c71 => ?_) (fun c71 => ?_)
        · have b71 : v12.toInt < (0 : Int32).toInt := i_lt.mp c71
          refine lv_iconst (v := 0) hx hb dX12_readHearth_57 (by decide) ?_
          exact retE_z hQ C S12 hr dX12_readHearth_58 (z01 (by omega) (by omega)) (⟨by omega, RRP.no (s1 := sg) (by simp [heaF, heaO, hea1, hea2, hea3, hc3, hk7, w12]) (by omega) wr12⟩)
        · have b71 : ¬ v12.toInt < (0 : Int32).toInt := fun z9 => c71 (i_lt.mpr z9)
          exact absurd b71 (by omega)
    · have b6 : ¬ (0 : Int32).toInt ≤ v5.toInt := fun z9 => c6 (i_le.mpr z9)
      have hk72 : kin T (nx T b) = -1 := by omega
      refine lv_iconst (v := -1) hx hb dX12_readHearth_22 (by decide) ?_
      refine lv_goto (tgt := 39) hx hb dX12_readHearth_23 (by decide) ?_
      refine lv_istore_n (lv' := [(3, .int (-1 : Int32)), (2, .int v5), (1, .int v1), (0, .ref a0)]) hx hb dX12_readHearth_39 rfl hl (by decide) rfl (fun ls hl => ?_)
      refine lv_iload_n hx hb dX12_readHearth_40 rfl (lv_at hl 0 rfl) ?_
      have k_m1 : (-1 : Int32).toInt = -1 := by decide
      refine lv_if_lt (tgt := 57) hx hb dX12_readHearth_41 (by decide) (fun c73 => ?_) (fun c73 => ?_)
      · have b73 : (-1 : Int32).toInt < (0 : Int32).toInt := i_lt.mp c73
        refine lv_iconst (v := 0) hx hb dX12_readHearth_57 (by decide) ?_
        exact retE_z hQ C S5 hr dX12_readHearth_58 (z01 (by omega) (by omega)) (⟨by omega, RRP.no (s1 := sg) (by simp [heaF, heaO, hea1, hea2, hea3, hc3, hk72]) (by omega) fq5.2.2.2.1⟩)
      · have b73 : ¬ (-1 : Int32).toInt < (0 : Int32).toInt := fun z9 => c73 (i_lt.mpr z9)
        exact absurd b73 (by omega)
  · have b2 : v1.toInt = (12 : Int32).toInt := i_eq.mp c2
    have hc74 : sg 1 = 12 := by omega
    refine lv_iconst (v := 0) hx hb dX12_readHearth_11 (by decide) ?_
    have k_0 : (0 : Int32).toInt = 0 := by decide
    exact retE_z hQ C S hr dX12_readHearth_12 (z01 (by omega) (by omega)) (⟨by omega, RRP.no (s1 := sg) (by simp [heaF, heaO, hea1, hea2, hea3, hc74]) (by omega) ts0.2.2.1⟩)

set_option maxRecDepth 100000 in
set_option maxHeartbeats 4000000 in
theorem c_X12_readParishLine_f (l : Launch) (D : DD) (G : Nat → Nat) (a0 : Nat) (sg : Sg) (T : Tx) (b : Nat) (ga0 : G a0 = 30) : CE l D G yX12_readParishLine cX12_readParishLine 1 (some .boolean) 7 [.ref a0] (fun H => (True) ∧ (LB D H a0 T b ∧ MV D H a0 sg ∧ PV sg)) [(30, 10), (30, 12), (31, 0), (31, 1)] (xI (fun H r H1 => (0 ≤ r.toInt ∧ r.toInt ≤ 1) ∧ (RRP D H1 a0 T (plnF T sg b) r))) := by
  refine enter (by decide) (Nat.le_of_ble_eq_true rfl) ?_
  intro p e s m args below meth c ls Q hA hQ C hr hO hpre hl
  have hx := C.1
  have hb := C.2.1
  have S : Sd D G [(30, 10), (30, 12), (31, 0), (31, 1)] s.heap s.heap [] := Sd.start hO
  have hl : lv_has ls 1 [(0, .ref a0)] := hl
  obtain ⟨hpre, hf⟩ := hpre
  obtain ⟨ts0, mv0, pv0⟩ := hf
  have hT : T.2 ≤ 400 := ts0.le hO ga0
  refine lv_aload_n hx hb dX12_readParishLine_0 rfl (lv_at hl 0 rfl) ?_
  refine q_lds C ks_X12_153 dX12_readParishLine_1 (fun a1 ha1 wa1 => ?_)
  refine callV_Pi C S.1 S.2.1.2.1 (c_X12_isWord_f l D G a0 a1 5 w_house T b ga0 ha1 (Wc.of wa1 kw_house) (by decide)) kV_X12_105 ga0 (⟨trivial, ts0⟩) dX12_readParishLine_3 hl.1 rfl rfl (by decide) cd_X12_isWord ⟨Nat.le_of_ble_eq_true rfl, Nat.le_of_ble_eq_true rfl, Nat.le_of_ble_eq_true rfl, Nat.le_of_ble_eq_true rfl, Nat.le_of_ble_eq_true rfl⟩ (fun v2 q2 => ?_)
  obtain ⟨q2, fq2⟩ := q2
  rcases fq2 with ⟨z2, y2⟩ | ⟨z2, y2⟩
  · skip
    have k_0 : (0 : Int32).toInt = 0 := by decide
    refine lv_if_eq (tgt := 14) hx hb dX12_readParishLine_6 (by decide) (fun c3 => ?_) (fun c3 => ?_)
    · have b3 : v2.toInt = (0 : Int32).toInt := i_eq.mp c3
      exact absurd b3 (by omega)
    · have b3 : ¬ v2.toInt = (0 : Int32).toInt := fun z9 => c3 (i_eq.mpr z9)
      refine lv_aload_n hx hb dX12_readParishLine_9 rfl (lv_at hl 0 rfl) ?_
      refine callV_Ei C S (c_X12_readHouse_f l D G a0 sg T b ga0 y2) kV_X12_155 ga0 (⟨trivial, ts0, mv0, pv0⟩) (by decide +kernel) dX12_readParishLine_10 hl.1 rfl rfl (by decide) cd_X12_readHouse ⟨Nat.le_of_ble_eq_true rfl, Nat.le_of_ble_eq_true rfl, Nat.le_of_ble_eq_true rfl, Nat.le_of_ble_eq_true rfl, Nat.le_of_ble_eq_true rfl⟩ (fun v4 H4 L4 S4 K4 q4 => ?_)
      obtain ⟨q4, fq4⟩ := q4
      rcases fq4 with ⟨c4, s4, y4, z4, ts4, dv4, pv4⟩ | ⟨e4, s4, y4, z4, wr4⟩
      · skip
        exact retE_z hQ C S4 hr dX12_readParishLine_13 (z01 (by omega) (by omega)) (⟨by omega, RRP.ok (s1 := s4) (by simp [plnF, y2, y4]) (by omega) ts4 (dv4) (pv4)⟩)
      · skip
        exact retE_z hQ C S4 hr dX12_readParishLine_13 (z01 (by omega) (by omega)) (⟨by omega, RRP.no (s1 := s4) (by simp [plnF, y2, y4]) (by omega) wr4⟩)
  · skip
    have k_0 : (0 : Int32).toInt = 0 := by decide
    refine lv_if_eq (tgt := 14) hx hb dX12_readParishLine_6 (by decide) (fun c5 => ?_) (fun c5 => ?_)
    · have b5 : v2.toInt = (0 : Int32).toInt := i_eq.mp c5
      refine lv_aload_n hx hb dX12_readParishLine_14 rfl (lv_at hl 0 rfl) ?_
      refine q_lds C ks_X12_159 dX12_readParishLine_15 (fun a6 ha6 wa6 => ?_)
      refine callV_Pi C S.1 S.2.1.2.1 (c_X12_isWord_f l D G a0 a6 4 w_sees T b ga0 ha6 (Wc.of wa6 kw_sees) (by decide)) kV_X12_105 ga0 (⟨trivial, ts0⟩) dX12_readParishLine_17 hl.1 rfl rfl (by decide) cd_X12_isWord ⟨Nat.le_of_ble_eq_true rfl, Nat.le_of_ble_eq_true rfl, Nat.le_of_ble_eq_true rfl, Nat.le_of_ble_eq_true rfl, Nat.le_of_ble_eq_true rfl⟩ (fun v7 q7 => ?_)
      obtain ⟨q7, fq7⟩ := q7
      rcases fq7 with ⟨z7, y7⟩ | ⟨z7, y7⟩
      · skip
        refine lv_if_eq (tgt := 28) hx hb dX12_readParishLine_20 (by decide) (fun c8 => ?_) (fun c8 => ?_)
        · have b8 : v7.toInt = (0 : Int32).toInt := i_eq.mp c8
          exact absurd b8 (by omega)
        · have b8 : ¬ v7.toInt = (0 : Int32).toInt := fun z9 => c8 (i_eq.mpr z9)
          refine lv_aload_n hx hb dX12_readParishLine_23 rfl (lv_at hl 0 rfl) ?_
          refine callV_Ei C S (c_X12_readSees_f l D G a0 sg T b ga0 y7) kV_X12_161 ga0 (⟨trivial, ts0, mv0, pv0⟩) (by decide +kernel) dX12_readParishLine_24 hl.1 rfl rfl (by decide) cd_X12_readSees ⟨Nat.le_of_ble_eq_true rfl, Nat.le_of_ble_eq_true rfl, Nat.le_of_ble_eq_true rfl, Nat.le_of_ble_eq_true rfl, Nat.le_of_ble_eq_true rfl⟩ (fun v9 H9 L9 S9 K9 q9 => ?_)
          obtain ⟨q9, fq9⟩ := q9
          rcases fq9 with ⟨c9, s9, y9, z9, ts9, dv9, pv9⟩ | ⟨e9, s9, y9, z9, wr9⟩
          · skip
            exact retE_z hQ C S9 hr dX12_readParishLine_27 (z01 (by omega) (by omega)) (⟨by omega, RRP.ok (s1 := s9) (by simp [plnF, y2, y7, y9]) (by omega) ts9 (dv9) (pv9)⟩)
          · skip
            exact retE_z hQ C S9 hr dX12_readParishLine_27 (z01 (by omega) (by omega)) (⟨by omega, RRP.no (s1 := s9) (by simp [plnF, y2, y7, y9]) (by omega) wr9⟩)
      · skip
        refine lv_if_eq (tgt := 28) hx hb dX12_readParishLine_20 (by decide) (fun c10 => ?_) (fun c10 => ?_)
        · have b10 : v7.toInt = (0 : Int32).toInt := i_eq.mp c10
          refine lv_aload_n hx hb dX12_readParishLine_28 rfl (lv_at hl 0 rfl) ?_
          refine q_lds C ks_X12_164 dX12_readParishLine_29 (fun a11 ha11 wa11 => ?_)
          refine callV_Pi C S.1 S.2.1.2.1 (c_X12_isWord_f l D G a0 a11 6 w_hearth T b ga0 ha11 (Wc.of wa11 kw_hearth) (by decide)) kV_X12_105 ga0 (⟨trivial, ts0⟩) dX12_readParishLine_31 hl.1 rfl rfl (by decide) cd_X12_isWord ⟨Nat.le_of_ble_eq_true rfl, Nat.le_of_ble_eq_true rfl, Nat.le_of_ble_eq_true rfl, Nat.le_of_ble_eq_true rfl, Nat.le_of_ble_eq_true rfl⟩ (fun v12 q12 => ?_)
          obtain ⟨q12, fq12⟩ := q12
          rcases fq12 with ⟨z12, y12⟩ | ⟨z12, y12⟩
          · skip
            refine lv_if_eq (tgt := 42) hx hb dX12_readParishLine_34 (by decide) (fun c13 => ?_) (fun c13 => ?_)
            · have b13 : v12.toInt = (0 : Int32).toInt := i_eq.mp c13
              exact absurd b13 (by omega)
            · have b13 : ¬ v12.toInt = (0 : Int32).toInt := fun z9 => c13 (i_eq.mpr z9)
              refine lv_aload_n hx hb dX12_readParishLine_37 rfl (lv_at hl 0 rfl) ?_
              refine callV_Ei C S (c_X12_readHearth_f l D G a0 sg T b ga0 y12) kV_X12_166 ga0 (⟨trivial, ts0, mv0, pv0⟩) (by decide +kernel) dX12_readParishLine_38 hl.1 rfl rfl (by decide) cd_X12_readHearth ⟨Nat.le_of_ble_eq_true rfl, Nat.le_of_ble_eq_true rfl, Nat.le_of_ble_eq_true rfl, Nat.le_of_ble_eq_true rfl, Nat.le_of_ble_eq_true rfl⟩ (fun v14 H14 L14 S14 K14 q14 => ?_)
              obtain ⟨q14, fq14⟩ := q14
              rcases fq14 with ⟨c14, s14, y14, z14, ts14, dv14, pv14⟩ | ⟨e14, s14, y14, z14, wr14⟩
              · skip
                exact retE_z hQ C S14 hr dX12_readParishLine_41 (z01 (by omega) (by omega)) (⟨by omega, RRP.ok (s1 := s14) (by simp [plnF, y2, y7, y12, y14]) (by omega) ts14 (dv14) (pv14)⟩)
              · skip
                exact retE_z hQ C S14 hr dX12_readParishLine_41 (z01 (by omega) (by omega)) (⟨by omega, RRP.no (s1 := s14) (by simp [plnF, y2, y7, y12, y14]) (by omega) wr14⟩)
          · skip
            refine lv_if_eq (tgt := 42) hx hb dX12_readParishLine_34 (by decide) (fun c15 => ?_) (fun c15 => ?_)
            · have b15 : v12.toInt = (0 : Int32).toInt := i_eq.mp c15
              refine lv_aload_n hx hb dX12_readParishLine_42 rfl (lv_at hl 0 rfl) ?_
              refine q_lds C ks_X12_169 dX12_readParishLine_43 (fun a16 ha16 wa16 => ?_)
              refine callV_Pi C S.1 S.2.1.2.1 (c_X12_isWord_f l D G a0 a16 4 w_rate T b ga0 ha16 (Wc.of wa16 kw_rate) (by decide)) kV_X12_105 ga0 (⟨trivial, ts0⟩) dX12_readParishLine_45 hl.1 rfl rfl (by decide) cd_X12_isWord ⟨Nat.le_of_ble_eq_true rfl, Nat.le_of_ble_eq_true rfl, Nat.le_of_ble_eq_true rfl, Nat.le_of_ble_eq_true rfl, Nat.le_of_ble_eq_true rfl⟩ (fun v17 q17 => ?_)
              obtain ⟨q17, fq17⟩ := q17
              rcases fq17 with ⟨z17, y17⟩ | ⟨z17, y17⟩
              · skip
                refine lv_if_eq (tgt := 60) hx hb dX12_readParishLine_48 (by decide) (fun c18 => ?_) (fun c18 => ?_)
                · have b18 : v17.toInt = (0 : Int32).toInt := i_eq.mp c18
                  exact absurd b18 (by omega)
                · have b18 : ¬ v17.toInt = (0 : Int32).toInt := fun z9 => c18 (i_eq.mpr z9)
                  refine lv_aload_n hx hb dX12_readParishLine_51 rfl (lv_at hl 0 rfl) ?_
                  refine lv_iconst (v := 5) hx hb dX12_readParishLine_52 (by decide) ?_
                  refine lv_iconst (v := 0) hx hb dX12_readParishLine_53 (by decide) ?_
                  refine lv_bipush (v := 20) hx hb dX12_readParishLine_54 (by decide) ?_
                  have rb19 := ts0.rb1 (isW_k y17)
                  have k_5 : (5 : Int32).toInt = 5 := by decide
                  have k_20 : (20 : Int32).toInt = 20 := by decide
                  refine callV_Ei C S (c_X12_readNumber_f l D G a0 (5 : Int32) (0 : Int32) (20 : Int32) 20 5 sg T (nx T b) ga0 (by omega) (by omega) (by omega) (by omega) (by omega) (by omega)) kV_X12_171 ga0 (⟨trivial, rb19, mv0, pv0⟩) (by decide +kernel) dX12_readParishLine_56 hl.1 rfl rfl (by decide) cd_X12_readNumber ⟨Nat.le_of_ble_eq_true rfl, Nat.le_of_ble_eq_true rfl, Nat.le_of_ble_eq_true rfl, Nat.le_of_ble_eq_true rfl, Nat.le_of_ble_eq_true rfl⟩ (fun v20 H20 L20 S20 K20 q20 => ?_)
                  obtain ⟨q20, fq20⟩ := q20
                  rcases fq20 with ⟨c20, s20, y20, z20, ts20, dv20, pv20⟩ | ⟨e20, s20, y20, z20, wr20⟩
                  · skip
                    exact retE_z hQ C S20 hr dX12_readParishLine_59 (z01 (by omega) (by omega)) (⟨by omega, RRP.ok (s1 := s20) (by simp [plnF, setF_5, y2, y7, y12, y17, y20]) (by omega) ts20 (dv20) (pv20)⟩)
                  · skip
                    exact retE_z hQ C S20 hr dX12_readParishLine_59 (z01 (by omega) (by omega)) (⟨by omega, RRP.no (s1 := s20) (by simp [plnF, setF_5, y2, y7, y12, y17, y20]) (by omega) wr20⟩)
              · skip
                refine lv_if_eq (tgt := 60) hx hb dX12_readParishLine_48 (by decide) (fun c21 => ?_) (fun c21 => ?_)
                · have b21 : v17.toInt = (0 : Int32).toInt := i_eq.mp c21
                  refine lv_aload_n hx hb dX12_readParishLine_60 rfl (lv_at hl 0 rfl) ?_
                  refine q_lds C ks_X12_174 dX12_readParishLine_61 (fun a22 ha22 wa22 => ?_)
                  refine callV_Pi C S.1 S.2.1.2.1 (c_X12_isWord_f l D G a0 a22 4 w_fine T b ga0 ha22 (Wc.of wa22 kw_fine) (by decide)) kV_X12_105 ga0 (⟨trivial, ts0⟩) dX12_readParishLine_63 hl.1 rfl rfl (by decide) cd_X12_isWord ⟨Nat.le_of_ble_eq_true rfl, Nat.le_of_ble_eq_true rfl, Nat.le_of_ble_eq_true rfl, Nat.le_of_ble_eq_true rfl, Nat.le_of_ble_eq_true rfl⟩ (fun v23 q23 => ?_)
                  obtain ⟨q23, fq23⟩ := q23
                  rcases fq23 with ⟨z23, y23⟩ | ⟨z23, y23⟩
                  · skip
                    refine lv_if_eq (tgt := 79) hx hb dX12_readParishLine_66 (by decide) (fun c24 => ?_) (fun c24 => ?_)
                    · have b24 : v23.toInt = (0 : Int32).toInt := i_eq.mp c24
                      exact absurd b24 (by omega)
                    · have b24 : ¬ v23.toInt = (0 : Int32).toInt := fun z9 => c24 (i_eq.mpr z9)
                      refine lv_aload_n hx hb dX12_readParishLine_69 rfl (lv_at hl 0 rfl) ?_
                      refine lv_bipush (v := 6) hx hb dX12_readParishLine_70 (by decide) ?_
                      refine lv_iconst (v := 0) hx hb dX12_readParishLine_72 (by decide) ?_
                      refine lv_bipush (v := 50) hx hb dX12_readParishLine_73 (by decide) ?_
                      have rb25 := ts0.rb1 (isW_k y23)
                      have k_6 : (6 : Int32).toInt = 6 := by decide
                      have k_50 : (50 : Int32).toInt = 50 := by decide
                      refine callV_Ei C S (c_X12_readNumber_f l D G a0 (6 : Int32) (0 : Int32) (50 : Int32) 50 6 sg T (nx T b) ga0 (by omega) (by omega) (by omega) (by omega) (by omega) (by omega)) kV_X12_171 ga0 (⟨trivial, rb25, mv0, pv0⟩) (by decide +kernel) dX12_readParishLine_75 hl.1 rfl rfl (by decide) cd_X12_readNumber ⟨Nat.le_of_ble_eq_true rfl, Nat.le_of_ble_eq_true rfl, Nat.le_of_ble_eq_true rfl, Nat.le_of_ble_eq_true rfl, Nat.le_of_ble_eq_true rfl⟩ (fun v26 H26 L26 S26 K26 q26 => ?_)
                      obtain ⟨q26, fq26⟩ := q26
                      rcases fq26 with ⟨c26, s26, y26, z26, ts26, dv26, pv26⟩ | ⟨e26, s26, y26, z26, wr26⟩
                      · skip
                        exact retE_z hQ C S26 hr dX12_readParishLine_78 (z01 (by omega) (by omega)) (⟨by omega, RRP.ok (s1 := s26) (by simp [plnF, setF_6, y2, y7, y12, y17, y23, y26]) (by omega) ts26 (dv26) (pv26)⟩)
                      · skip
                        exact retE_z hQ C S26 hr dX12_readParishLine_78 (z01 (by omega) (by omega)) (⟨by omega, RRP.no (s1 := s26) (by simp [plnF, setF_6, y2, y7, y12, y17, y23, y26]) (by omega) wr26⟩)
                  · skip
                    refine lv_if_eq (tgt := 79) hx hb dX12_readParishLine_66 (by decide) (fun c27 => ?_) (fun c27 => ?_)
                    · have b27 : v23.toInt = (0 : Int32).toInt := i_eq.mp c27
                      refine lv_aload_n hx hb dX12_readParishLine_79 rfl (lv_at hl 0 rfl) ?_
                      refine q_lds C ks_X12_176 dX12_readParishLine_80 (fun a28 ha28 wa28 => ?_)
                      refine callV_Pi C S.1 S.2.1.2.1 (c_X12_isWord_f l D G a0 a28 5 w_visit T b ga0 ha28 (Wc.of wa28 kw_visit) (by decide)) kV_X12_105 ga0 (⟨trivial, ts0⟩) dX12_readParishLine_82 hl.1 rfl rfl (by decide) cd_X12_isWord ⟨Nat.le_of_ble_eq_true rfl, Nat.le_of_ble_eq_true rfl, Nat.le_of_ble_eq_true rfl, Nat.le_of_ble_eq_true rfl, Nat.le_of_ble_eq_true rfl⟩ (fun v29 q29 => ?_)
                      obtain ⟨q29, fq29⟩ := q29
                      rcases fq29 with ⟨z29, y29⟩ | ⟨z29, y29⟩
                      · skip
                        refine lv_if_eq (tgt := 98) hx hb dX12_readParishLine_85 (by decide) (fun c30 => ?_) (fun c30 => ?_)
                        · have b30 : v29.toInt = (0 : Int32).toInt := i_eq.mp c30
                          exact absurd b30 (by omega)
                        · have b30 : ¬ v29.toInt = (0 : Int32).toInt := fun z9 => c30 (i_eq.mpr z9)
                          refine lv_aload_n hx hb dX12_readParishLine_88 rfl (lv_at hl 0 rfl) ?_
                          refine lv_bipush (v := 7) hx hb dX12_readParishLine_89 (by decide) ?_
                          refine lv_iconst (v := 0) hx hb dX12_readParishLine_91 (by decide) ?_
                          refine lv_bipush (v := 100) hx hb dX12_readParishLine_92 (by decide) ?_
                          have rb31 := ts0.rb1 (isW_k y29)
                          have k_7 : (7 : Int32).toInt = 7 := by decide
                          have k_100 : (100 : Int32).toInt = 100 := by decide
                          refine callV_Ei C S (c_X12_readNumber_f l D G a0 (7 : Int32) (0 : Int32) (100 : Int32) 100 7 sg T (nx T b) ga0 (by omega) (by omega) (by omega) (by omega) (by omega) (by omega)) kV_X12_171 ga0 (⟨trivial, rb31, mv0, pv0⟩) (by decide +kernel) dX12_readParishLine_94 hl.1 rfl rfl (by decide) cd_X12_readNumber ⟨Nat.le_of_ble_eq_true rfl, Nat.le_of_ble_eq_true rfl, Nat.le_of_ble_eq_true rfl, Nat.le_of_ble_eq_true rfl, Nat.le_of_ble_eq_true rfl⟩ (fun v32 H32 L32 S32 K32 q32 => ?_)
                          obtain ⟨q32, fq32⟩ := q32
                          rcases fq32 with ⟨c32, s32, y32, z32, ts32, dv32, pv32⟩ | ⟨e32, s32, y32, z32, wr32⟩
                          · skip
                            exact retE_z hQ C S32 hr dX12_readParishLine_97 (z01 (by omega) (by omega)) (⟨by omega, RRP.ok (s1 := s32) (by simp [plnF, setF_7, y2, y7, y12, y17, y23, y29, y32]) (by omega) ts32 (dv32) (pv32)⟩)
                          · skip
                            exact retE_z hQ C S32 hr dX12_readParishLine_97 (z01 (by omega) (by omega)) (⟨by omega, RRP.no (s1 := s32) (by simp [plnF, setF_7, y2, y7, y12, y17, y23, y29, y32]) (by omega) wr32⟩)
                      · skip
                        refine lv_if_eq (tgt := 98) hx hb dX12_readParishLine_85 (by decide) (fun c33 => ?_) (fun c33 => ?_)
                        · have b33 : v29.toInt = (0 : Int32).toInt := i_eq.mp c33
                          refine lv_aload_n hx hb dX12_readParishLine_98 rfl (lv_at hl 0 rfl) ?_
                          refine q_lds C ks_X12_178 dX12_readParishLine_99 (fun a34 ha34 wa34 => ?_)
                          refine callV_Pi C S.1 S.2.1.2.1 (c_X12_isWord_f l D G a0 a34 3 w_bed T b ga0 ha34 (Wc.of wa34 kw_bed) (by decide)) kV_X12_105 ga0 (⟨trivial, ts0⟩) dX12_readParishLine_101 hl.1 rfl rfl (by decide) cd_X12_isWord ⟨Nat.le_of_ble_eq_true rfl, Nat.le_of_ble_eq_true rfl, Nat.le_of_ble_eq_true rfl, Nat.le_of_ble_eq_true rfl, Nat.le_of_ble_eq_true rfl⟩ (fun v35 q35 => ?_)
                          obtain ⟨q35, fq35⟩ := q35
                          rcases fq35 with ⟨z35, y35⟩ | ⟨z35, y35⟩
                          · skip
                            refine lv_if_eq (tgt := 117) hx hb dX12_readParishLine_104 (by decide) (fun c36 => ?_) (fun c36 => ?_)
                            · have b36 : v35.toInt = (0 : Int32).toInt := i_eq.mp c36
                              exact absurd b36 (by omega)
                            · have b36 : ¬ v35.toInt = (0 : Int32).toInt := fun z9 => c36 (i_eq.mpr z9)
                              refine lv_aload_n hx hb dX12_readParishLine_107 rfl (lv_at hl 0 rfl) ?_
                              refine lv_bipush (v := 8) hx hb dX12_readParishLine_108 (by decide) ?_
                              refine lv_iconst (v := 0) hx hb dX12_readParishLine_110 (by decide) ?_
                              refine lv_bipush (v := 20) hx hb dX12_readParishLine_111 (by decide) ?_
                              have rb37 := ts0.rb1 (isW_k y35)
                              have k_8 : (8 : Int32).toInt = 8 := by decide
                              have k_20 : (20 : Int32).toInt = 20 := by decide
                              refine callV_Ei C S (c_X12_readNumber_f l D G a0 (8 : Int32) (0 : Int32) (20 : Int32) 20 8 sg T (nx T b) ga0 (by omega) (by omega) (by omega) (by omega) (by omega) (by omega)) kV_X12_171 ga0 (⟨trivial, rb37, mv0, pv0⟩) (by decide +kernel) dX12_readParishLine_113 hl.1 rfl rfl (by decide) cd_X12_readNumber ⟨Nat.le_of_ble_eq_true rfl, Nat.le_of_ble_eq_true rfl, Nat.le_of_ble_eq_true rfl, Nat.le_of_ble_eq_true rfl, Nat.le_of_ble_eq_true rfl⟩ (fun v38 H38 L38 S38 K38 q38 => ?_)
                              obtain ⟨q38, fq38⟩ := q38
                              rcases fq38 with ⟨c38, s38, y38, z38, ts38, dv38, pv38⟩ | ⟨e38, s38, y38, z38, wr38⟩
                              · skip
                                exact retE_z hQ C S38 hr dX12_readParishLine_116 (z01 (by omega) (by omega)) (⟨by omega, RRP.ok (s1 := s38) (by simp [plnF, setF_8, y2, y7, y12, y17, y23, y29, y35, y38]) (by omega) ts38 (dv38) (pv38)⟩)
                              · skip
                                exact retE_z hQ C S38 hr dX12_readParishLine_116 (z01 (by omega) (by omega)) (⟨by omega, RRP.no (s1 := s38) (by simp [plnF, setF_8, y2, y7, y12, y17, y23, y29, y35, y38]) (by omega) wr38⟩)
                          · skip
                            refine lv_if_eq (tgt := 117) hx hb dX12_readParishLine_104 (by decide) (fun c39 => ?_) (fun c39 => ?_)
                            · have b39 : v35.toInt = (0 : Int32).toInt := i_eq.mp c39
                              refine lv_aload_n hx hb dX12_readParishLine_117 rfl (lv_at hl 0 rfl) ?_
                              refine q_lds C ks_X12_180 dX12_readParishLine_118 (fun a40 ha40 wa40 => ?_)
                              refine callV_Pi C S.1 S.2.1.2.1 (c_X12_isWord_f l D G a0 a40 7 w_quarter T b ga0 ha40 (Wc.of wa40 kw_quarter) (by decide)) kV_X12_105 ga0 (⟨trivial, ts0⟩) dX12_readParishLine_120 hl.1 rfl rfl (by decide) cd_X12_isWord ⟨Nat.le_of_ble_eq_true rfl, Nat.le_of_ble_eq_true rfl, Nat.le_of_ble_eq_true rfl, Nat.le_of_ble_eq_true rfl, Nat.le_of_ble_eq_true rfl⟩ (fun v41 q41 => ?_)
                              obtain ⟨q41, fq41⟩ := q41
                              rcases fq41 with ⟨z41, y41⟩ | ⟨z41, y41⟩
                              · skip
                                refine lv_if_eq (tgt := 142) hx hb dX12_readParishLine_123 (by decide) (fun c42 => ?_) (fun c42 => ?_)
                                · have b42 : v41.toInt = (0 : Int32).toInt := i_eq.mp c42
                                  exact absurd b42 (by omega)
                                · have b42 : ¬ v41.toInt = (0 : Int32).toInt := fun z9 => c42 (i_eq.mpr z9)
                                  refine lv_aload_n hx hb dX12_readParishLine_126 rfl (lv_at hl 0 rfl) ?_
                                  refine lv_iconst (v := 4) hx hb dX12_readParishLine_127 (by decide) ?_
                                  refine lv_iconst (v := 0) hx hb dX12_readParishLine_128 (by decide) ?_
                                  refine lv_sipush (v := 999) hx hb dX12_readParishLine_129 (by decide) ?_
                                  have rb43 := ts0.rb1 (isW_k y41)
                                  have k_4 : (4 : Int32).toInt = 4 := by decide
                                  have k_999 : (999 : Int32).toInt = 999 := by decide
                                  refine callV_Ei C S (c_X12_readNumber_f l D G a0 (4 : Int32) (0 : Int32) (999 : Int32) 999 4 sg T (nx T b) ga0 (by omega) (by omega) (by omega) (by omega) (by omega) (by omega)) kV_X12_171 ga0 (⟨trivial, rb43, mv0, pv0⟩) (by decide +kernel) dX12_readParishLine_132 hl.1 rfl rfl (by decide) cd_X12_readNumber ⟨Nat.le_of_ble_eq_true rfl, Nat.le_of_ble_eq_true rfl, Nat.le_of_ble_eq_true rfl, Nat.le_of_ble_eq_true rfl, Nat.le_of_ble_eq_true rfl⟩ (fun v44 H44 L44 S44 K44 q44 => ?_)
                                  obtain ⟨q44, fq44⟩ := q44
                                  rcases fq44 with ⟨c44, s44, y44, z44, ts44, dv44, pv44⟩ | ⟨e44, s44, y44, z44, wr44⟩
                                  · skip
                                    refine lv_if_eq (tgt := 142) hx hb dX12_readParishLine_135 (by decide) (fun c45 => ?_) (fun c45 => ?_)
                                    · have b45 : v44.toInt = (0 : Int32).toInt := i_eq.mp c45
                                      exact absurd b45 (by omega)
                                    · have b45 : ¬ v44.toInt = (0 : Int32).toInt := fun z9 => c45 (i_eq.mpr z9)
                                      refine lv_iconst (v := 1) hx hb dX12_readParishLine_138 (by decide) ?_
                                      refine lv_goto (tgt := 143) hx hb dX12_readParishLine_139 (by decide) ?_
                                      have k_1 : (1 : Int32).toInt = 1 := by decide
                                      exact retE_z hQ C S44 hr dX12_readParishLine_143 (z01 (by omega) (by omega)) (⟨by omega, RRP.ok (s1 := s44) (by simp [plnF, setF_4, y2, y7, y12, y17, y23, y29, y35, y41, y44]) (by omega) ts44 (dv44) (pv44)⟩)
                                  · skip
                                    refine lv_if_eq (tgt := 142) hx hb dX12_readParishLine_135 (by decide) (fun c46 => ?_) (fun c46 => ?_)
                                    · have b46 : v44.toInt = (0 : Int32).toInt := i_eq.mp c46
                                      refine lv_iconst (v := 0) hx hb dX12_readParishLine_142 (by decide) ?_
                                      exact retE_z hQ C S44 hr dX12_readParishLine_143 (z01 (by omega) (by omega)) (⟨by omega, RRP.no (s1 := s44) (by simp [plnF, setF_4, y2, y7, y12, y17, y23, y29, y35, y41, y44]) (by omega) wr44⟩)
                                    · have b46 : ¬ v44.toInt = (0 : Int32).toInt := fun z9 => c46 (i_eq.mpr z9)
                                      exact absurd b46 (by omega)
                              · skip
                                refine lv_if_eq (tgt := 142) hx hb dX12_readParishLine_123 (by decide) (fun c47 => ?_) (fun c47 => ?_)
                                · have b47 : v41.toInt = (0 : Int32).toInt := i_eq.mp c47
                                  refine lv_iconst (v := 0) hx hb dX12_readParishLine_142 (by decide) ?_
                                  exact retE_z hQ C S hr dX12_readParishLine_143 (z01 (by omega) (by omega)) (⟨by omega, RRP.no (s1 := sg) (by simp [plnF, setF_4, y2, y7, y12, y17, y23, y29, y35, y41]) (by omega) ts0.2.2.1⟩)
                                · have b47 : ¬ v41.toInt = (0 : Int32).toInt := fun z9 => c47 (i_eq.mpr z9)
                                  exact absurd b47 (by omega)
                            · have b39 : ¬ v35.toInt = (0 : Int32).toInt := fun z9 => c39 (i_eq.mpr z9)
                              exact absurd b39 (by omega)
                        · have b33 : ¬ v29.toInt = (0 : Int32).toInt := fun z9 => c33 (i_eq.mpr z9)
                          exact absurd b33 (by omega)
                    · have b27 : ¬ v23.toInt = (0 : Int32).toInt := fun z9 => c27 (i_eq.mpr z9)
                      exact absurd b27 (by omega)
                · have b21 : ¬ v17.toInt = (0 : Int32).toInt := fun z9 => c21 (i_eq.mpr z9)
                  exact absurd b21 (by omega)
            · have b15 : ¬ v12.toInt = (0 : Int32).toInt := fun z9 => c15 (i_eq.mpr z9)
              exact absurd b15 (by omega)
        · have b10 : ¬ v7.toInt = (0 : Int32).toInt := fun z9 => c10 (i_eq.mpr z9)
          exact absurd b10 (by omega)
    · have b5 : ¬ v2.toInt = (0 : Int32).toInt := fun z9 => c5 (i_eq.mpr z9)
      exact absurd b5 (by omega)

set_option maxRecDepth 100000 in
set_option maxHeartbeats 4000000 in
theorem c_X12_readLine_tf (l : Launch) (D : DD) (G : Nat → Nat) (a0 : Nat) (x1 : Int32) (x2 : Int32) (sg : Sg) (T : Tx) (b : Nat) (ga0 : G a0 = 30) (ix1 : 1 ≤ x1.toInt ∧ x1.toInt ≤ 1) (ix2 : 0 ≤ x2.toInt ∧ x2.toInt ≤ 14) : CE l D G yX12_readLine cX12_readLine 3 (some .boolean) 29 [.ref a0, .int x1, .int x2] (fun H => (True) ∧ (RB D H a0 T b ∧ MV D H a0 sg ∧ PV sg)) [(30, 10), (30, 12), (31, 0), (31, 1)] (xI (fun H r H1 => ((0 ≤ r.toInt ∧ r.toInt ≤ 1) ∧ (r.toInt = 1 → x2.toInt ≤ 13)) ∧ (RRP D H1 a0 T (plnN T sg x2.toInt b) r))) := by
  refine enter (by decide) (Nat.le_of_ble_eq_true rfl) ?_
  intro p e s m args below meth c ls Q hA hQ C hr hO hpre hl
  have hx := C.1
  have hb := C.2.1
  have S : Sd D G [(30, 10), (30, 12), (31, 0), (31, 1)] s.heap s.heap [] := Sd.start hO
  have hl : lv_has ls 3 [(0, .ref a0), (1, .int x1), (2, .int x2)] := hl
  obtain ⟨hpre, hf⟩ := hpre
  obtain ⟨ts0, mv0, pv0⟩ := hf
  have hT : T.2 ≤ 400 := ts0.le hO ga0
  refine lv_aload_n hx hb dX12_readLine_0 rfl (lv_at hl 0 rfl) ?_
  refine callV_Ev C S (c_X12_letters_f l D G a0 T b ga0) kV_X12_102 ga0 (⟨trivial, ts0⟩) (by decide +kernel) dX12_readLine_1 hl.1 rfl rfl (by decide) cd_X12_letters ⟨Nat.le_of_ble_eq_true rfl, Nat.le_of_ble_eq_true rfl, Nat.le_of_ble_eq_true rfl, Nat.le_of_ble_eq_true rfl, Nat.le_of_ble_eq_true rfl⟩ (fun H1 L1 S1 K1 q1 => ?_)
  obtain ⟨q1, fq1⟩ := q1
  have mv1 := mv0.keep S.1 ga0 K1 (by decide +kernel) (by decide +kernel)
  refine lv_iload_n hx hb dX12_readLine_4 rfl (lv_at hl 2 rfl) ?_
  refine lv_iload_n hx hb dX12_readLine_5 rfl (lv_at hl 1 rfl) ?_
  have k_0 : (0 : Int32).toInt = 0 := by decide
  refine lv_if_eq (tgt := 14) hx hb dX12_readLine_6 (by decide) (fun c2 => ?_) (fun c2 => ?_)
  · have b2 : x1.toInt = (0 : Int32).toInt := i_eq.mp c2
    exact absurd b2 (by omega)
  · have b2 : ¬ x1.toInt = (0 : Int32).toInt := fun z9 => c2 (i_eq.mpr z9)
    refine lv_bipush (v := 14) hx hb dX12_readLine_9 (by decide) ?_
    refine lv_goto (tgt := 16) hx hb dX12_readLine_11 (by decide) ?_
    have k_14 : (14 : Int32).toInt = 14 := by decide
    refine lv_icmp_ge (tgt := 45) hx hb dX12_readLine_16 (by decide) (fun c3 => ?_) (fun c3 => ?_)
    · have b3 : (14 : Int32).toInt ≤ x2.toInt := i_le.mp c3
      have yn45 : ¬ x2.toInt < 14 := by omega
      refine lv_iconst (v := 0) hx hb dX12_readLine_45 (by decide) ?_
      exact retE_z hQ C S1 hr dX12_readLine_46 (z01 (by omega) (by omega)) (⟨⟨by omega, fun h9 => by omega⟩, RRP.no (s1 := sg) (by simp [plnN, yn45]) (by omega) fq1.2.2.1⟩)
    · have b3 : ¬ (14 : Int32).toInt ≤ x2.toInt := fun z9 => c3 (i_le.mpr z9)
      refine lv_iload_n hx hb dX12_readLine_19 rfl (lv_at hl 1 rfl) ?_
      refine lv_if_eq (tgt := 33) hx hb dX12_readLine_20 (by decide) (fun c4 => ?_) (fun c4 => ?_)
      · have b4 : x1.toInt = (0 : Int32).toInt := i_eq.mp c4
        exact absurd b4 (by omega)
      · have b4 : ¬ x1.toInt = (0 : Int32).toInt := fun z9 => c4 (i_eq.mpr z9)
        have yn23 : x2.toInt < 14 := by omega
        refine lv_aload_n hx hb dX12_readLine_23 rfl (lv_at hl 0 rfl) ?_
        refine callV_Ei C S1 (c_X12_readParishLine_f l D G a0 sg T b ga0) kV_X12_229 ga0 (⟨trivial, fq1, mv1, pv0⟩) (by decide +kernel) dX12_readLine_24 hl.1 rfl rfl (by decide) cd_X12_readParishLine ⟨Nat.le_of_ble_eq_true rfl, Nat.le_of_ble_eq_true rfl, Nat.le_of_ble_eq_true rfl, Nat.le_of_ble_eq_true rfl, Nat.le_of_ble_eq_true rfl⟩ (fun v5 H5 L5 S5 K5 q5 => ?_)
        obtain ⟨q5, fq5⟩ := q5
        rcases fq5 with ⟨c5, s5, y5, z5, ts5, dv5, pv5⟩ | ⟨e5, s5, y5, z5, wr5⟩
        · skip
          refine lv_if_eq (tgt := 45) hx hb dX12_readLine_27 (by decide) (fun c6 => ?_) (fun c6 => ?_)
          · have b6 : v5.toInt = (0 : Int32).toInt := i_eq.mp c6
            exact absurd b6 (by omega)
          · have b6 : ¬ v5.toInt = (0 : Int32).toInt := fun z9 => c6 (i_eq.mpr z9)
            refine lv_goto (tgt := 41) hx hb dX12_readLine_30 (by decide) ?_
            refine lv_iconst (v := 1) hx hb dX12_readLine_41 (by decide) ?_
            refine lv_goto (tgt := 46) hx hb dX12_readLine_42 (by decide) ?_
            have k_1 : (1 : Int32).toInt = 1 := by decide
            exact retE_z hQ C S5 hr dX12_readLine_46 (z01 (by omega) (by omega)) (⟨⟨by omega, fun h9 => by omega⟩, RRP.ok (s1 := s5) (by simp [plnN, yn23, y5]) (by omega) ts5 (dv5) (pv5)⟩)
        · skip
          refine lv_if_eq (tgt := 45) hx hb dX12_readLine_27 (by decide) (fun c7 => ?_) (fun c7 => ?_)
          · have b7 : v5.toInt = (0 : Int32).toInt := i_eq.mp c7
            refine lv_iconst (v := 0) hx hb dX12_readLine_45 (by decide) ?_
            exact retE_z hQ C S5 hr dX12_readLine_46 (z01 (by omega) (by omega)) (⟨⟨by omega, fun h9 => by omega⟩, RRP.no (s1 := s5) (by simp [plnN, yn23, y5]) (by omega) wr5⟩)
          · have b7 : ¬ v5.toInt = (0 : Int32).toInt := fun z9 => c7 (i_eq.mpr z9)
            exact absurd b7 (by omega)
