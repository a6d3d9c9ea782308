set_option maxRecDepth 100000 in
set_option maxHeartbeats 4000000 in
theorem c_X12_isAt_f (l : Launch) (D : DD) (G : Nat → Nat) (a0 : Nat) (x1 : Int32) (x2 : Int32) (T : Tx) (ga0 : G a0 = 30) (ix1 : 0 ≤ x1.toInt ∧ x1.toInt ≤ 127) (ix2 : 0 ≤ x2.toInt ∧ x2.toInt ≤ 127) : CP l D G yX12_isAt cX12_isAt 3 (some .boolean) 0 [.ref a0, .int x1, .int x2] (fun H => mT D H a0 = T) (pI (fun H r => ((r.toInt = 1 ∧ (fI D H 11 a0 10).toInt < (fI D H 11 a0 11).toInt) ∨ r.toInt = 0) ∧ ((r.toInt = 1 ∧ (fI D H 11 a0 10).toInt.toNat < T.2 ∧ x1.toInt ≤ T.1 (fI D H 11 a0 10).toInt.toNat ∧ T.1 (fI D H 11 a0 10).toInt.toNat ≤ x2.toInt) ∨ (r.toInt = 0 ∧ ¬ ((fI D H 11 a0 10).toInt.toNat < T.2 ∧ x1.toInt ≤ T.1 (fI D H 11 a0 10).toInt.toNat ∧ T.1 (fI D H 11 a0 10).toInt.toNat ≤ x2.toInt))))) := by
  refine enter (by decide) (Nat.le_of_ble_eq_true rfl) ?_
  intro p e s m args below meth c ls Q hA hQ C hr hO hpre hl
  have hx := C.1
  have hb := C.2.1
  have hl : lv_has ls 3 [(0, .ref a0), (1, .int x1), (2, .int x2)] := hl
  have hT0 := hpre
  have tl : T.2 = (fI D s.heap 11 a0 11).toInt.toNat := (congrArg Prod.snd hpre).symm
  refine lv_aload_n hx hb dX12_isAt_0 rfl (lv_at hl 0 rfl) ?_
  refine q_gi (T := TX12) C hO ga0 10 kF_X12_78 dX12_isAt_1 rfl rfl (by decide) rfl (by decide) rfl ?_
  have r1 : 0 ≤ (fI D s.heap 11 a0 10).toInt ∧ (fI D s.heap 11 a0 10).toInt ≤ 400 := hO.rng ga0 rfl (by decide) rfl
  refine lv_aload_n hx hb dX12_isAt_4 rfl (lv_at hl 0 rfl) ?_
  refine q_gi (T := TX12) C hO ga0 11 kF_X12_81 dX12_isAt_5 rfl rfl (by decide) rfl (by decide) rfl ?_
  have r2 : 0 ≤ (fI D s.heap 11 a0 11).toInt ∧ (fI D s.heap 11 a0 11).toInt ≤ 400 := hO.rng ga0 rfl (by decide) rfl
  refine lv_icmp_ge (tgt := 41) hx hb dX12_isAt_8 (by decide) (fun c3 => ?_) (fun c3 => ?_)
  · have b3 : (fI D s.heap 11 a0 11).toInt ≤ (fI D s.heap 11 a0 10).toInt := i_le.mp c3
    refine lv_iconst (v := 0) hx hb dX12_isAt_41 (by decide) ?_
    have k_0 : (0 : Int32).toInt = 0 := by decide
    exact retP_z hQ C hr dX12_isAt_42 (z01 (by omega) (by omega)) (⟨by omega, by omega⟩)
  · have b3 : ¬ (fI D s.heap 11 a0 11).toInt ≤ (fI D s.heap 11 a0 10).toInt := fun z9 => c3 (i_le.mpr z9)
    refine lv_aload_n hx hb dX12_isAt_11 rfl (lv_at hl 0 rfl) ?_
    refine q_gr (T := TX12) C hO ga0 8 kF_X12_29 dX12_isAt_12 rfl rfl (by decide) rfl (by decide) rfl (fun g4 => ?_)
    refine lv_aload_n hx hb dX12_isAt_15 rfl (lv_at hl 0 rfl) ?_
    refine q_gi (T := TX12) C hO ga0 10 kF_X12_78 dX12_isAt_16 rfl rfl (by decide) rfl (by decide) rfl ?_
    have n5 : aN s.heap (fR D s.heap 11 a0 8) = 400 := len_36 hO g4
    refine q_bald C hO g4 (by omega) (by omega) dX12_isAt_19 rfl (by decide) ?_
    refine lv_topi (fun v6 ev6 => ?_)
    have tav6 : v6.toInt = (eI s.heap (fR D s.heap 11 a0 8) (fI D s.heap 11 a0 10).toInt.toNat).toInt := by rw [ev6]
    have tvv6 : T.1 (fI D s.heap 11 a0 10).toInt.toNat = nrm (eI s.heap (fR D s.heap 11 a0 8) (fI D s.heap 11 a0 10).toInt.toNat).toInt := by exact (congrFun (congrArg Prod.fst hT0) _).symm
    have tnv6 := nrm_d (eI s.heap (fR D s.heap 11 a0 8) (fI D s.heap 11 a0 10).toInt.toNat).toInt
    refine lv_iload_n hx hb dX12_isAt_20 rfl (lv_at hl 1 rfl) ?_
    have r8 := i_rng v6
    refine lv_icmp_lt (tgt := 41) hx hb dX12_isAt_21 (by decide) (fun c7 => ?_) (fun c7 => ?_)
    · have b7 : v6.toInt < x1.toInt := i_lt.mp c7
      refine lv_iconst (v := 0) hx hb dX12_isAt_41 (by decide) ?_
      have k_0 : (0 : Int32).toInt = 0 := by decide
      exact retP_z hQ C hr dX12_isAt_42 (z01 (by omega) (by omega)) (⟨by omega, by omega⟩)
    · have b7 : ¬ v6.toInt < x1.toInt := fun z9 => c7 (i_lt.mpr z9)
      refine lv_aload_n hx hb dX12_isAt_24 rfl (lv_at hl 0 rfl) ?_
      refine q_gr (T := TX12) C hO ga0 8 kF_X12_29 dX12_isAt_25 rfl rfl (by decide) rfl (by decide) rfl (fun g9 => ?_)
      refine lv_aload_n hx hb dX12_isAt_28 rfl (lv_at hl 0 rfl) ?_
      refine q_gi (T := TX12) C hO ga0 10 kF_X12_78 dX12_isAt_29 rfl rfl (by decide) rfl (by decide) rfl ?_
      refine q_bald C hO g9 (by omega) (by omega) dX12_isAt_32 rfl (by decide) ?_
      refine lv_topi (fun v10 ev10 => ?_)
      have tav10 : v10.toInt = (eI s.heap (fR D s.heap 11 a0 8) (fI D s.heap 11 a0 10).toInt.toNat).toInt := by rw [ev10]
      have tvv10 : T.1 (fI D s.heap 11 a0 10).toInt.toNat = nrm (eI s.heap (fR D s.heap 11 a0 8) (fI D s.heap 11 a0 10).toInt.toNat).toInt := by exact (congrFun (congrArg Prod.fst hT0) _).symm
      have tnv10 := nrm_d (eI s.heap (fR D s.heap 11 a0 8) (fI D s.heap 11 a0 10).toInt.toNat).toInt
      refine lv_iload_n hx hb dX12_isAt_33 rfl (lv_at hl 2 rfl) ?_
      have r12 := i_rng v10
      refine lv_icmp_gt (tgt := 41) hx hb dX12_isAt_34 (by decide) (fun c11 => ?_) (fun c11 => ?_)
      · have b11 : x2.toInt < v10.toInt := i_lt.mp c11
        refine lv_iconst (v := 0) hx hb dX12_isAt_41 (by decide) ?_
        have k_0 : (0 : Int32).toInt = 0 := by decide
        exact retP_z hQ C hr dX12_isAt_42 (z01 (by omega) (by omega)) (⟨by omega, by omega⟩)
      · have b11 : ¬ x2.toInt < v10.toInt := fun z9 => c11 (i_lt.mpr z9)
        refine lv_iconst (v := 1) hx hb dX12_isAt_37 (by decide) ?_
        refine lv_goto (tgt := 42) hx hb dX12_isAt_38 (by decide) ?_
        have k_1 : (1 : Int32).toInt = 1 := by decide
        exact retP_z hQ C hr dX12_isAt_42 (z01 (by omega) (by omega)) (⟨by omega, by omega⟩)

set_option maxRecDepth 100000 in
set_option maxHeartbeats 4000000 in
theorem c_X12_blanks_f (l : Launch) (D : DD) (G : Nat → Nat) (a0 : Nat) (T : Tx) (b0 : Nat) (ga0 : G a0 = 30) : CE l D G yX12_blanks cX12_blanks 1 none 1 [.ref a0] (fun H => mT D H a0 = T ∧ (fI D H 11 a0 10).toInt = ((b0 : Nat) : Int)) [(30, 10), (30, 12)] (xV (fun H H1 => ((fI D H 11 a0 10).toInt ≤ (fI D H1 11 a0 10).toInt ∧ (fI D H1 11 a0 12).toInt = (fI D H1 11 a0 10).toInt) ∧ (fI D H1 11 a0 10).toInt = ((sk T b0 : Nat) : Int))) := by
  refine enter (by decide) (Nat.le_of_ble_eq_true rfl) ?_
  intro p e s m args below meth c ls Q hA hQ C hr hO hpre hl
  have hx := C.1
  have hb := C.2.1
  have S : Sd D G [(30, 10), (30, 12)] s.heap s.heap [] := Sd.start hO
  have hl : lv_has ls 1 [(0, .ref a0)] := hl
  have hT0 := hpre.1
  have hp0 := hpre.2
  have Lp0 : ∀ (n : Nat)  (H_0 : Heap) (L_0 : List Loc) (ls : Array Slot), (Sd D G [(30, 10), (30, 12)] s.heap H_0 L_0) → ((fI D s.heap 11 a0 10).toInt ≤ (fI D H_0 11 a0 10).toInt) → ((b0 : Int) ≤ (fI D H_0 11 a0 10).toInt ∧ ∀ i : Nat, b0 ≤ i → (i : Int) < (fI D H_0 11 a0 10).toInt → tbl T i = true) → 401 - (fI D H_0 11 a0 10).toInt ≤ (n : Int) → lv_has ls 1 [(0, .ref a0)] → W p l e (rmU 1 0 0) s m args below meth c H_0 L_0 0 0 Q (F0 m 0 ls []) := by
    intro n
    induction n with
    | zero =>
      intro H_0 L_0 ls S_0 u0_0 u0_1 hn hl
      have rz : 0 ≤ (fI D H_0 11 a0 10).toInt ∧ (fI D H_0 11 a0 10).toInt ≤ 400 := S_0.1.rng ga0 rfl (by decide) rfl
      exact absurd hn (by omega)
    | succ n ih0 =>
      intro H_0 L_0 ls S_0 u0_0 u0_1 hn hl
      refine lv_aload_n hx hb dX12_blanks_0 rfl (lv_at hl 0 rfl) ?_
      refine lv_bipush (v := 32) hx hb dX12_blanks_1 (by decide) ?_
      refine lv_bipush (v := 32) hx hb dX12_blanks_3 (by decide) ?_
      have k_32 : (32 : Int32).toInt = 32 := by decide
      refine callV_Pi C S_0.1 S_0.2.1.2.1 (c_X12_isAt_f l D G a0 (32 : Int32) (32 : Int32) T ga0 (by omega) (by omega)) kV_X12_84 ga0 (((mT_keep hO ga0 S_0.2.1 (by decide) (by decide) (by decide)).trans hT0)) dX12_blanks_5 hl.1 rfl rfl (by decide) cd_X12_isAt ⟨Nat.le_of_ble_eq_true rfl, Nat.le_of_ble_eq_true rfl, Nat.le_of_ble_eq_true rfl, Nat.le_of_ble_eq_true rfl, Nat.le_of_ble_eq_true rfl⟩ (fun v1 q1 => ?_)
      have re : 0 ≤ (fI D H_0 11 a0 11).toInt ∧ (fI D H_0 11 a0 11).toInt ≤ 400 := S_0.1.rng ga0 rfl (by decide) rfl
      have rq : 0 ≤ (fI D H_0 11 a0 10).toInt ∧ (fI D H_0 11 a0 10).toInt ≤ 400 := S_0.1.rng ga0 rfl (by decide) rfl
      have k_0 : (0 : Int32).toInt = 0 := by decide
      refine lv_if_eq (tgt := 24) hx hb dX12_blanks_8 (by decide) (fun c2 => ?_) (fun c2 => ?_)
      · have b2 : v1.toInt = (0 : Int32).toInt := i_eq.mp c2
        have s9 : sk T b0 = (fI D H_0 11 a0 10).toInt.toNat := sk_of (by omega) (fun i h1 h2 => u0_1.2 i h1 (by omega)) (tbl_f.mpr (by omega)) (by omega)
        refine lv_aload_n hx hb dX12_blanks_24 rfl (lv_at hl 0 rfl) ?_
        refine lv_aload_n hx hb dX12_blanks_25 rfl (lv_at hl 0 rfl) ?_
        refine q_gi (T := TX12) C S_0.1 ga0 10 kF_X12_78 dX12_blanks_26 rfl rfl (by decide) rfl (by decide) rfl ?_
        have r3 : 0 ≤ (fI D H_0 11 a0 10).toInt ∧ (fI D H_0 11 a0 10).toInt ≤ 400 := S_0.1.rng ga0 rfl (by decide) rfl
        refine q_put (T := TX12) C S_0 ga0 12 kF_X12_87 dX12_blanks_29 rfl rfl (by decide) (by decide) rfl rfl rfl rfl rfl (vok_i rfl (by omega) (by omega)) (by decide +kernel) (fun H4 L4 S4 P4 => ?_)
        exact retE_v hQ C S4 hr dX12_blanks_32 (⟨by rw [Pt.i P4, Pt.o P4 (by decide) (by decide)]; omega, by rw [Pt.o P4 (by decide) (by decide), s9]; omega⟩)
      · have b2 : ¬ v1.toInt = (0 : Int32).toInt := fun z9 => c2 (i_eq.mpr z9)
        have tq : tbl T (fI D H_0 11 a0 10).toInt.toNat = true := tbl_t.mpr (by omega)
        refine lv_aload_n hx hb dX12_blanks_11 rfl (lv_at hl 0 rfl) ?_
        refine lv_dup hx hb dX12_blanks_12 rfl ?_
        refine q_gi (T := TX12) C S_0.1 ga0 10 kF_X12_78 dX12_blanks_13 rfl rfl (by decide) rfl (by decide) rfl ?_
        have r5 : 0 ≤ (fI D H_0 11 a0 10).toInt ∧ (fI D H_0 11 a0 10).toInt ≤ 400 := S_0.1.rng ga0 rfl (by decide) rfl
        refine lv_iconst (v := 1) hx hb dX12_blanks_16 (by decide) ?_
        have k_1 : (1 : Int32).toInt = 1 := by decide
        refine lv_iadd hx hb dX12_blanks_17 ?_
        refine lv_topi (fun v6 ev6 => ?_)
        have f7 : v6.toInt = (fI D H_0 11 a0 10).toInt + (1 : Int32).toInt := by rw [ev6]; exact i_add (by omega) (by omega)
        refine q_put (T := TX12) C S_0 ga0 10 kF_X12_78 dX12_blanks_18 rfl rfl (by decide) (by decide) rfl rfl rfl rfl rfl (vok_i rfl (by omega) (by omega)) (by decide +kernel) (fun H8 L8 S8 P8 => ?_)
        refine lv_goto (tgt := 0) hx hb dX12_blanks_21 (by decide) ?_
        have bk : (fI D H8 11 a0 10).toInt = _ := congrArg Int32.toInt (Pt.i P8)
        exact ih0  H8 L8 ls S8 (by omega) (⟨by omega, fun i h1 h2 => if h9 : (i : Int) < (fI D H_0 11 a0 10).toInt then u0_1.2 i h1 h9 else by rw [show i = (fI D H_0 11 a0 10).toInt.toNat by omega]; exact tq⟩) (by omega) (lv_sub hl [0] rfl)
  have rn : 0 ≤ (fI D s.heap 11 a0 10).toInt ∧ (fI D s.heap 11 a0 10).toInt ≤ 400 := S.1.rng ga0 rfl (by decide) rfl
  exact Lp0 402  s.heap [] ls S (by omega) (⟨by omega, fun i h1 h2 => by omega⟩)  (by omega) (lv_sub hl [0] rfl)

set_option maxRecDepth 100000 in
set_option maxHeartbeats 4000000 in
theorem c_X12_letters_f (l : Launch) (D : DD) (G : Nat → Nat) (a0 : Nat) (T : Tx) (b : Nat) (ga0 : G a0 = 30) : CE l D G yX12_letters cX12_letters 1 none 2 [.ref a0] (fun H => (True) ∧ (RB D H a0 T b)) [(30, 10), (30, 12)] (xV (fun H H1 => ((fI D H 11 a0 10).toInt ≤ (fI D H1 11 a0 12).toInt ∧ (fI D H1 11 a0 12).toInt ≤ (fI D H1 11 a0 10).toInt) ∧ (LB D H1 a0 T b))) := by
  refine enter (by decide) (Nat.le_of_ble_eq_true rfl) ?_
  intro p e s m args below meth c ls Q hA hQ C hr hO hpre hl
  have hx := C.1
  have hb := C.2.1
  have S : Sd D G [(30, 10), (30, 12)] s.heap s.heap [] := Sd.start hO
  have hl : lv_has ls 1 [(0, .ref a0)] := hl
  obtain ⟨hpre, hf⟩ := hpre
  have ts0 := hf
  have hT : T.2 ≤ 400 := ts0.le hO ga0
  have hT0 := ts0.1
  have skb : sk T b = b := by rw [← ts0.2.2]; exact sk_idem hT
  have bdd : b ≤ T.2 := ts0.bd
  have rp0 : 0 ≤ (fI D s.heap 11 a0 10).toInt ∧ (fI D s.heap 11 a0 10).toInt ≤ 400 := hO.rng ga0 rfl (by decide) rfl
  refine lv_aload_n hx hb dX12_letters_0 rfl (lv_at hl 0 rfl) ?_
  refine callV_Ev C S (c_X12_blanks_f l D G a0 T (fI D s.heap 11 a0 10).toInt.toNat ga0) kV_X12_90 ga0 (⟨ts0.1, by omega⟩) (by decide +kernel) dX12_letters_1 hl.1 rfl rfl (by decide) cd_X12_blanks ⟨Nat.le_of_ble_eq_true rfl, Nat.le_of_ble_eq_true rfl, Nat.le_of_ble_eq_true rfl, Nat.le_of_ble_eq_true rfl, Nat.le_of_ble_eq_true rfl⟩ (fun H1 L1 S1 K1 q1 => ?_)
  have bsk := q1.2
  rw [ts0.2.2] at bsk
  have bq := q1.1
  have Lp4 : ∀ (n : Nat)  (H_4 : Heap) (L_4 : List Loc) (ls : Array Slot), (Sd D G [(30, 10), (30, 12)] s.heap H_4 L_4) → ((fI D s.heap 11 a0 10).toInt ≤ (fI D H_4 11 a0 12).toInt ∧ (fI D H_4 11 a0 12).toInt ≤ (fI D H_4 11 a0 10).toInt) → ((fI D H_4 11 a0 12).toInt = b ∧ (b : Int) ≤ (fI D H_4 11 a0 10).toInt ∧ ∀ i : Nat, b ≤ i → (i : Int) < (fI D H_4 11 a0 10).toInt → tle T i = true) → 401 - (fI D H_4 11 a0 10).toInt ≤ (n : Int) → lv_has ls 1 [(0, .ref a0)] → W p l e (rmU 2 0 0) s m args below meth c H_4 L_4 0 0 Q (F0 m 4 ls []) := by
    intro n
    induction n with
    | zero =>
      intro H_4 L_4 ls S_4 u4_0 u4_1 hn hl
      have rz : 0 ≤ (fI D H_4 11 a0 10).toInt ∧ (fI D H_4 11 a0 10).toInt ≤ 400 := S_4.1.rng ga0 rfl (by decide) rfl
      exact absurd hn (by omega)
    | succ n ih4 =>
      intro H_4 L_4 ls S_4 u4_0 u4_1 hn hl
      have re : 0 ≤ (fI D H_4 11 a0 11).toInt ∧ (fI D H_4 11 a0 11).toInt ≤ 400 := S_4.1.rng ga0 rfl (by decide) rfl
      have rp : 0 ≤ (fI D H_4 11 a0 10).toInt ∧ (fI D H_4 11 a0 10).toInt ≤ 400 := S_4.1.rng ga0 rfl (by decide) rfl
      refine lv_aload_n hx hb dX12_letters_4 rfl (lv_at hl 0 rfl) ?_
      refine lv_bipush (v := 97) hx hb dX12_letters_5 (by decide) ?_
      refine lv_bipush (v := 122) hx hb dX12_letters_7 (by decide) ?_
      have k_97 : (97 : Int32).toInt = 97 := by decide
      have k_122 : (122 : Int32).toInt = 122 := by decide
      refine callV_Pi C S_4.1 S_4.2.1.2.1 (c_X12_isAt_f l D G a0 (97 : Int32) (122 : Int32) T ga0 (by omega) (by omega)) kV_X12_84 ga0 (((mT_keep hO ga0 S_4.2.1 (by decide) (by decide) (by decide)).trans hT0)) dX12_letters_9 hl.1 rfl rfl (by decide) cd_X12_isAt ⟨Nat.le_of_ble_eq_true rfl, Nat.le_of_ble_eq_true rfl, Nat.le_of_ble_eq_true rfl, Nat.le_of_ble_eq_true rfl, Nat.le_of_ble_eq_true rfl⟩ (fun v2 q2 => ?_)
      have re : 0 ≤ (fI D H_4 11 a0 11).toInt ∧ (fI D H_4 11 a0 11).toInt ≤ 400 := S_4.1.rng ga0 rfl (by decide) rfl
      have k_0 : (0 : Int32).toInt = 0 := by decide
      refine lv_if_eq (tgt := 28) hx hb dX12_letters_12 (by decide) (fun c3 => ?_) (fun c3 => ?_)
      · have b3 : v2.toInt = (0 : Int32).toInt := i_eq.mp c3
        exact retE_v hQ C S_4 hr dX12_letters_28 (⟨by omega, by have nl : tle T (fI D H_4 11 a0 10).toInt.toNat = false := tle_f.mpr (by omega); have rf : tle T b = true → rn (tle T) 500 b = (fI D H_4 11 a0 10).toInt.toNat := fun _ => rn_of nl 500 b (by omega) (fun i h1 h2 => u4_1.2.2 i h1 (by omega)) (by omega); have bd9 : (fI D H_4 11 a0 10).toInt.toNat ≤ T.2 := Classical.byContradiction (fun z2 => by have z1 := tle_t.mp (u4_1.2.2 ((fI D H_4 11 a0 10).toInt.toNat - 1) (by omega) (by omega)); omega); exact ⟨((mT_keep hO ga0 S_4.2.1 (by decide) (by decide) (by decide)).trans hT0), ⟨skb, bd9⟩, u4_1.1, fun h9 => by rw [af_w h9, rf (kd_w.mp h9)]; omega, fun h9 => Classical.byContradiction (fun h8 => h9 (kd_w.mpr (u4_1.2.2 b (Nat.le_refl b) (by omega))))⟩⟩)
      · have b3 : ¬ v2.toInt = (0 : Int32).toInt := fun z9 => c3 (i_eq.mpr z9)
        have tq : tle T (fI D H_4 11 a0 10).toInt.toNat = true := tle_t.mpr (by omega)
        refine lv_aload_n hx hb dX12_letters_15 rfl (lv_at hl 0 rfl) ?_
        refine lv_dup hx hb dX12_letters_16 rfl ?_
        refine q_gi (T := TX12) C S_4.1 ga0 10 kF_X12_78 dX12_letters_17 rfl rfl (by decide) rfl (by decide) rfl ?_
        have r4 : 0 ≤ (fI D H_4 11 a0 10).toInt ∧ (fI D H_4 11 a0 10).toInt ≤ 400 := S_4.1.rng ga0 rfl (by decide) rfl
        refine lv_iconst (v := 1) hx hb dX12_letters_20 (by decide) ?_
        have k_1 : (1 : Int32).toInt = 1 := by decide
        refine lv_iadd hx hb dX12_letters_21 ?_
        refine lv_topi (fun v5 ev5 => ?_)
        have f6 : v5.toInt = (fI D H_4 11 a0 10).toInt + (1 : Int32).toInt := by rw [ev5]; exact i_add (by omega) (by omega)
        refine q_put (T := TX12) C S_4 ga0 10 kF_X12_78 dX12_letters_22 rfl rfl (by decide) (by decide) rfl rfl rfl rfl rfl (vok_i rfl (by omega) (by omega)) (by decide +kernel) (fun H7 L7 S7 P7 => ?_)
        have y7_10 : (fI D H7 11 a0 10).toInt = v5.toInt := congrArg Int32.toInt (Pt.i P7)
        have y7_12 : (fI D H7 11 a0 12).toInt = (fI D H_4 11 a0 12).toInt := congrArg Int32.toInt (Pt.o P7 (by decide) (by decide))
        refine lv_goto (tgt := 4) hx hb dX12_letters_25 (by decide) ?_
        exact ih4  H7 L7 ls S7 (by omega) (⟨by omega, by omega, fun i h1 h2 => if h9 : (i : Int) < (fI D H_4 11 a0 10).toInt then u4_1.2.2 i h1 h9 else by rw [show i = (fI D H_4 11 a0 10).toInt.toNat by omega]; exact tq⟩) (by omega) (lv_sub hl [0] rfl)
  have rn : 0 ≤ (fI D H1 11 a0 10).toInt ∧ (fI D H1 11 a0 10).toInt ≤ 400 := S1.1.rng ga0 rfl (by decide) rfl
  exact Lp4 402  H1 L1 ls S1 (by omega) (⟨by omega, by omega, fun i h1 h2 => by omega⟩)  (by omega) (lv_sub hl [0] rfl)


theorem isw_end {x : Int32} {p : Bool} (h : 0 ≤ x.toInt ∧ x.toInt ≤ 1) (h0 : x.toInt = 0 → p = false) (h1 : x.toInt = 1 → p = true) : (x.toInt = 1 ∧ p = true) ∨ (x.toInt = 0 ∧ p = false) := by
  by_cases e : x.toInt = 1
  · exact Or.inl ⟨e, h1 e⟩
  · exact Or.inr ⟨by omega, h0 (by omega)⟩

set_option maxRecDepth 100000 in
set_option maxHeartbeats 4000000 in
theorem c_X12_isWord_f (l : Launch) (D : DD) (G : Nat → Nat) (a0 : Nat) (a1 n1 : Nat) (w : List Nat) (T : Tx) (b : Nat) (ga0 : G a0 = 30) (sa1 : D.1.2 99 a1 = n1 + 1) (hw : Wc D a1 n1 w) (hc : 0 < n1) : CP l D G yX12_isWord cX12_isWord 4 (some .boolean) 4 [.ref a0, .ref a1] (fun H => (True) ∧ (LB D H a0 T b)) (pI (fun H r => ((0 ≤ r.toInt ∧ r.toInt ≤ 1) ∧ (r.toInt = 1 → (fI D H 11 a0 10).toInt - (fI D H 11 a0 12).toInt = n1)) ∧ ((r.toInt = 1 ∧ isW T b w = true) ∨ (r.toInt = 0 ∧ isW T b w = false)))) := by
  refine enter (by decide) (Nat.le_of_ble_eq_true rfl) ?_
  intro p e s m args below meth c ls Q hA hQ C hr hO hpre hl
  have hx := C.1
  have hb := C.2.1
  have hl : lv_has ls 4 [(0, .ref a0), (1, .ref a1)] := hl
  obtain ⟨hpre, hf⟩ := hpre
  have ts0 := hf
  have hT : T.2 ≤ 400 := ts0.le hO ga0
  have hT0 := ts0.1
  have lbb := ts0.2.2.1
  have lb1 := ts0.2.2.2.1
  have lb0 := ts0.2.2.2.2
  have hwl := hw.1
  refine lv_aload_n hx hb dX12_isWord_0 rfl (lv_at hl 0 rfl) ?_
  refine q_gi (T := TX12) C hO ga0 10 kF_X12_78 dX12_isWord_1 rfl rfl (by decide) rfl (by decide) rfl ?_
  have r1 : 0 ≤ (fI D s.heap 11 a0 10).toInt ∧ (fI D s.heap 11 a0 10).toInt ≤ 400 := hO.rng ga0 rfl (by decide) rfl
  refine lv_aload_n hx hb dX12_isWord_4 rfl (lv_at hl 0 rfl) ?_
  refine q_gi (T := TX12) C hO ga0 12 kF_X12_87 dX12_isWord_5 rfl rfl (by decide) rfl (by decide) rfl ?_
  have r2 : 0 ≤ (fI D s.heap 11 a0 12).toInt ∧ (fI D s.heap 11 a0 12).toInt ≤ 400 := hO.rng ga0 rfl (by decide) rfl
  refine lv_isub hx hb dX12_isWord_8 ?_
  refine lv_topi (fun v3 ev3 => ?_)
  have f4 : v3.toInt = (fI D s.heap 11 a0 10).toInt - (fI D s.heap 11 a0 12).toInt := by rw [ev3]; exact i_sub (by omega) (by omega)
  refine lv_aload_n hx hb dX12_isWord_9 rfl (lv_at hl 1 rfl) ?_
  refine callR_Pi C hO (fun _ _ _ => rfl) (c_J0_length_8abf5 l D G a1 n1 sa1) kV_X12_93 (str_recv C (fun _ _ _ => rfl) sa1) (trivial) dX12_isWord_10 hl.1 cd_J0_length_8abf5 ⟨Nat.le_of_ble_eq_true rfl, Nat.le_of_ble_eq_true rfl, Nat.le_of_ble_eq_true rfl, Nat.le_of_ble_eq_true rfl, Nat.le_of_ble_eq_true rfl⟩ (fun v5 q5 => ?_)
  refine lv_icmp_ne (tgt := 20) hx hb dX12_isWord_13 (by decide) (fun c6 => ?_) (fun c6 => ?_)
  · have b6 : ¬ v3.toInt = v5.toInt := fun z9 => c6 (i_eq.mpr z9)
    refine lv_iconst (v := 0) hx hb dX12_isWord_20 (by decide) ?_
    refine lv_istore_n (lv' := [(2, .int (0 : Int32)), (0, .ref a0), (1, .ref a1)]) hx hb dX12_isWord_21 rfl hl (by decide) rfl (fun ls hl => ?_)
    refine lv_iconst (v := 0) hx hb dX12_isWord_22 (by decide) ?_
    refine lv_istore_n (lv' := [(3, .int (0 : Int32)), (2, .int (0 : Int32)), (0, .ref a0), (1, .ref a1)]) hx hb dX12_isWord_23 rfl hl (by decide) rfl (fun ls hl => ?_)
    have Lp24 : ∀ (n : Nat) (x3_24 : Int32) (x2_24 : Int32) (ls : Array Slot), (0 ≤ x3_24.toInt ∧ x3_24.toInt ≤ 400) → (0 ≤ x2_24.toInt ∧ x2_24.toInt ≤ 1) → (x2_24.toInt = 1 → (fI D s.heap 11 a0 10).toInt - (fI D s.heap 11 a0 12).toInt = n1) → ((x2_24.toInt = 1 → ∀ j : Nat, (j : Int) < x3_24.toInt → T.1 (b + j) = ((w.getD j 0 : Nat) : Int)) ∧ (x2_24.toInt = 0 → isW T b w = false)) → 401 - x3_24.toInt ≤ (n : Int) → lv_has ls 4 [(3, .int x3_24), (2, .int x2_24), (0, .ref a0), (1, .ref a1)] → W p l e (rmU 4 0 0) s m args below meth c s.heap [] 0 0 Q (F0 m 24 ls []) := by
      intro n
      induction n with
      | zero =>
        intro x3_24 x2_24 ls j24_0 j24_1 u24_0 u24_1 hn hl
        exact absurd hn (by omega)
      | succ n ih24 =>
        intro x3_24 x2_24 ls j24_0 j24_1 u24_0 u24_1 hn hl
        refine lv_iload_n hx hb dX12_isWord_24 rfl (lv_at hl 1 rfl) ?_
        have k_0 : (0 : Int32).toInt = 0 := by decide
        refine lv_if_eq (tgt := 67) hx hb dX12_isWord_25 (by decide) (fun c7 => ?_) (fun c7 => ?_)
        · have b7 : x2_24.toInt = (0 : Int32).toInt := i_eq.mp c7
          refine lv_iload_n hx hb dX12_isWord_67 rfl (lv_at hl 1 rfl) ?_
          exact retP_z hQ C hr dX12_isWord_68 (z01 (by omega) (by omega)) (⟨by omega, isw_end (by omega) u24_1.2 (fun z9 => by have z8 := u24_0 z9; have z7 : kd T b = 1 := Classical.byContradiction (fun z6 => by have z5 := lb0 z6; omega); have z6 := lb1 z7; exact isW_t.mpr ⟨⟨z7, by omega⟩, eqw_t.mpr (fun j hj => u24_1.1 z9 j (by omega))⟩)⟩)
        · have b7 : ¬ x2_24.toInt = (0 : Int32).toInt := fun z9 => c7 (i_eq.mpr z9)
          refine lv_iload_n hx hb dX12_isWord_28 rfl (lv_at hl 0 rfl) ?_
          refine lv_aload_n hx hb dX12_isWord_29 rfl (lv_at hl 3 rfl) ?_
          refine callR_Pi C hO (fun _ _ _ => rfl) (c_J0_length_8abf5 l D G a1 n1 sa1) kV_X12_93 (str_recv C (fun _ _ _ => rfl) sa1) (trivial) dX12_isWord_30 hl.1 cd_J0_length_8abf5 ⟨Nat.le_of_ble_eq_true rfl, Nat.le_of_ble_eq_true rfl, Nat.le_of_ble_eq_true rfl, Nat.le_of_ble_eq_true rfl, Nat.le_of_ble_eq_true rfl⟩ (fun v8 q8 => ?_)
          have r10 := i_rng v8
          refine lv_icmp_ge (tgt := 67) hx hb dX12_isWord_33 (by decide) (fun c9 => ?_) (fun c9 => ?_)
          · have b9 : v8.toInt ≤ x3_24.toInt := i_le.mp c9
            refine lv_iload_n hx hb dX12_isWord_67 rfl (lv_at hl 1 rfl) ?_
            exact retP_z hQ C hr dX12_isWord_68 (z01 (by omega) (by omega)) (⟨by omega, isw_end (by omega) u24_1.2 (fun z9 => by have z8 := u24_0 z9; have z7 : kd T b = 1 := Classical.byContradiction (fun z6 => by have z5 := lb0 z6; omega); have z6 := lb1 z7; exact isW_t.mpr ⟨⟨z7, by omega⟩, eqw_t.mpr (fun j hj => u24_1.1 z9 j (by omega))⟩)⟩)
          · have b9 : ¬ v8.toInt ≤ x3_24.toInt := fun z9 => c9 (i_le.mpr z9)
            refine lv_aload_n hx hb dX12_isWord_36 rfl (lv_at hl 2 rfl) ?_
            refine q_gr (T := TX12) C hO ga0 8 kF_X12_29 dX12_isWord_37 rfl rfl (by decide) rfl (by decide) rfl (fun g11 => ?_)
            refine lv_aload_n hx hb dX12_isWord_40 rfl (lv_at hl 2 rfl) ?_
            refine q_gi (T := TX12) C hO ga0 12 kF_X12_87 dX12_isWord_41 rfl rfl (by decide) rfl (by decide) rfl ?_
            refine lv_iload_n hx hb dX12_isWord_44 rfl (lv_at hl 0 rfl) ?_
            refine lv_iadd hx hb dX12_isWord_45 ?_
            refine lv_topi (fun v12 ev12 => ?_)
            have f13 : v12.toInt = (fI D s.heap 11 a0 12).toInt + x3_24.toInt := by rw [ev12]; exact i_add (by omega) (by omega)
            have n14 : aN s.heap (fR D s.heap 11 a0 8) = 400 := len_36 hO g11
            refine q_bald C hO g11 (by omega) (by omega) dX12_isWord_46 rfl (by decide) ?_
            refine lv_topi (fun v15 ev15 => ?_)
            have ta9 : v15.toInt = (eI s.heap (fR D s.heap 11 a0 8) v12.toInt.toNat).toInt := by rw [ev15]
            have tv9 : T.1 (b + x3_24.toInt.toNat) = nrm (eI s.heap (fR D s.heap 11 a0 8) v12.toInt.toNat).toInt := by rw [show b + x3_24.toInt.toNat = v12.toInt.toNat by omega]; exact (congrFun (congrArg Prod.fst hT0) _).symm
            have tn9 := nrm_d (eI s.heap (fR D s.heap 11 a0 8) v12.toInt.toNat).toInt
            refine lv_aload_n hx hb dX12_isWord_47 rfl (lv_at hl 3 rfl) ?_
            refine lv_iload_n hx hb dX12_isWord_48 rfl (lv_at hl 0 rfl) ?_
            refine callR_Pi C hO (fun _ _ _ => rfl) (c_J0_charAt_5068e l D G a1 n1 x3_24 sa1 (by omega)) kV_X12_98 (str_recv C (fun _ _ _ => rfl) sa1) (trivial) dX12_isWord_49 hl.1 cd_J0_charAt_5068e ⟨Nat.le_of_ble_eq_true rfl, Nat.le_of_ble_eq_true rfl, Nat.le_of_ble_eq_true rfl, Nat.le_of_ble_eq_true rfl, Nat.le_of_ble_eq_true rfl⟩ (fun v16 q16 => ?_)
            have cw := hw.2 x3_24.toInt.toNat (by omega)
            rw [cw.1] at q16
            refine lv_icmp_ne (tgt := 59) hx hb dX12_isWord_52 (by decide) (fun c17 => ?_) (fun c17 => ?_)
            · have b17 : ¬ v15.toInt = v16.toInt := fun z9 => c17 (i_eq.mpr z9)
              refine lv_iconst (v := 0) hx hb dX12_isWord_59 (by decide) ?_
              refine lv_istore_n (lv' := [(2, .int (0 : Int32)), (3, .int x3_24), (0, .ref a0), (1, .ref a1)]) hx hb dX12_isWord_60 rfl hl (by decide) rfl (fun ls hl => ?_)
              obtain ⟨v18, ev18⟩ : ∃ y : Int32, y = x3_24 + (1) := ⟨_, rfl⟩
              have k_1 : (1 : Int32).toInt = 1 := by decide
              have f19 : v18.toInt = x3_24.toInt + (1) := by rw [ev18]; exact i_addc k_1 (by omega) (by omega)
              refine lv_iinc (v := v18) (lv' := [(3, .int v18), (2, .int (0 : Int32)), (0, .ref a0), (1, .ref a1)]) hx hb dX12_isWord_61 hl (k := 1) rfl (by rw [ev18]; rfl) (by decide) rfl (fun ls hl => ?_)
              refine lv_goto (tgt := 24) hx hb dX12_isWord_64 (by decide) ?_
              exact ih24 v18 (0 : Int32) ls (by omega) (by omega) (by omega) (⟨fun h9 => absurd h9 (by omega), fun _ => Bool.eq_false_iff.mpr (fun z9 => by have z8 := eqw_t.mp (isW_t.mp z9).2 x3_24.toInt.toNat (by omega); omega)⟩) (by omega) (lv_sub hl [0, 1, 2, 3] rfl)
            · have b17 : v15.toInt = v16.toInt := i_eq.mp c17
              refine lv_iconst (v := 1) hx hb dX12_isWord_55 (by decide) ?_
              refine lv_goto (tgt := 60) hx hb dX12_isWord_56 (by decide) ?_
              refine lv_istore_n (lv' := [(2, .int (1 : Int32)), (3, .int x3_24), (0, .ref a0), (1, .ref a1)]) hx hb dX12_isWord_60 rfl hl (by decide) rfl (fun ls hl => ?_)
              obtain ⟨v20, ev20⟩ : ∃ y : Int32, y = x3_24 + (1) := ⟨_, rfl⟩
              have k_1 : (1 : Int32).toInt = 1 := by decide
              have f21 : v20.toInt = x3_24.toInt + (1) := by rw [ev20]; exact i_addc k_1 (by omega) (by omega)
              refine lv_iinc (v := v20) (lv' := [(3, .int v20), (2, .int (1 : Int32)), (0, .ref a0), (1, .ref a1)]) hx hb dX12_isWord_61 hl (k := 1) rfl (by rw [ev20]; rfl) (by decide) rfl (fun ls hl => ?_)
              refine lv_goto (tgt := 24) hx hb dX12_isWord_64 (by decide) ?_
              exact ih24 v20 (1 : Int32) ls (by omega) (by omega) (by omega) (⟨fun _ j hj => if h9 : (j : Int) < x3_24.toInt then u24_1.1 (by omega) j h9 else by rw [show j = x3_24.toInt.toNat by omega]; omega, fun h9 => absurd h9 (by omega)⟩) (by omega) (lv_sub hl [0, 1, 2, 3] rfl)
    have k_0 : (0 : Int32).toInt = 0 := by decide
    exact Lp24 401 (0 : Int32) (0 : Int32) ls (by omega) (by omega) (by omega) (⟨fun h9 => absurd h9 (by omega), fun _ => Bool.eq_false_iff.mpr (fun z9 => by have z8 := (isW_t.mp z9).1; have z7 := lb1 z8.1; omega)⟩)  (by omega) (lv_sub hl [0, 1, 2, 3] rfl)
  · have b6 : v3.toInt = v5.toInt := i_eq.mp c6
    refine lv_iconst (v := 1) hx hb dX12_isWord_16 (by decide) ?_
    refine lv_goto (tgt := 21) hx hb dX12_isWord_17 (by decide) ?_
    refine lv_istore_n (lv' := [(2, .int (1 : Int32)), (0, .ref a0), (1, .ref a1)]) hx hb dX12_isWord_21 rfl hl (by decide) rfl (fun ls hl => ?_)
    refine lv_iconst (v := 0) hx hb dX12_isWord_22 (by decide) ?_
    refine lv_istore_n (lv' := [(3, .int (0 : Int32)), (2, .int (1 : Int32)), (0, .ref a0), (1, .ref a1)]) hx hb dX12_isWord_23 rfl hl (by decide) rfl (fun ls hl => ?_)
    have Lp24 : ∀ (n : Nat) (x3_24 : Int32) (x2_24 : Int32) (ls : Array Slot), (0 ≤ x3_24.toInt ∧ x3_24.toInt ≤ 400) → (0 ≤ x2_24.toInt ∧ x2_24.toInt ≤ 1) → (x2_24.toInt = 1 → (fI D s.heap 11 a0 10).toInt - (fI D s.heap 11 a0 12).toInt = n1) → ((x2_24.toInt = 1 → ∀ j : Nat, (j : Int) < x3_24.toInt → T.1 (b + j) = ((w.getD j 0 : Nat) : Int)) ∧ (x2_24.toInt = 0 → isW T b w = false)) → 401 - x3_24.toInt ≤ (n : Int) → lv_has ls 4 [(3, .int x3_24), (2, .int x2_24), (0, .ref a0), (1, .ref a1)] → W p l e (rmU 4 0 0) s m args below meth c s.heap [] 0 0 Q (F0 m 24 ls []) := by
      intro n
      induction n with
      | zero =>
        intro x3_24 x2_24 ls j24_0 j24_1 u24_0 u24_1 hn hl
        exact absurd hn (by omega)
      | succ n ih24 =>
        intro x3_24 x2_24 ls j24_0 j24_1 u24_0 u24_1 hn hl
        refine lv_iload_n hx hb dX12_isWord_24 rfl (lv_at hl 1 rfl) ?_
        have k_0 : (0 : Int32).toInt = 0 := by decide
        refine lv_if_eq (tgt := 67) hx hb dX12_isWord_25 (by decide) (fun c22 => ?_) (fun c22 => ?_)
        · have b22 : x2_24.toInt = (0 : Int32).toInt := i_eq.mp c22
          refine lv_iload_n hx hb dX12_isWord_67 rfl (lv_at hl 1 rfl) ?_
          exact retP_z hQ C hr dX12_isWord_68 (z01 (by omega) (by omega)) (⟨by omega, isw_end (by omega) u24_1.2 (fun z9 => by have z8 := u24_0 z9; have z7 : kd T b = 1 := Classical.byContradiction (fun z6 => by have z5 := lb0 z6; omega); have z6 := lb1 z7; exact isW_t.mpr ⟨⟨z7, by omega⟩, eqw_t.mpr (fun j hj => u24_1.1 z9 j (by omega))⟩)⟩)
        · have b22 : ¬ x2_24.toInt = (0 : Int32).toInt := fun z9 => c22 (i_eq.mpr z9)
          refine lv_iload_n hx hb dX12_isWord_28 rfl (lv_at hl 0 rfl) ?_
          refine lv_aload_n hx hb dX12_isWord_29 rfl (lv_at hl 3 rfl) ?_
          refine callR_Pi C hO (fun _ _ _ => rfl) (c_J0_length_8abf5 l D G a1 n1 sa1) kV_X12_93 (str_recv C (fun _ _ _ => rfl) sa1) (trivial) dX12_isWord_30 hl.1 cd_J0_length_8abf5 ⟨Nat.le_of_ble_eq_true rfl, Nat.le_of_ble_eq_true rfl, Nat.le_of_ble_eq_true rfl, Nat.le_of_ble_eq_true rfl, Nat.le_of_ble_eq_true rfl⟩ (fun v23 q23 => ?_)
          have r25 := i_rng v23
          refine lv_icmp_ge (tgt := 67) hx hb dX12_isWord_33 (by decide) (fun c24 => ?_) (fun c24 => ?_)
          · have b24 : v23.toInt ≤ x3_24.toInt := i_le.mp c24
            refine lv_iload_n hx hb dX12_isWord_67 rfl (lv_at hl 1 rfl) ?_
            exact retP_z hQ C hr dX12_isWord_68 (z01 (by omega) (by omega)) (⟨by omega, isw_end (by omega) u24_1.2 (fun z9 => by have z8 := u24_0 z9; have z7 : kd T b = 1 := Classical.byContradiction (fun z6 => by have z5 := lb0 z6; omega); have z6 := lb1 z7; exact isW_t.mpr ⟨⟨z7, by omega⟩, eqw_t.mpr (fun j hj => u24_1.1 z9 j (by omega))⟩)⟩)
          · have b24 : ¬ v23.toInt ≤ x3_24.toInt := fun z9 => c24 (i_le.mpr z9)
            refine lv_aload_n hx hb dX12_isWord_36 rfl (lv_at hl 2 rfl) ?_
            refine q_gr (T := TX12) C hO ga0 8 kF_X12_29 dX12_isWord_37 rfl rfl (by decide) rfl (by decide) rfl (fun g26 => ?_)
            refine lv_aload_n hx hb dX12_isWord_40 rfl (lv_at hl 2 rfl) ?_
            refine q_gi (T := TX12) C hO ga0 12 kF_X12_87 dX12_isWord_41 rfl rfl (by decide) rfl (by decide) rfl ?_
            refine lv_iload_n hx hb dX12_isWord_44 rfl (lv_at hl 0 rfl) ?_
            refine lv_iadd hx hb dX12_isWord_45 ?_
            refine lv_topi (fun v27 ev27 => ?_)
            have f28 : v27.toInt = (fI D s.heap 11 a0 12).toInt + x3_24.toInt := by rw [ev27]; exact i_add (by omega) (by omega)
            have n29 : aN s.heap (fR D s.heap 11 a0 8) = 400 := len_36 hO g26
            refine q_bald C hO g26 (by omega) (by omega) dX12_isWord_46 rfl (by decide) ?_
            refine lv_topi (fun v30 ev30 => ?_)
            have ta9 : v30.toInt = (eI s.heap (fR D s.heap 11 a0 8) v27.toInt.toNat).toInt := by rw [ev30]
            have tv9 : T.1 (b + x3_24.toInt.toNat) = nrm (eI s.heap (fR D s.heap 11 a0 8) v27.toInt.toNat).toInt := by rw [show b + x3_24.toInt.toNat = v27.toInt.toNat by omega]; exact (congrFun (congrArg Prod.fst hT0) _).symm
            have tn9 := nrm_d (eI s.heap (fR D s.heap 11 a0 8) v27.toInt.toNat).toInt
            refine lv_aload_n hx hb dX12_isWord_47 rfl (lv_at hl 3 rfl) ?_
            refine lv_iload_n hx hb dX12_isWord_48 rfl (lv_at hl 0 rfl) ?_
            refine callR_Pi C hO (fun _ _ _ => rfl) (c_J0_charAt_5068e l D G a1 n1 x3_24 sa1 (by omega)) kV_X12_98 (str_recv C (fun _ _ _ => rfl) sa1) (trivial) dX12_isWord_49 hl.1 cd_J0_charAt_5068e ⟨Nat.le_of_ble_eq_true rfl, Nat.le_of_ble_eq_true rfl, Nat.le_of_ble_eq_true rfl, Nat.le_of_ble_eq_true rfl, Nat.le_of_ble_eq_true rfl⟩ (fun v31 q31 => ?_)
            have cw := hw.2 x3_24.toInt.toNat (by omega)
            rw [cw.1] at q31
            refine lv_icmp_ne (tgt := 59) hx hb dX12_isWord_52 (by decide) (fun c32 => ?_) (fun c32 => ?_)
            · have b32 : ¬ v30.toInt = v31.toInt := fun z9 => c32 (i_eq.mpr z9)
              refine lv_iconst (v := 0) hx hb dX12_isWord_59 (by decide) ?_
              refine lv_istore_n (lv' := [(2, .int (0 : Int32)), (3, .int x3_24), (0, .ref a0), (1, .ref a1)]) hx hb dX12_isWord_60 rfl hl (by decide) rfl (fun ls hl => ?_)
              obtain ⟨v33, ev33⟩ : ∃ y : Int32, y = x3_24 + (1) := ⟨_, rfl⟩
              have k_1 : (1 : Int32).toInt = 1 := by decide
              have f34 : v33.toInt = x3_24.toInt + (1) := by rw [ev33]; exact i_addc k_1 (by omega) (by omega)
              refine lv_iinc (v := v33) (lv' := [(3, .int v33), (2, .int (0 : Int32)), (0, .ref a0), (1, .ref a1)]) hx hb dX12_isWord_61 hl (k := 1) rfl (by rw [ev33]; rfl) (by decide) rfl (fun ls hl => ?_)
              refine lv_goto (tgt := 24) hx hb dX12_isWord_64 (by decide) ?_
              exact ih24 v33 (0 : Int32) ls (by omega) (by omega) (by omega) (⟨fun h9 => absurd h9 (by omega), fun _ => Bool.eq_false_iff.mpr (fun z9 => by have z8 := eqw_t.mp (isW_t.mp z9).2 x3_24.toInt.toNat (by omega); omega)⟩) (by omega) (lv_sub hl [0, 1, 2, 3] rfl)
            · have b32 : v30.toInt = v31.toInt := i_eq.mp c32
              refine lv_iconst (v := 1) hx hb dX12_isWord_55 (by decide) ?_
              refine lv_goto (tgt := 60) hx hb dX12_isWord_56 (by decide) ?_
              refine lv_istore_n (lv' := [(2, .int (1 : Int32)), (3, .int x3_24), (0, .ref a0), (1, .ref a1)]) hx hb dX12_isWord_60 rfl hl (by decide) rfl (fun ls hl => ?_)
              obtain ⟨v35, ev35⟩ : ∃ y : Int32, y = x3_24 + (1) := ⟨_, rfl⟩
              have k_1 : (1 : Int32).toInt = 1 := by decide
              have f36 : v35.toInt = x3_24.toInt + (1) := by rw [ev35]; exact i_addc k_1 (by omega) (by omega)
              refine lv_iinc (v := v35) (lv' := [(3, .int v35), (2, .int (1 : Int32)), (0, .ref a0), (1, .ref a1)]) hx hb dX12_isWord_61 hl (k := 1) rfl (by rw [ev35]; rfl) (by decide) rfl (fun ls hl => ?_)
              refine lv_goto (tgt := 24) hx hb dX12_isWord_64 (by decide) ?_
              exact ih24 v35 (1 : Int32) ls (by omega) (by omega) (by omega) (⟨fun _ j hj => if h9 : (j : Int) < x3_24.toInt then u24_1.1 (by omega) j h9 else by rw [show j = x3_24.toInt.toNat by omega]; omega, fun h9 => absurd h9 (by omega)⟩) (by omega) (lv_sub hl [0, 1, 2, 3] rfl)
    have k_0 : (0 : Int32).toInt = 0 := by decide
    have k_1 : (1 : Int32).toInt = 1 := by decide
    exact Lp24 401 (0 : Int32) (1 : Int32) ls (by omega) (by omega) (by omega) (⟨fun _ j hj => absurd hj (by omega), fun h9 => absurd h9 (by omega)⟩)  (by omega) (lv_sub hl [0, 1, 2, 3] rfl)


theorem rb_put {D : DD} {G : Nat → Nat} {H H1 : Heap} {a b : Nat} {T : Tx} (hO : Ok D G H) (ga : G a = 30) (h : LB D H a T b) (P : Pt D H H1 11 18 a 10 (.int (fI D H 11 a 12))) : RB D H1 a T b := by
  have hb : (fI D H1 11 a 10).toInt = b := by rw [Pt.i P]; exact h.2.2.1
  exact ⟨(mT_put hO ga P (by decide) (by decide)).trans h.1, by rw [hb]; exact h.bd, by rw [hb]; exact h.2.1.1⟩
theorem rb_at {D : DD} {H : Heap} {a b c : Nat} {T : Tx} (h : mT D H a = T) (hp : (fI D H 11 a 10).toInt = ((c : Nat) : Int)) (hc : c ≤ T.2) (hs : sk T c = b) : RB D H a T b := ⟨h, by rw [hp]; exact hc, by rw [hp]; exact hs⟩

set_option maxRecDepth 100000 in
set_option maxHeartbeats 4000000 in
theorem c_X12_passes_f (l : Launch) (D : DD) (G : Nat → Nat) (a0 : Nat) (a1 n1 : Nat) (w : List Nat) (T : Tx) (b : Nat) (ga0 : G a0 = 30) (sa1 : D.1.2 99 a1 = n1 + 1) (hw : Wc D a1 n1 w) (hc : 0 < n1) : CE l D G yX12_passes cX12_passes 2 (some .boolean) 5 [.ref a0, .ref a1] (fun H => (True) ∧ (RB D H a0 T b)) [(30, 10), (30, 12)] (xI (fun H r H1 => ((r.toInt = 1 ∧ (fI D H 11 a0 10).toInt + n1 ≤ (fI D H1 11 a0 10).toInt) ∨ (r.toInt = 0 ∧ (fI D H 11 a0 10).toInt ≤ (fI D H1 11 a0 10).toInt)) ∧ ((r.toInt = 1 ∧ isW T b w = true ∧ RB D H1 a0 T (nx T b) ∧ (fI D H1 11 a0 12).toInt = ((b : Nat) : Int)) ∨ (r.toInt = 0 ∧ isW T b w = false ∧ RB D H1 a0 T b ∧ (fI D H1 11 a0 12).toInt = ((b : Nat) : Int))))) := by
  refine enter (by decide) (Nat.le_of_ble_eq_true rfl) ?_
  intro p e s m args below meth c ls Q hA hQ C hr hO hpre hl
  have hx := C.1
  have hb := C.2.1
  have S : Sd D G [(30, 10), (30, 12)] s.heap s.heap [] := Sd.start hO
  have hl : lv_has ls 2 [(0, .ref a0), (1, .ref a1)] := hl
  obtain ⟨hpre, hf⟩ := hpre
  have ts0 := hf
  have hT : T.2 ≤ 400 := ts0.le hO ga0
  refine lv_aload_n hx hb dX12_passes_0 rfl (lv_at hl 0 rfl) ?_
  refine callV_Ev C S (c_X12_letters_f l D G a0 T b ga0) kV_X12_102 ga0 (⟨trivial, ts0⟩) (by decide +kernel) dX12_passes_1 hl.1 rfl rfl (by decide) cd_X12_letters ⟨Nat.le_of_ble_eq_true rfl, Nat.le_of_ble_eq_true rfl, Nat.le_of_ble_eq_true rfl, Nat.le_of_ble_eq_true rfl, Nat.le_of_ble_eq_true rfl⟩ (fun H1 L1 S1 K1 q1 => ?_)
  obtain ⟨q1, fq1⟩ := q1
  refine lv_aload_n hx hb dX12_passes_4 rfl (lv_at hl 0 rfl) ?_
  refine lv_aload_n hx hb dX12_passes_5 rfl (lv_at hl 1 rfl) ?_
  refine callV_Pi C S1.1 S1.2.1.2.1 (c_X12_isWord_f l D G a0 a1 n1 w T b ga0 sa1 hw hc) kV_X12_105 ga0 (⟨trivial, fq1⟩) dX12_passes_6 hl.1 rfl rfl (by decide) cd_X12_isWord ⟨Nat.le_of_ble_eq_true rfl, Nat.le_of_ble_eq_true rfl, Nat.le_of_ble_eq_true rfl, Nat.le_of_ble_eq_true rfl, Nat.le_of_ble_eq_true rfl⟩ (fun v2 q2 => ?_)
  obtain ⟨q2, fq2⟩ := q2
  rcases fq2 with ⟨z2, y2⟩ | ⟨z2, y2⟩
  · skip
    have k_0 : (0 : Int32).toInt = 0 := by decide
    refine lv_if_eq (tgt := 14) hx hb dX12_passes_9 (by decide) (fun c3 => ?_) (fun c3 => ?_)
    · have b3 : v2.toInt = (0 : Int32).toInt := i_eq.mp c3
      exact absurd b3 (by omega)
    · have b3 : ¬ v2.toInt = (0 : Int32).toInt := fun z9 => c3 (i_eq.mpr z9)
      refine lv_iconst (v := 1) hx hb dX12_passes_12 (by decide) ?_
      have k_1 : (1 : Int32).toInt = 1 := by decide
      exact retE_z hQ C S1 hr dX12_passes_13 (z01 (by omega) (by omega)) (⟨by omega, Or.inl ⟨by omega, y2, fq1.rb1 (isW_k y2), fq1.2.2.1⟩⟩)
  · skip
    have k_0 : (0 : Int32).toInt = 0 := by decide
    refine lv_if_eq (tgt := 14) hx hb dX12_passes_9 (by decide) (fun c4 => ?_) (fun c4 => ?_)
    · have b4 : v2.toInt = (0 : Int32).toInt := i_eq.mp c4
      refine lv_aload_n hx hb dX12_passes_14 rfl (lv_at hl 0 rfl) ?_
      refine lv_aload_n hx hb dX12_passes_15 rfl (lv_at hl 0 rfl) ?_
      refine q_gi (T := TX12) C S1.1 ga0 12 kF_X12_87 dX12_passes_16 rfl rfl (by decide) rfl (by decide) rfl ?_
      have r5 : 0 ≤ (fI D H1 11 a0 12).toInt ∧ (fI D H1 11 a0 12).toInt ≤ 400 := S1.1.rng ga0 rfl (by decide) rfl
      refine q_put (T := TX12) C S1 ga0 10 kF_X12_78 dX12_passes_19 rfl rfl (by decide) (by decide) rfl rfl rfl rfl rfl (vok_i rfl (by omega) (by omega)) (by decide +kernel) (fun H6 L6 S6 P6 => ?_)
      have y6_10 : (fI D H6 11 a0 10).toInt = (fI D H1 11 a0 12).toInt := congrArg Int32.toInt (Pt.i P6)
      have y6_12 : (fI D H6 11 a0 12).toInt = (fI D H1 11 a0 12).toInt := congrArg Int32.toInt (Pt.o P6 (by decide) (by decide))
      refine lv_iconst (v := 0) hx hb dX12_passes_22 (by decide) ?_
      exact retE_z hQ C S6 hr dX12_passes_23 (z01 (by omega) (by omega)) (⟨by omega, Or.inr ⟨by omega, y2, rb_put S1.1 ga0 fq1 P6, by rw [Pt.o P6 (by decide) (by decide)]; exact fq1.2.2.1⟩⟩)
    · have b4 : ¬ v2.toInt = (0 : Int32).toInt := fun z9 => c4 (i_eq.mpr z9)
      exact absurd b4 (by omega)

set_option maxRecDepth 100000 in
set_option maxHeartbeats 4000000 in
theorem c_X12_sign_f (l : Launch) (D : DD) (G : Nat → Nat) (a0 : Nat) (x1 : Int32) (ch : Int) (T : Tx) (b : Nat) (ga0 : G a0 = 30) (hch : x1.toInt = ch) (hc : sgn ch) : CE l D G yX12_sign cX12_sign 2 (some .boolean) 2 [.ref a0, .int x1] (fun H => (True) ∧ (RB D H a0 T b)) [(30, 10), (30, 12)] (xI (fun H r H1 => ((r.toInt = 1 ∧ (fI D H 11 a0 10).toInt < (fI D H1 11 a0 10).toInt) ∨ (r.toInt = 0 ∧ (fI D H 11 a0 10).toInt ≤ (fI D H1 11 a0 10).toInt)) ∧ ((r.toInt = 1 ∧ isS T b ch = true ∧ RB D H1 a0 T (nx T b) ∧ (fI D H1 11 a0 12).toInt = ((b : Nat) : Int)) ∨ (r.toInt = 0 ∧ isS T b ch = false ∧ RB D H1 a0 T b ∧ (fI D H1 11 a0 12).toInt = ((b : Nat) : Int))))) := by
  refine enter (by decide) (Nat.le_of_ble_eq_true rfl) ?_
  intro p e s m args below meth c ls Q hA hQ C hr hO hpre hl
  have hx := C.1
  have hb := C.2.1
  have S : Sd D G [(30, 10), (30, 12)] s.heap s.heap [] := Sd.start hO
  have hl : lv_has ls 2 [(0, .ref a0), (1, .int x1)] := hl
  obtain ⟨hpre, hf⟩ := hpre
  have ts0 := hf
  have hT : T.2 ≤ 400 := ts0.le hO ga0
  have hT0 := ts0.1
  have skb : sk T b = b := by rw [← ts0.2.2]; exact sk_idem hT
  have bdd : b ≤ T.2 := ts0.bd
  have rp0 : 0 ≤ (fI D s.heap 11 a0 10).toInt ∧ (fI D s.heap 11 a0 10).toInt ≤ 400 := hO.rng ga0 rfl (by decide) rfl
  have z7 : 0 ≤ ch ∧ ch ≤ 127 := hc.1
  refine lv_aload_n hx hb dX12_sign_0 rfl (lv_at hl 0 rfl) ?_
  refine callV_Ev C S (c_X12_blanks_f l D G a0 T (fI D s.heap 11 a0 10).toInt.toNat ga0) kV_X12_90 ga0 (⟨ts0.1, by omega⟩) (by decide +kernel) dX12_sign_1 hl.1 rfl rfl (by decide) cd_X12_blanks ⟨Nat.le_of_ble_eq_true rfl, Nat.le_of_ble_eq_true rfl, Nat.le_of_ble_eq_true rfl, Nat.le_of_ble_eq_true rfl, Nat.le_of_ble_eq_true rfl⟩ (fun H1 L1 S1 K1 q1 => ?_)
  have bsk := q1.2
  rw [ts0.2.2] at bsk
  have bq := q1.1
  refine lv_aload_n hx hb dX12_sign_4 rfl (lv_at hl 0 rfl) ?_
  refine lv_iload_n hx hb dX12_sign_5 rfl (lv_at hl 1 rfl) ?_
  refine lv_iload_n hx hb dX12_sign_6 rfl (lv_at hl 1 rfl) ?_
  refine callV_Pi C S1.1 S1.2.1.2.1 (c_X12_isAt_f l D G a0 x1 x1 T ga0 (by omega) (by omega)) kV_X12_84 ga0 (((mT_keep hO ga0 S1.2.1 (by decide) (by decide) (by decide)).trans hT0)) dX12_sign_7 hl.1 rfl rfl (by decide) cd_X12_isAt ⟨Nat.le_of_ble_eq_true rfl, Nat.le_of_ble_eq_true rfl, Nat.le_of_ble_eq_true rfl, Nat.le_of_ble_eq_true rfl, Nat.le_of_ble_eq_true rfl⟩ (fun v2 q2 => ?_)
  have re : 0 ≤ (fI D H1 11 a0 11).toInt ∧ (fI D H1 11 a0 11).toInt ≤ 400 := S1.1.rng ga0 rfl (by decide) rfl
  have nb9 : ((fI D H1 11 a0 10).toInt).toNat = b := by omega
  rw [nb9] at q2
  have k_0 : (0 : Int32).toInt = 0 := by decide
  refine lv_if_ne (tgt := 15) hx hb dX12_sign_10 (by decide) (fun c3 => ?_) (fun c3 => ?_)
  · have b3 : ¬ v2.toInt = (0 : Int32).toInt := fun z9 => c3 (i_eq.mpr z9)
    have yS : isS T b ch = true := isS_t.mpr (by omega)
    refine lv_aload_n hx hb dX12_sign_15 rfl (lv_at hl 0 rfl) ?_
    refine lv_dup hx hb dX12_sign_16 rfl ?_
    refine q_gi (T := TX12) C S1.1 ga0 10 kF_X12_78 dX12_sign_17 rfl rfl (by decide) rfl (by decide) rfl ?_
    have r4 : 0 ≤ (fI D H1 11 a0 10).toInt ∧ (fI D H1 11 a0 10).toInt ≤ 400 := S1.1.rng ga0 rfl (by decide) rfl
    refine lv_iconst (v := 1) hx hb dX12_sign_20 (by decide) ?_
    have k_1 : (1 : Int32).toInt = 1 := by decide
    refine lv_iadd hx hb dX12_sign_21 ?_
    refine lv_topi (fun v5 ev5 => ?_)
    have f6 : v5.toInt = (fI D H1 11 a0 10).toInt + (1 : Int32).toInt := by rw [ev5]; exact i_add (by omega) (by omega)
    refine q_put (T := TX12) C S1 ga0 10 kF_X12_78 dX12_sign_22 rfl rfl (by decide) (by decide) rfl rfl rfl rfl rfl (vok_i rfl (by omega) (by omega)) (by decide +kernel) (fun H7 L7 S7 P7 => ?_)
    refine lv_iconst (v := 1) hx hb dX12_sign_25 (by decide) ?_
    exact retE_z hQ C S7 hr dX12_sign_26 (z01 (by omega) (by omega)) (⟨by rw [Pt.i P7]; omega, by have ks : kd T b = 3 := isS_k hc yS; exact Or.inl ⟨by omega, yS, rb_at ((mT_keep hO ga0 S7.2.1 (by decide) (by decide) (by decide)).trans hT0) (c := b + 1) (by rw [Pt.i P7]; omega) (by have z5 := isS_b yS; omega) (by unfold nx; rw [af_s ks]), by rw [Pt.o P7 (by decide) (by decide)]; omega⟩⟩)
  · have b3 : v2.toInt = (0 : Int32).toInt := i_eq.mp c3
    refine lv_iconst (v := 0) hx hb dX12_sign_13 (by decide) ?_
    exact retE_z hQ C S1 hr dX12_sign_14 (z01 (by omega) (by omega)) (⟨by omega, Or.inr ⟨by omega, isS_f.mpr (fun z9 => by omega), rb_at ((mT_keep hO ga0 S1.2.1 (by decide) (by decide) (by decide)).trans hT0) (c := b) (by omega) bdd skb, by omega⟩⟩)


/-- the number as the reference reads it: three digits, and no more -/
def nvm (T : Tx) (b k : Nat) : Int := dc T b (min k 3)
theorem nvm_s {T : Tx} {b k : Nat} (h : k ≤ 3) : nvk T b k = nvm T b k := by
  unfold nvk nvm
  rw [if_pos h, Nat.min_eq_left h]
theorem nvm_k {T : Tx} {b k : Nat} : nvk T b k = if k ≤ 3 then nvm T b k else 1000 := by
  by_cases h : k ≤ 3
  · rw [if_pos h]; exact nvm_s h
  · unfold nvk; rw [if_neg h, if_neg h]
theorem nvm_1 {T : Tx} {b k : Nat} {v d : Int} (hk : k < 3) (hv : v = nvm T b k) (hd : T.1 (b + k) = d) : 10 * v + d - 48 = nvm T b (k + 1) := by
  unfold nvm at hv ⊢
  rw [Nat.min_eq_left (by omega)] at hv ⊢
  show _ = dc T b k * 10 + (T.1 (b + k) - 48)
  rw [hv, hd]
  omega
theorem nvm_2 {T : Tx} {b k : Nat} {v : Int} (hk : 3 ≤ k) (hv : v = nvm T b k) : v = nvm T b (k + 1) := by
  unfold nvm at hv ⊢
  rw [Nat.min_eq_right (by omega)] at hv ⊢
  exact hv
theorem nvm_r {T : Tx} {b k : Nat} (h : ∀ i, b ≤ i → i < b + k → tdi T i = true) : 0 ≤ nvm T b k ∧ nvm T b k ≤ 999 ∧ (k ≤ 2 → nvm T b k ≤ 99) := by
  unfold nvm
  have h2 := dc_r (T := T) (b := b) (min k 3) (fun j hj => (tdi_t.mp (h (b + j) (by omega) (by omega))).2) (by omega)
  exact ⟨h2.1, h2.2.1, fun h3 => h2.2.2.1 (by omega)⟩

set_option maxRecDepth 100000 in
set_option maxHeartbeats 4000000 in
theorem c_X12_number_f (l : Launch) (D : DD) (G : Nat → Nat) (a0 : Nat) (x1 : Int32) (x2 : Int32) (lo : Int) (hi : Int) (T : Tx) (b : Nat) (ga0 : G a0 = 30) (ix1 : 0 ≤ x1.toInt ∧ x1.toInt ≤ 1000) (hlo : x1.toInt = lo) (hhi : x2.toInt = hi) (h999 : x2.toInt ≤ 999) : CE l D G yX12_number cX12_number 4 (some .int) 2 [.ref a0, .int x1, .int x2] (fun H => (True) ∧ (RB D H a0 T b)) [(30, 10), (30, 12)] (xI (fun H r H1 => ((fI D H 11 a0 10).toInt ≤ (fI D H1 11 a0 10).toInt ∧ (r.toInt = -1 ∨ (x1.toInt ≤ r.toInt ∧ r.toInt ≤ x2.toInt ∧ (fI D H 11 a0 10).toInt < (fI D H1 11 a0 10).toInt))) ∧ ((r.toInt = num T b lo hi ∧ num T b lo hi ≠ -1 ∧ RB D H1 a0 T (nx T b) ∧ (fI D H1 11 a0 12).toInt = ((b : Nat) : Int)) ∨ (r.toInt = -1 ∧ num T b lo hi = -1 ∧ (fI D H1 11 a0 12).toInt = ((b : Nat) : Int))))) := by
  refine enter (by decide) (Nat.le_of_ble_eq_true rfl) ?_
  intro p e s m args below meth c ls Q hA hQ C hr hO hpre hl
  have hx := C.1
  have hb := C.2.1
  have S : Sd D G [(30, 10), (30, 12)] s.heap s.heap [] := Sd.start hO
  have hl : lv_has ls 4 [(0, .ref a0), (1, .int x1), (2, .int x2)] := hl
  obtain ⟨hpre, hf⟩ := hpre
  have ts0 := hf
  have hT : T.2 ≤ 400 := ts0.le hO ga0
  have hT0 := ts0.1
  have skb : sk T b = b := by rw [← ts0.2.2]; exact sk_idem hT
  have bdd : b ≤ T.2 := ts0.bd
  have rp0 : 0 ≤ (fI D s.heap 11 a0 10).toInt ∧ (fI D s.heap 11 a0 10).toInt ≤ 400 := hO.rng ga0 rfl (by decide) rfl
  refine lv_aload_n hx hb dX12_number_0 rfl (lv_at hl 0 rfl) ?_
  refine callV_Ev C S (c_X12_blanks_f l D G a0 T (fI D s.heap 11 a0 10).toInt.toNat ga0) kV_X12_90 ga0 (⟨ts0.1, by omega⟩) (by decide +kernel) dX12_number_1 hl.1 rfl rfl (by decide) cd_X12_blanks ⟨Nat.le_of_ble_eq_true rfl, Nat.le_of_ble_eq_true rfl, Nat.le_of_ble_eq_true rfl, Nat.le_of_ble_eq_true rfl, Nat.le_of_ble_eq_true rfl⟩ (fun H1 L1 S1 K1 q1 => ?_)
  have bsk := q1.2
  rw [ts0.2.2] at bsk
  have bq := q1.1
  refine lv_iconst (v := 0) hx hb dX12_number_4 (by decide) ?_
  refine lv_istore_n (lv' := [(3, .int (0 : Int32)), (0, .ref a0), (1, .int x1), (2, .int x2)]) hx hb dX12_number_5 rfl hl (by decide) rfl (fun ls hl => ?_)
  have Lp6 : ∀ (n : Nat) (x3_6 : Int32) (H_6 : Heap) (L_6 : List Loc) (ls : Array Slot), (Sd D G [(30, 10), (30, 12)] s.heap H_6 L_6) → ((fI D s.heap 11 a0 10).toInt ≤ (fI D H_6 11 a0 12).toInt ∧ (fI D H_6 11 a0 12).toInt ≤ (fI D H_6 11 a0 10).toInt) → ((fI D H_6 11 a0 12).toInt = b ∧ x3_6.toInt = nvm T b ((fI D H_6 11 a0 10).toInt.toNat - b) ∧ (b : Int) ≤ (fI D H_6 11 a0 10).toInt ∧ ∀ i : Nat, b ≤ i → (i : Int) < (fI D H_6 11 a0 10).toInt → tdi T i = true) → 401 - (fI D H_6 11 a0 10).toInt ≤ (n : Int) → lv_has ls 4 [(3, .int x3_6), (0, .ref a0), (1, .int x1), (2, .int x2)] → W p l e (rmU 2 0 0) s m args below meth c H_6 L_6 0 0 Q (F0 m 6 ls []) := by
    intro n
    induction n with
    | zero =>
      intro x3_6 H_6 L_6 ls S_6 u6_0 u6_1 hn hl
      have rz : 0 ≤ (fI D H_6 11 a0 10).toInt ∧ (fI D H_6 11 a0 10).toInt ≤ 400 := S_6.1.rng ga0 rfl (by decide) rfl
      exact absurd hn (by omega)
    | succ n ih6 =>
      intro x3_6 H_6 L_6 ls S_6 u6_0 u6_1 hn hl
      have re : 0 ≤ (fI D H_6 11 a0 11).toInt ∧ (fI D H_6 11 a0 11).toInt ≤ 400 := S_6.1.rng ga0 rfl (by decide) rfl
      have rp : 0 ≤ (fI D H_6 11 a0 10).toInt ∧ (fI D H_6 11 a0 10).toInt ≤ 400 := S_6.1.rng ga0 rfl (by decide) rfl
      refine lv_aload_n hx hb dX12_number_6 rfl (lv_at hl 1 rfl) ?_
      refine lv_bipush (v := 48) hx hb dX12_number_7 (by decide) ?_
      refine lv_bipush (v := 57) hx hb dX12_number_9 (by decide) ?_
      have k_48 : (48 : Int32).toInt = 48 := by decide
      have k_57 : (57 : Int32).toInt = 57 := by decide
      refine callV_Pi C S_6.1 S_6.2.1.2.1 (c_X12_isAt_f l D G a0 (48 : Int32) (57 : Int32) T ga0 (by omega) (by omega)) kV_X12_84 ga0 (((mT_keep hO ga0 S_6.2.1 (by decide) (by decide) (by decide)).trans hT0)) dX12_number_11 hl.1 rfl rfl (by decide) cd_X12_isAt ⟨Nat.le_of_ble_eq_true rfl, Nat.le_of_ble_eq_true rfl, Nat.le_of_ble_eq_true rfl, Nat.le_of_ble_eq_true rfl, Nat.le_of_ble_eq_true rfl⟩ (fun v2 q2 => ?_)
      have re : 0 ≤ (fI D H_6 11 a0 11).toInt ∧ (fI D H_6 11 a0 11).toInt ≤ 400 := S_6.1.rng ga0 rfl (by decide) rfl
      have k_0 : (0 : Int32).toInt = 0 := by decide
      refine lv_if_eq (tgt := 65) hx hb dX12_number_14 (by decide) (fun c3 => ?_) (fun c3 => ?_)
      · have b3 : v2.toInt = (0 : Int32).toInt := i_eq.mp c3
        refine lv_aload_n hx hb dX12_number_65 rfl (lv_at hl 1 rfl) ?_
        refine q_gi (T := TX12) C S_6.1 ga0 10 kF_X12_78 dX12_number_66 rfl rfl (by decide) rfl (by decide) rfl ?_
        have r4 : 0 ≤ (fI D H_6 11 a0 10).toInt ∧ (fI D H_6 11 a0 10).toInt ≤ 400 := S_6.1.rng ga0 rfl (by decide) rfl
        refine lv_aload_n hx hb dX12_number_69 rfl (lv_at hl 1 rfl) ?_
        refine q_gi (T := TX12) C S_6.1 ga0 12 kF_X12_87 dX12_number_70 rfl rfl (by decide) rfl (by decide) rfl ?_
        have r5 : 0 ≤ (fI D H_6 11 a0 12).toInt ∧ (fI D H_6 11 a0 12).toInt ≤ 400 := S_6.1.rng ga0 rfl (by decide) rfl
        refine lv_icmp_eq (tgt := 99) hx hb dX12_number_73 (by decide) (fun c6 => ?_) (fun c6 => ?_)
        · have b6 : (fI D H_6 11 a0 10).toInt = (fI D H_6 11 a0 12).toInt := i_eq.mp c6
          refine lv_iconst (v := -1) hx hb dX12_number_99 (by decide) ?_
          refine lv_goto (tgt := 104) hx hb dX12_number_100 (by decide) ?_
          have k_m1 : (-1 : Int32).toInt = -1 := by decide
          exact retE_i hQ C S_6 hr dX12_number_104 (⟨by omega, by have nl : tdi T (fI D H_6 11 a0 10).toInt.toNat = false := tdi_f.mpr (by omega); have rf : tdi T b = true → rn (tdi T) 500 b = (fI D H_6 11 a0 10).toInt.toNat := fun _ => rn_of nl 500 b (by omega) (fun i h1 h2 => u6_1.2.2.2 i h1 (by omega)) (by omega); exact Or.inr ⟨by omega, if_neg (fun z9 => by have z8 := rf (kd_n.mp z9.1); have z7 := af_n z9.1; have z6 := nv_k (z7.trans z8); have z5 := af_lt (T := T) (b := b) (by omega); have z4 := u6_1.2.1; have z3 : nvk T b ((fI D H_6 11 a0 10).toInt.toNat - b) = if (fI D H_6 11 a0 10).toInt.toNat - b ≤ 3 then nvm T b ((fI D H_6 11 a0 10).toInt.toNat - b) else 1000 := nvm_k; split at z3 <;> omega), by omega⟩⟩)
        · have b6 : ¬ (fI D H_6 11 a0 10).toInt = (fI D H_6 11 a0 12).toInt := fun z9 => c6 (i_eq.mpr z9)
          refine lv_aload_n hx hb dX12_number_76 rfl (lv_at hl 1 rfl) ?_
          refine q_gi (T := TX12) C S_6.1 ga0 10 kF_X12_78 dX12_number_77 rfl rfl (by decide) rfl (by decide) rfl ?_
          refine lv_aload_n hx hb dX12_number_80 rfl (lv_at hl 1 rfl) ?_
          refine q_gi (T := TX12) C S_6.1 ga0 12 kF_X12_87 dX12_number_81 rfl rfl (by decide) rfl (by decide) rfl ?_
          refine lv_isub hx hb dX12_number_84 ?_
          refine lv_topi (fun v7 ev7 => ?_)
          have f8 : v7.toInt = (fI D H_6 11 a0 10).toInt - (fI D H_6 11 a0 12).toInt := by rw [ev7]; exact i_sub (by omega) (by omega)
          refine lv_iconst (v := 3) hx hb dX12_number_85 (by decide) ?_
          have k_3 : (3 : Int32).toInt = 3 := by decide
          refine lv_icmp_gt (tgt := 99) hx hb dX12_number_86 (by decide) (fun c9 => ?_) (fun c9 => ?_)
          · have b9 : (3 : Int32).toInt < v7.toInt := i_lt.mp c9
            refine lv_iconst (v := -1) hx hb dX12_number_99 (by decide) ?_
            refine lv_goto (tgt := 104) hx hb dX12_number_100 (by decide) ?_
            have k_m1 : (-1 : Int32).toInt = -1 := by decide
            exact retE_i hQ C S_6 hr dX12_number_104 (⟨by omega, by have nl : tdi T (fI D H_6 11 a0 10).toInt.toNat = false := tdi_f.mpr (by omega); have rf : tdi T b = true → rn (tdi T) 500 b = (fI D H_6 11 a0 10).toInt.toNat := fun _ => rn_of nl 500 b (by omega) (fun i h1 h2 => u6_1.2.2.2 i h1 (by omega)) (by omega); exact Or.inr ⟨by omega, if_neg (fun z9 => by have z8 := rf (kd_n.mp z9.1); have z7 := af_n z9.1; have z6 := nv_k (z7.trans z8); have z5 := af_lt (T := T) (b := b) (by omega); have z4 := u6_1.2.1; have z3 : nvk T b ((fI D H_6 11 a0 10).toInt.toNat - b) = if (fI D H_6 11 a0 10).toInt.toNat - b ≤ 3 then nvm T b ((fI D H_6 11 a0 10).toInt.toNat - b) else 1000 := nvm_k; split at z3 <;> omega), by omega⟩⟩)
          · have b9 : ¬ (3 : Int32).toInt < v7.toInt := fun z9 => c9 (i_lt.mpr z9)
            refine lv_iload_n hx hb dX12_number_89 rfl (lv_at hl 0 rfl) ?_
            refine lv_iload_n hx hb dX12_number_90 rfl (lv_at hl 2 rfl) ?_
            have r11 := i_rng x3_6
            refine lv_icmp_lt (tgt := 99) hx hb dX12_number_91 (by decide) (fun c10 => ?_) (fun c10 => ?_)
            · have b10 : x3_6.toInt < x1.toInt := i_lt.mp c10
              refine lv_iconst (v := -1) hx hb dX12_number_99 (by decide) ?_
              refine lv_goto (tgt := 104) hx hb dX12_number_100 (by decide) ?_
              have k_m1 : (-1 : Int32).toInt = -1 := by decide
              exact retE_i hQ C S_6 hr dX12_number_104 (⟨by omega, by have nl : tdi T (fI D H_6 11 a0 10).toInt.toNat = false := tdi_f.mpr (by omega); have rf : tdi T b = true → rn (tdi T) 500 b = (fI D H_6 11 a0 10).toInt.toNat := fun _ => rn_of nl 500 b (by omega) (fun i h1 h2 => u6_1.2.2.2 i h1 (by omega)) (by omega); exact Or.inr ⟨by omega, if_neg (fun z9 => by have z8 := rf (kd_n.mp z9.1); have z7 := af_n z9.1; have z6 := nv_k (z7.trans z8); have z5 := af_lt (T := T) (b := b) (by omega); have z4 := u6_1.2.1; have z3 : nvk T b ((fI D H_6 11 a0 10).toInt.toNat - b) = if (fI D H_6 11 a0 10).toInt.toNat - b ≤ 3 then nvm T b ((fI D H_6 11 a0 10).toInt.toNat - b) else 1000 := nvm_k; split at z3 <;> omega), by omega⟩⟩)
            · have b10 : ¬ x3_6.toInt < x1.toInt := fun z9 => c10 (i_lt.mpr z9)
              refine lv_iload_n hx hb dX12_number_94 rfl (lv_at hl 0 rfl) ?_
              refine lv_iload_n hx hb dX12_number_95 rfl (lv_at hl 3 rfl) ?_
              have r13 := i_rng x2
              refine lv_icmp_le (tgt := 103) hx hb dX12_number_96 (by decide) (fun c12 => ?_) (fun c12 => ?_)
              · have b12 : x3_6.toInt ≤ x2.toInt := i_le.mp c12
                refine lv_iload_n hx hb dX12_number_103 rfl (lv_at hl 0 rfl) ?_
                exact retE_i hQ C S_6 hr dX12_number_104 (⟨by omega, by have nl : tdi T (fI D H_6 11 a0 10).toInt.toNat = false := tdi_f.mpr (by omega); have rf : tdi T b = true → rn (tdi T) 500 b = (fI D H_6 11 a0 10).toInt.toNat := fun _ => rn_of nl 500 b (by omega) (fun i h1 h2 => u6_1.2.2.2 i h1 (by omega)) (by omega); have kn : tdi T b = true := u6_1.2.2.2 b (Nat.le_refl b) (by omega); have kk9 := kd_n.mpr kn; have z8 := rf kn; have z7 := (af_n kk9).trans z8; have z6 := nv_k z7; have z5 : nvk T b ((fI D H_6 11 a0 10).toInt.toNat - b) = nvm T b ((fI D H_6 11 a0 10).toInt.toNat - b) := nvm_s (by omega); have z4 := u6_1.2.1; have z3 : num T b lo hi = nv T b := if_pos ⟨kk9, by omega, by omega⟩; exact Or.inl ⟨by omega, by omega, rb_at ((mT_keep hO ga0 S_6.2.1 (by decide) (by decide) (by decide)).trans hT0) (c := (fI D H_6 11 a0 10).toInt.toNat) (by omega) (by have z2 := tdi_t.mp (u6_1.2.2.2 ((fI D H_6 11 a0 10).toInt.toNat - 1) (by omega) (by omega)); omega) (by unfold nx; rw [z7]), u6_1.1⟩⟩)
              · have b12 : ¬ x3_6.toInt ≤ x2.toInt := fun z9 => c12 (i_le.mpr z9)
                refine lv_iconst (v := -1) hx hb dX12_number_99 (by decide) ?_
                refine lv_goto (tgt := 104) hx hb dX12_number_100 (by decide) ?_
                have k_m1 : (-1 : Int32).toInt = -1 := by decide
                exact retE_i hQ C S_6 hr dX12_number_104 (⟨by omega, by have nl : tdi T (fI D H_6 11 a0 10).toInt.toNat = false := tdi_f.mpr (by omega); have rf : tdi T b = true → rn (tdi T) 500 b = (fI D H_6 11 a0 10).toInt.toNat := fun _ => rn_of nl 500 b (by omega) (fun i h1 h2 => u6_1.2.2.2 i h1 (by omega)) (by omega); exact Or.inr ⟨by omega, if_neg (fun z9 => by have z8 := rf (kd_n.mp z9.1); have z7 := af_n z9.1; have z6 := nv_k (z7.trans z8); have z5 := af_lt (T := T) (b := b) (by omega); have z4 := u6_1.2.1; have z3 : nvk T b ((fI D H_6 11 a0 10).toInt.toNat - b) = if (fI D H_6 11 a0 10).toInt.toNat - b ≤ 3 then nvm T b ((fI D H_6 11 a0 10).toInt.toNat - b) else 1000 := nvm_k; split at z3 <;> omega), by omega⟩⟩)
      · have b3 : ¬ v2.toInt = (0 : Int32).toInt := fun z9 => c3 (i_eq.mpr z9)
        have tq : tdi T (fI D H_6 11 a0 10).toInt.toNat = true := tdi_t.mpr (by omega)
        refine lv_aload_n hx hb dX12_number_17 rfl (lv_at hl 1 rfl) ?_
        refine q_gi (T := TX12) C S_6.1 ga0 10 kF_X12_78 dX12_number_18 rfl rfl (by decide) rfl (by decide) rfl ?_
        have r14 : 0 ≤ (fI D H_6 11 a0 10).toInt ∧ (fI D H_6 11 a0 10).toInt ≤ 400 := S_6.1.rng ga0 rfl (by decide) rfl
        refine lv_aload_n hx hb dX12_number_21 rfl (lv_at hl 1 rfl) ?_
        refine q_gi (T := TX12) C S_6.1 ga0 12 kF_X12_87 dX12_number_22 rfl rfl (by decide) rfl (by decide) rfl ?_
        have r15 : 0 ≤ (fI D H_6 11 a0 12).toInt ∧ (fI D H_6 11 a0 12).toInt ≤ 400 := S_6.1.rng ga0 rfl (by decide) rfl
        refine lv_isub hx hb dX12_number_25 ?_
        refine lv_topi (fun v16 ev16 => ?_)
        have f17 : v16.toInt = (fI D H_6 11 a0 10).toInt - (fI D H_6 11 a0 12).toInt := by rw [ev16]; exact i_sub (by omega) (by omega)
        refine lv_iconst (v := 3) hx hb dX12_number_26 (by decide) ?_
        have k_3 : (3 : Int32).toInt = 3 := by decide
        refine lv_icmp_ge (tgt := 50) hx hb dX12_number_27 (by decide) (fun c18 => ?_) (fun c18 => ?_)
        · have b18 : (3 : Int32).toInt ≤ v16.toInt := i_le.mp c18
          refine lv_iload_n hx hb dX12_number_50 rfl (lv_at hl 0 rfl) ?_
          refine lv_istore_n (lv' := [(3, .int x3_6), (0, .ref a0), (1, .int x1), (2, .int x2)]) hx hb dX12_number_51 rfl hl (by decide) rfl (fun ls hl => ?_)
          refine lv_aload_n hx hb dX12_number_52 rfl (lv_at hl 1 rfl) ?_
          refine lv_dup hx hb dX12_number_53 rfl ?_
          refine q_gi (T := TX12) C S_6.1 ga0 10 kF_X12_78 dX12_number_54 rfl rfl (by decide) rfl (by decide) rfl ?_
          refine lv_iconst (v := 1) hx hb dX12_number_57 (by decide) ?_
          have k_1 : (1 : Int32).toInt = 1 := by decide
          refine lv_iadd hx hb dX12_number_58 ?_
          refine lv_topi (fun v19 ev19 => ?_)
          have f20 : v19.toInt = (fI D H_6 11 a0 10).toInt + (1 : Int32).toInt := by rw [ev19]; exact i_add (by omega) (by omega)
          refine q_put (T := TX12) C S_6 ga0 10 kF_X12_78 dX12_number_59 rfl rfl (by decide) (by decide) rfl rfl rfl rfl rfl (vok_i rfl (by omega) (by omega)) (by decide +kernel) (fun H21 L21 S21 P21 => ?_)
          have y21_10 : (fI D H21 11 a0 10).toInt = v19.toInt := congrArg Int32.toInt (Pt.i P21)
          have y21_12 : (fI D H21 11 a0 12).toInt = (fI D H_6 11 a0 12).toInt := congrArg Int32.toInt (Pt.o P21 (by decide) (by decide))
          refine lv_goto (tgt := 6) hx hb dX12_number_62 (by decide) ?_
          exact ih6 x3_6 H21 L21 ls S21 (by omega) (⟨by rw [Pt.o P21 (by decide) (by decide)]; exact u6_1.1, by rw [show (fI D H21 11 a0 10).toInt.toNat - b = ((fI D H_6 11 a0 10).toInt.toNat - b) + 1 by omega]; first | (rw [← nvm_1 (k := (fI D H_6 11 a0 10).toInt.toNat - b) (by omega) u6_1.2.1 (show T.1 (b + ((fI D H_6 11 a0 10).toInt.toNat - b)) = _ from (congrArg T.1 (by omega)).trans td)]; omega) | exact nvm_2 (by omega) u6_1.2.1, by omega, fun i h1 h2 => if h9 : (i : Int) < (fI D H_6 11 a0 10).toInt then u6_1.2.2.2 i h1 h9 else by rw [show i = (fI D H_6 11 a0 10).toInt.toNat by omega]; exact tq⟩) (by omega) (lv_sub hl [0, 1, 2, 3] rfl)
        · have b18 : ¬ (3 : Int32).toInt ≤ v16.toInt := fun z9 => c18 (i_le.mpr z9)
          have vr : 0 ≤ x3_6.toInt ∧ x3_6.toInt ≤ 99 := by rw [u6_1.2.1]; have z9 := nvm_r (T := T) (b := b) (k := (fI D H_6 11 a0 10).toInt.toNat - b) (fun i h1 h2 => u6_1.2.2.2 i h1 (by omega)); exact ⟨z9.1, z9.2.2 (by omega)⟩
          refine lv_bipush (v := 10) hx hb dX12_number_30 (by decide) ?_
          refine lv_iload_n hx hb dX12_number_32 rfl (lv_at hl 0 rfl) ?_
          have k_10 : (10 : Int32).toInt = 10 := by decide
          refine lv_imul hx hb dX12_number_33 ?_
          refine lv_topi (fun v22 ev22 => ?_)
          have f23 : v22.toInt = (10) * x3_6.toInt := by rw [ev22]; exact i_cmul k_10 (by omega) (by omega)
          refine lv_aload_n hx hb dX12_number_34 rfl (lv_at hl 1 rfl) ?_
          refine q_gr (T := TX12) C S_6.1 ga0 8 kF_X12_29 dX12_number_35 rfl rfl (by decide) rfl (by decide) rfl (fun g24 => ?_)
          refine lv_aload_n hx hb dX12_number_38 rfl (lv_at hl 1 rfl) ?_
          refine q_gi (T := TX12) C S_6.1 ga0 10 kF_X12_78 dX12_number_39 rfl rfl (by decide) rfl (by decide) rfl ?_
          have n25 : aN H_6 (fR D H_6 11 a0 8) = 400 := len_36 S_6.1 g24
          refine q_bald C S_6.1 g24 (by omega) (by omega) dX12_number_42 rfl (by decide) ?_
          refine lv_topi (fun v26 ev26 => ?_)
          have tav26 : v26.toInt = (eI H_6 (fR D H_6 11 a0 8) (fI D H_6 11 a0 10).toInt.toNat).toInt := by rw [ev26]
          have tvv26 : T.1 (fI D H_6 11 a0 10).toInt.toNat = nrm (eI H_6 (fR D H_6 11 a0 8) (fI D H_6 11 a0 10).toInt.toNat).toInt := by exact (congrFun (congrArg Prod.fst ((mT_keep hO ga0 S_6.2.1 (by decide) (by decide) (by decide)).trans hT0)) _).symm
          have tnv26 := nrm_d (eI H_6 (fR D H_6 11 a0 8) (fI D H_6 11 a0 10).toInt.toNat).toInt
          have wv26 : 48 ≤ v26.toInt ∧ v26.toInt ≤ 57 := by omega
          have td : T.1 (fI D H_6 11 a0 10).toInt.toNat = v26.toInt := by omega
          refine lv_iadd hx hb dX12_number_43 ?_
          refine lv_topi (fun v27 ev27 => ?_)
          have f28 : v27.toInt = v22.toInt + v26.toInt := by rw [ev27]; exact i_add (by omega) (by omega)
          refine lv_bipush (v := 48) hx hb dX12_number_44 (by decide) ?_
          refine lv_isub hx hb dX12_number_46 ?_
          refine lv_topi (fun v29 ev29 => ?_)
          have f30 : v29.toInt = v27.toInt - (48 : Int32).toInt := by rw [ev29]; exact i_sub (by omega) (by omega)
          refine lv_goto (tgt := 51) hx hb dX12_number_47 (by decide) ?_
          refine lv_istore_n (lv' := [(3, .int v29), (0, .ref a0), (1, .int x1), (2, .int x2)]) hx hb dX12_number_51 rfl hl (by decide) rfl (fun ls hl => ?_)
          refine lv_aload_n hx hb dX12_number_52 rfl (lv_at hl 1 rfl) ?_
          refine lv_dup hx hb dX12_number_53 rfl ?_
          refine q_gi (T := TX12) C S_6.1 ga0 10 kF_X12_78 dX12_number_54 rfl rfl (by decide) rfl (by decide) rfl ?_
          refine lv_iconst (v := 1) hx hb dX12_number_57 (by decide) ?_
          have k_1 : (1 : Int32).toInt = 1 := by decide
          refine lv_iadd hx hb dX12_number_58 ?_
          refine lv_topi (fun v31 ev31 => ?_)
          have f32 : v31.toInt = (fI D H_6 11 a0 10).toInt + (1 : Int32).toInt := by rw [ev31]; exact i_add (by omega) (by omega)
          refine q_put (T := TX12) C S_6 ga0 10 kF_X12_78 dX12_number_59 rfl rfl (by decide) (by decide) rfl rfl rfl rfl rfl (vok_i rfl (by omega) (by omega)) (by decide +kernel) (fun H33 L33 S33 P33 => ?_)
          have y33_10 : (fI D H33 11 a0 10).toInt = v31.toInt := congrArg Int32.toInt (Pt.i P33)
          have y33_12 : (fI D H33 11 a0 12).toInt = (fI D H_6 11 a0 12).toInt := congrArg Int32.toInt (Pt.o P33 (by decide) (by decide))
          refine lv_goto (tgt := 6) hx hb dX12_number_62 (by decide) ?_
          exact ih6 v29 H33 L33 ls S33 (by omega) (⟨by rw [Pt.o P33 (by decide) (by decide)]; exact u6_1.1, by rw [show (fI D H33 11 a0 10).toInt.toNat - b = ((fI D H_6 11 a0 10).toInt.toNat - b) + 1 by omega]; first | (rw [← nvm_1 (k := (fI D H_6 11 a0 10).toInt.toNat - b) (by omega) u6_1.2.1 (show T.1 (b + ((fI D H_6 11 a0 10).toInt.toNat - b)) = _ from (congrArg T.1 (by omega)).trans td)]; omega) | exact nvm_2 (by omega) u6_1.2.1, by omega, fun i h1 h2 => if h9 : (i : Int) < (fI D H_6 11 a0 10).toInt then u6_1.2.2.2 i h1 h9 else by rw [show i = (fI D H_6 11 a0 10).toInt.toNat by omega]; exact tq⟩) (by omega) (lv_sub hl [0, 1, 2, 3] rfl)
  have k_0 : (0 : Int32).toInt = 0 := by decide
  have rn : 0 ≤ (fI D H1 11 a0 10).toInt ∧ (fI D H1 11 a0 10).toInt ≤ 400 := S1.1.rng ga0 rfl (by decide) rfl
  exact Lp6 402 (0 : Int32) H1 L1 ls S1 (by omega) (⟨by omega, by rw [show (fI D H1 11 a0 10).toInt.toNat - b = 0 by omega]; (show (0 : Int32).toInt = 0); decide, by omega, fun i h1 h2 => by omega⟩)  (by omega) (lv_sub hl [0, 1, 2, 3] rfl)

set_option maxRecDepth 100000 in
set_option maxHeartbeats 4000000 in
theorem c_X12_feed_f (l : Launch) (D : DD) (G : Nat → Nat) (a0 : Nat) (x1 : Int32) (x2 : Int32) (x3 : Int32) (x4 : Int32) (x5 : Int32) (ga0 : G a0 = 30) : CE l D G yX12_feed cX12_feed 7 (some .int) 0 [.ref a0, .int x1, .int x2, .int x3, .int x4, .int x5] (fun _ => True) [(30, 0), (30, 9), (36, 0), (37, 0)] (xI (fun H r H1 => (((fI D H 11 a0 9).toInt ≤ 380 ∧ r.toInt = (fI D H 11 a0 9).toInt + 20 ∧ (fI D H1 11 a0 9).toInt = (fI D H 11 a0 9).toInt + 20) ∨ (380 < (fI D H 11 a0 9).toInt ∧ r.toInt = -1 ∧ (fI D H1 11 a0 9).toInt = (fI D H 11 a0 9).toInt)) ∧ ((fI D H 11 a0 9).toInt ≤ 380 → ∀ i : Nat, nrm (eI H1 (fR D H1 11 a0 8) i).toInt = if (fI D H 11 a0 9).toInt.toNat ≤ i ∧ i < (fI D H 11 a0 9).toInt.toNat + 20 then nrm (fb (pk5 x1 x2 x3 x4 x5 ((i - (fI D H 11 a0 9).toInt.toNat) / 4)) ((i - (fI D H 11 a0 9).toInt.toNat) % 4)) else nrm (eI H (fR D H 11 a0 8) i).toInt) ∧ (380 < (fI D H 11 a0 9).toInt → ∀ i : Nat, nrm (eI H1 (fR D H1 11 a0 8) i).toInt = nrm (eI H (fR D H 11 a0 8) i).toInt))) := by
  refine enter (by decide) (Nat.le_of_ble_eq_true rfl) ?_
  intro p e s m args below meth c ls Q hA hQ C hr hO hpre hl
  have hx := C.1
  have hb := C.2.1
  have S : Sd D G [(30, 0), (30, 9), (36, 0), (37, 0)] s.heap s.heap [] := Sd.start hO
  have hl : lv_has ls 7 [(0, .ref a0), (1, .int x1), (2, .int x2), (3, .int x3), (4, .int x4), (5, .int x5)] := hl
  have rt0 : 0 ≤ (fI D s.heap 11 a0 9).toInt ∧ (fI D s.heap 11 a0 9).toInt ≤ 400 := hO.rng ga0 rfl (by decide) rfl
  refine lv_aload_n hx hb dX12_feed_0 rfl (lv_at hl 0 rfl) ?_
  refine lv_iconst (v := 0) hx hb dX12_feed_1 (by decide) ?_
  have k_0 : (0 : Int32).toInt = 0 := by decide
  refine q_put (T := TX12) C S ga0 0 kF_X12_3 dX12_feed_2 rfl rfl (by decide) (by decide) rfl rfl rfl rfl rfl (vok_a rfl) (by decide +kernel) (fun H1 L1 S1 P1 => ?_)
  have mb0 : ∀ i : Nat, nrm (eI H1 (fR D H1 11 a0 8) i).toInt = nrm (eI s.heap (fR D s.heap 11 a0 8) i).toInt := fun i => by rw [Pt.or P1 (by decide) (by decide), Pt.e P1 (ne_role (hO.rol ga0 rfl (by decide) rfl) ga0 (by decide))]
  refine lv_aload_n hx hb dX12_feed_5 rfl (lv_at hl 0 rfl) ?_
  refine q_gi (T := TX12) C S1.1 ga0 9 kF_X12_75 dX12_feed_6 rfl rfl (by decide) rfl (by decide) rfl ?_
  have c2 : (fI D H1 11 a0 9).toInt = (fI D s.heap 11 a0 9).toInt := by rw [Pt.o P1 (by decide) (by decide)]
  have r3 : 0 ≤ (fI D H1 11 a0 9).toInt ∧ (fI D H1 11 a0 9).toInt ≤ 400 := S1.1.rng ga0 rfl (by decide) rfl
  refine lv_bipush (v := 20) hx hb dX12_feed_9 (by decide) ?_
  have k_20 : (20 : Int32).toInt = 20 := by decide
  refine lv_iadd hx hb dX12_feed_11 ?_
  refine lv_topi (fun v4 ev4 => ?_)
  have f5 : v4.toInt = (fI D H1 11 a0 9).toInt + (20 : Int32).toInt := by rw [ev4]; exact i_add (by omega) (by omega)
  refine lv_sipush (v := 400) hx hb dX12_feed_12 (by decide) ?_
  have k_400 : (400 : Int32).toInt = 400 := by decide
  refine lv_icmp_le (tgt := 20) hx hb dX12_feed_15 (by decide) (fun c6 => ?_) (fun c6 => ?_)
  · have b6 : v4.toInt ≤ (400 : Int32).toInt := i_le.mp c6
    refine lv_aload_n hx hb dX12_feed_20 rfl (lv_at hl 0 rfl) ?_
    refine q_gr (T := TX12) C S1.1 ga0 15 kF_X12_36 dX12_feed_21 rfl rfl (by decide) rfl (by decide) rfl (fun g7 => ?_)
    refine lv_iconst (v := 0) hx hb dX12_feed_24 (by decide) ?_
    refine lv_iload_n hx hb dX12_feed_25 rfl (lv_at hl 1 rfl) ?_
    have n8 : aN H1 (fR D H1 11 a0 15) = 5 := len_37 S1.1 g7
    refine q_iast C S1 g7 (by omega) (by omega) dX12_feed_26 rfl (by decide) (by decide +kernel) (fun _ _ h => ak_37 h) (fun H9 L9 S9 P9 => ?_)
    have fv1 : ∀ j : Nat, eI H9 (fR D H9 11 a0 15) j = if j = 0 then x1 else eI H1 (fR D H1 11 a0 15) j := fun j => by have z9 := Pa.all P9 (by omega) j; rw [show (0 : Int32).toInt.toNat = 0 by decide] at z9; rw [Pa.r P9 (ne_role ga0 g7 (by decide))]; exact z9
    have mb1 : ∀ i : Nat, nrm (eI H9 (fR D H9 11 a0 8) i).toInt = nrm (eI H1 (fR D H1 11 a0 8) i).toInt := fun i => by rw [Pa.r P9 (ne_role ga0 g7 (by decide)), Pa.e P9 (ne_role (S1.1.rol ga0 rfl (by decide) rfl) g7 (by decide))]
    refine lv_aload_n hx hb dX12_feed_27 rfl (lv_at hl 0 rfl) ?_
    refine q_gr (T := TX12) C S9.1 ga0 15 kF_X12_36 dX12_feed_28 rfl rfl (by decide) rfl (by decide) rfl (fun g10 => ?_)
    refine lv_iconst (v := 1) hx hb dX12_feed_31 (by decide) ?_
    refine lv_iload_n hx hb dX12_feed_32 rfl (lv_at hl 2 rfl) ?_
    have n11 : aN H9 (fR D H9 11 a0 15) = 5 := len_37 S9.1 g10
    have k_1 : (1 : Int32).toInt = 1 := by decide
    refine q_iast C S9 g10 (by omega) (by omega) dX12_feed_33 rfl (by decide) (by decide +kernel) (fun _ _ h => ak_37 h) (fun H12 L12 S12 P12 => ?_)
    have fv2 : ∀ j : Nat, eI H12 (fR D H12 11 a0 15) j = if j = 1 then x2 else eI H9 (fR D H9 11 a0 15) j := fun j => by have z9 := Pa.all P12 (by omega) j; rw [show (1 : Int32).toInt.toNat = 1 by decide] at z9; rw [Pa.r P12 (ne_role ga0 g10 (by decide))]; exact z9
    have mb2 : ∀ i : Nat, nrm (eI H12 (fR D H12 11 a0 8) i).toInt = nrm (eI H9 (fR D H9 11 a0 8) i).toInt := fun i => by rw [Pa.r P12 (ne_role ga0 g10 (by decide)), Pa.e P12 (ne_role (S9.1.rol ga0 rfl (by decide) rfl) g10 (by decide))]
    refine lv_aload_n hx hb dX12_feed_34 rfl (lv_at hl 0 rfl) ?_
    refine q_gr (T := TX12) C S12.1 ga0 15 kF_X12_36 dX12_feed_35 rfl rfl (by decide) rfl (by decide) rfl (fun g13 => ?_)
    refine lv_iconst (v := 2) hx hb dX12_feed_38 (by decide) ?_
    refine lv_iload_n hx hb dX12_feed_39 rfl (lv_at hl 3 rfl) ?_
    have n14 : aN H12 (fR D H12 11 a0 15) = 5 := len_37 S12.1 g13
    have k_2 : (2 : Int32).toInt = 2 := by decide
    refine q_iast C S12 g13 (by omega) (by omega) dX12_feed_40 rfl (by decide) (by decide +kernel) (fun _ _ h => ak_37 h) (fun H15 L15 S15 P15 => ?_)
    have fv3 : ∀ j : Nat, eI H15 (fR D H15 11 a0 15) j = if j = 2 then x3 else eI H12 (fR D H12 11 a0 15) j := fun j => by have z9 := Pa.all P15 (by omega) j; rw [show (2 : Int32).toInt.toNat = 2 by decide] at z9; rw [Pa.r P15 (ne_role ga0 g13 (by decide))]; exact z9
    have mb3 : ∀ i : Nat, nrm (eI H15 (fR D H15 11 a0 8) i).toInt = nrm (eI H12 (fR D H12 11 a0 8) i).toInt := fun i => by rw [Pa.r P15 (ne_role ga0 g13 (by decide)), Pa.e P15 (ne_role (S12.1.rol ga0 rfl (by decide) rfl) g13 (by decide))]
    refine lv_aload_n hx hb dX12_feed_41 rfl (lv_at hl 0 rfl) ?_
    refine q_gr (T := TX12) C S15.1 ga0 15 kF_X12_36 dX12_feed_42 rfl rfl (by decide) rfl (by decide) rfl (fun g16 => ?_)
    refine lv_iconst (v := 3) hx hb dX12_feed_45 (by decide) ?_
    refine lv_iload hx hb dX12_feed_46 (lv_at hl 4 rfl) ?_
    have n17 : aN H15 (fR D H15 11 a0 15) = 5 := len_37 S15.1 g16
    have k_3 : (3 : Int32).toInt = 3 := by decide
    refine q_iast C S15 g16 (by omega) (by omega) dX12_feed_48 rfl (by decide) (by decide +kernel) (fun _ _ h => ak_37 h) (fun H18 L18 S18 P18 => ?_)
    have fv4 : ∀ j : Nat, eI H18 (fR D H18 11 a0 15) j = if j = 3 then x4 else eI H15 (fR D H15 11 a0 15) j := fun j => by have z9 := Pa.all P18 (by omega) j; rw [show (3 : Int32).toInt.toNat = 3 by decide] at z9; rw [Pa.r P18 (ne_role ga0 g16 (by decide))]; exact z9
    have mb4 : ∀ i : Nat, nrm (eI H18 (fR D H18 11 a0 8) i).toInt = nrm (eI H15 (fR D H15 11 a0 8) i).toInt := fun i => by rw [Pa.r P18 (ne_role ga0 g16 (by decide)), Pa.e P18 (ne_role (S15.1.rol ga0 rfl (by decide) rfl) g16 (by decide))]
    refine lv_aload_n hx hb dX12_feed_49 rfl (lv_at hl 0 rfl) ?_
    refine q_gr (T := TX12) C S18.1 ga0 15 kF_X12_36 dX12_feed_50 rfl rfl (by decide) rfl (by decide) rfl (fun g19 => ?_)
    refine lv_iconst (v := 4) hx hb dX12_feed_53 (by decide) ?_
    refine lv_iload hx hb dX12_feed_54 (lv_at hl 5 rfl) ?_
    have n20 : aN H18 (fR D H18 11 a0 15) = 5 := len_37 S18.1 g19
    have k_4 : (4 : Int32).toInt = 4 := by decide
    refine q_iast C S18 g19 (by omega) (by omega) dX12_feed_56 rfl (by decide) (by decide +kernel) (fun _ _ h => ak_37 h) (fun H21 L21 S21 P21 => ?_)
    have fv5 : ∀ j : Nat, eI H21 (fR D H21 11 a0 15) j = if j = 4 then x5 else eI H18 (fR D H18 11 a0 15) j := fun j => by have z9 := Pa.all P21 (by omega) j; rw [show (4 : Int32).toInt.toNat = 4 by decide] at z9; rw [Pa.r P21 (ne_role ga0 g19 (by decide))]; exact z9
    have mb5 : ∀ i : Nat, nrm (eI H21 (fR D H21 11 a0 8) i).toInt = nrm (eI H18 (fR D H18 11 a0 8) i).toInt := fun i => by rw [Pa.r P21 (ne_role ga0 g19 (by decide)), Pa.e P21 (ne_role (S18.1.rol ga0 rfl (by decide) rfl) g19 (by decide))]
    have f5 := five5 fv1 fv2 fv3 fv4 fv5
    refine lv_iconst (v := 0) hx hb dX12_feed_57 (by decide) ?_
    refine lv_istore (lv' := [(6, .int (0 : Int32)), (0, .ref a0), (1, .int x1), (2, .int x2), (3, .int x3), (4, .int x4), (5, .int x5)]) hx hb dX12_feed_58 hl (by decide) rfl (fun ls hl => ?_)
    have Lp60 : ∀ (n : Nat) (x6_60 : Int32) (H_60 : Heap) (L_60 : List Loc) (ls : Array Slot), (Sd D G [(30, 0), (30, 9), (36, 0), (37, 0)] s.heap H_60 L_60) → (0 ≤ x6_60.toInt ∧ x6_60.toInt ≤ 20) → ((fI D H_60 11 a0 9).toInt = (fI D s.heap 11 a0 9).toInt) → ((∀ m, m < 5 → eI H_60 (fR D H_60 11 a0 15) m = pk5 x1 x2 x3 x4 x5 m) ∧ ∀ i : Nat, nrm (eI H_60 (fR D H_60 11 a0 8) i).toInt = if (fI D s.heap 11 a0 9).toInt.toNat ≤ i ∧ i < (fI D s.heap 11 a0 9).toInt.toNat + x6_60.toInt.toNat then nrm (fb (pk5 x1 x2 x3 x4 x5 ((i - (fI D s.heap 11 a0 9).toInt.toNat) / 4)) ((i - (fI D s.heap 11 a0 9).toInt.toNat) % 4)) else nrm (eI s.heap (fR D s.heap 11 a0 8) i).toInt) → 21 - x6_60.toInt ≤ (n : Int) → lv_has ls 7 [(6, .int x6_60), (0, .ref a0)] → W p l e (rmU 0 0 0) s m args below meth c H_60 L_60 0 0 Q (F0 m 60 ls []) := by
      intro n
      induction n with
      | zero =>
        intro x6_60 H_60 L_60 ls S_60 j60_0 u60_0 u60_1 hn hl
        exact absurd hn (by omega)
      | succ n ih60 =>
        intro x6_60 H_60 L_60 ls S_60 j60_0 u60_0 u60_1 hn hl
        refine lv_iload hx hb dX12_feed_60 (lv_at hl 0 rfl) ?_
        refine lv_bipush (v := 20) hx hb dX12_feed_62 (by decide) ?_
        refine lv_icmp_ge (tgt := 106) hx hb dX12_feed_64 (by decide) (fun c22 => ?_) (fun c22 => ?_)
        · have b22 : (20 : Int32).toInt ≤ x6_60.toInt := i_le.mp c22
          refine lv_aload_n hx hb dX12_feed_106 rfl (lv_at hl 1 rfl) ?_
          refine lv_dup hx hb dX12_feed_107 rfl ?_
          refine q_gi (T := TX12) C S_60.1 ga0 9 kF_X12_75 dX12_feed_108 rfl rfl (by decide) rfl (by decide) rfl ?_
          have r23 : 0 ≤ (fI D H_60 11 a0 9).toInt ∧ (fI D H_60 11 a0 9).toInt ≤ 400 := S_60.1.rng ga0 rfl (by decide) rfl
          refine lv_bipush (v := 20) hx hb dX12_feed_111 (by decide) ?_
          refine lv_iadd hx hb dX12_feed_113 ?_
          refine lv_topi (fun v24 ev24 => ?_)
          have f25 : v24.toInt = (fI D H_60 11 a0 9).toInt + (20 : Int32).toInt := by rw [ev24]; exact i_add (by omega) (by omega)
          refine q_put (T := TX12) C S_60 ga0 9 kF_X12_75 dX12_feed_114 rfl rfl (by decide) (by decide) rfl rfl rfl rfl rfl (vok_i rfl (by omega) (by omega)) (by decide +kernel) (fun H26 L26 S26 P26 => ?_)
          refine lv_aload_n hx hb dX12_feed_117 rfl (lv_at hl 1 rfl) ?_
          refine q_gi (T := TX12) C S26.1 ga0 9 kF_X12_75 dX12_feed_118 rfl rfl (by decide) rfl (by decide) rfl ?_
          have c27 : (fI D H26 11 a0 9).toInt = v24.toInt := by rw [Pt.i P26]
          have r28 : 0 ≤ (fI D H26 11 a0 9).toInt ∧ (fI D H26 11 a0 9).toInt ≤ 400 := S26.1.rng ga0 rfl (by decide) rfl
          exact retE_i hQ C S26 hr dX12_feed_121 (⟨by omega, fun _ i => by rw [Pt.or P26 (by decide) (by decide), Pt.e P26 (ne_role (S_60.1.rol ga0 rfl (by decide) rfl) ga0 (by decide))]; have z9 := u60_1.2 i; rw [show x6_60.toInt.toNat = 20 by omega] at z9; exact z9, fun h9 => absurd h9 (by omega)⟩)
        · have b22 : ¬ (20 : Int32).toInt ≤ x6_60.toInt := fun z9 => c22 (i_le.mpr z9)
          refine lv_aload_n hx hb dX12_feed_67 rfl (lv_at hl 1 rfl) ?_
          refine q_gr (T := TX12) C S_60.1 ga0 8 kF_X12_29 dX12_feed_68 rfl rfl (by decide) rfl (by decide) rfl (fun g29 => ?_)
          refine lv_aload_n hx hb dX12_feed_71 rfl (lv_at hl 1 rfl) ?_
          refine q_gi (T := TX12) C S_60.1 ga0 9 kF_X12_75 dX12_feed_72 rfl rfl (by decide) rfl (by decide) rfl ?_
          have r30 : 0 ≤ (fI D H_60 11 a0 9).toInt ∧ (fI D H_60 11 a0 9).toInt ≤ 400 := S_60.1.rng ga0 rfl (by decide) rfl
          refine lv_iload hx hb dX12_feed_75 (lv_at hl 0 rfl) ?_
          refine lv_iadd hx hb dX12_feed_77 ?_
          refine lv_topi (fun v31 ev31 => ?_)
          have f32 : v31.toInt = (fI D H_60 11 a0 9).toInt + x6_60.toInt := by rw [ev31]; exact i_add (by omega) (by omega)
          refine lv_aload_n hx hb dX12_feed_78 rfl (lv_at hl 1 rfl) ?_
          refine q_gr (T := TX12) C S_60.1 ga0 15 kF_X12_36 dX12_feed_79 rfl rfl (by decide) rfl (by decide) rfl (fun g33 => ?_)
          refine lv_iload hx hb dX12_feed_82 (lv_at hl 0 rfl) ?_
          refine lv_iconst (v := 4) hx hb dX12_feed_84 (by decide) ?_
          refine lv_idiv hx hb dX12_feed_85 (by first | decide | (intro z9; have := i_eq.mp z9; simp at this; omega) | assumption) ?_
          refine lv_topi (fun v34 ev34 => ?_)
          have f35 : v34.toInt = x6_60.toInt / 4 := by rw [ev34]; exact i_divc k_4 (by omega) (by decide)
          have n36 : aN H_60 (fR D H_60 11 a0 15) = 5 := len_37 S_60.1 g33
          refine q_iald C S_60.1 g33 (by omega) (by omega) dX12_feed_86 rfl (by decide) ?_
          refine lv_topi (fun v37 ev37 => ?_)
          have ew5 : v37 = pk5 x1 x2 x3 x4 x5 (x6_60.toInt.toNat / 4) := by rw [ev37]; exact (congrArg (fun i9 => eI H_60 (fR D H_60 11 a0 15) i9) (by omega)).trans (u60_1.1 (x6_60.toInt.toNat / 4) (by omega))
          refine lv_bipush (v := 24) hx hb dX12_feed_87 (by decide) ?_
          refine lv_bipush (v := 8) hx hb dX12_feed_89 (by decide) ?_
          refine lv_iload hx hb dX12_feed_91 (lv_at hl 0 rfl) ?_
          refine lv_iconst (v := 4) hx hb dX12_feed_93 (by decide) ?_
          refine lv_irem hx hb dX12_feed_94 (by first | decide | (intro z9; have := i_eq.mp z9; simp at this; omega) | assumption) ?_
          refine lv_topi (fun v38 ev38 => ?_)
          have f39 : v38.toInt = x6_60.toInt % 4 := by rw [ev38]; exact i_remc k_4 (by omega) (by decide)
          have k_8 : (8 : Int32).toInt = 8 := by decide
          refine lv_imul hx hb dX12_feed_95 ?_
          refine lv_topi (fun v40 ev40 => ?_)
          have f41 : v40.toInt = (8) * v38.toInt := by rw [ev40]; exact i_cmul k_8 (by omega) (by omega)
          have k_24 : (24 : Int32).toInt = 24 := by decide
          refine lv_isub hx hb dX12_feed_96 ?_
          refine lv_topi (fun v42 ev42 => ?_)
          have f43 : v42.toInt = (24 : Int32).toInt - v40.toInt := by rw [ev42]; exact i_sub (by omega) (by omega)
          refine lv_ishr hx hb dX12_feed_97 ?_
          refine lv_topi (fun v44 ev44 => ?_)
          refine lv_i2b hx hb dX12_feed_98 rfl ?_
          refine lv_topi (fun v45 ev45 => ?_)
          have vb : nrm v45.toInt = nrm (fb (pk5 x1 x2 x3 x4 x5 (x6_60.toInt.toNat / 4)) (x6_60.toInt.toNat % 4)) := by rw [ev45, ev44, ew5]; exact by_mod (by omega) (by omega)
          have n46 : aN H_60 (fR D H_60 11 a0 8) = 400 := len_36 S_60.1 g29
          refine q_bast C S_60 g29 (by omega) (by omega) dX12_feed_99 rfl (by decide) (by decide) (fun _ _ h => ak_36 h) (fun H47 L47 z47 hz47 S47 P47 => ?_)
          have vz : nrm z47.toInt = nrm v45.toInt := by rw [hz47]; exact nar_n ev45
          have fq9 : ∀ j : Nat, eI H47 (fR D H47 11 a0 15) j = eI H_60 (fR D H_60 11 a0 15) j := fun j => by rw [Pa.r P47 (ne_role ga0 g29 (by decide)), Pa.e P47 (ne_role (S_60.1.rol ga0 rfl (by decide) rfl) g29 (by decide))]
          have bq : ∀ j : Nat, eI H47 (fR D H47 11 a0 8) j = if j = (fI D s.heap 11 a0 9).toInt.toNat + x6_60.toInt.toNat then z47 else eI H_60 (fR D H_60 11 a0 8) j := fun j => by have z9 := Pa.all P47 (by omega) j; rw [show v31.toInt.toNat = (fI D s.heap 11 a0 9).toInt.toNat + x6_60.toInt.toNat by omega] at z9; rw [Pa.r P47 (ne_role ga0 g29 (by decide))]; exact z9
          obtain ⟨v48, ev48⟩ : ∃ y : Int32, y = x6_60 + (1) := ⟨_, rfl⟩
          have f49 : v48.toInt = x6_60.toInt + (1) := by rw [ev48]; exact i_addc k_1 (by omega) (by omega)
          refine lv_iinc (v := v48) (lv' := [(6, .int v48), (0, .ref a0)]) hx hb dX12_feed_100 hl (k := 0) rfl (by rw [ev48]; rfl) (by decide) rfl (fun ls hl => ?_)
          refine lv_goto (tgt := 60) hx hb dX12_feed_103 (by decide) ?_
          exact ih60 v48 H47 L47 ls S47 (by omega) (by rw [Pa.f P47 (ne_role ga0 g29 (by decide))]; omega) (⟨fun m hm => by rw [fq9 m]; exact u60_1.1 m hm, by have z9 := putm_st (B2 := fun i => nrm (eI H47 (fR D H47 11 a0 8) i).toInt) (f := fun j => nrm (fb (pk5 x1 x2 x3 x4 x5 (j / 4)) (j % 4))) (v := nrm z47.toInt) u60_1.2 (fun i => by show nrm (eI H47 (fR D H47 11 a0 8) i).toInt = _; rw [bq i]; split <;> rfl) (vz.trans vb); rw [show v48.toInt.toNat = x6_60.toInt.toNat + 1 by omega]; exact z9⟩) (by omega) (lv_sub hl [0, 1] rfl)
    exact Lp60 21 (0 : Int32) H21 L21 ls S21 (by omega) (by rw [Pa.f P21 (ne_role ga0 g19 (by decide)), Pa.f P18 (ne_role ga0 g16 (by decide)), Pa.f P15 (ne_role ga0 g13 (by decide)), Pa.f P12 (ne_role ga0 g10 (by decide)), Pa.f P9 (ne_role ga0 g7 (by decide)), Pt.o P1 (by decide) (by decide)]) (⟨f5, fun i => by rw [mb5 i, mb4 i, mb3 i, mb2 i, mb1 i, mb0 i, if_neg (by omega)]⟩)  (by omega) (lv_sub hl [0, 1] rfl)
  · have b6 : ¬ v4.toInt ≤ (400 : Int32).toInt := fun z9 => c6 (i_le.mpr z9)
    refine lv_iconst (v := -1) hx hb dX12_feed_18 (by decide) ?_
    have k_m1 : (-1 : Int32).toInt = -1 := by decide
    exact retE_i hQ C S1 hr dX12_feed_19 (⟨by omega, fun h9 => absurd h9 (by omega), fun _ i => mb0 i⟩)
