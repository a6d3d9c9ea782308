set_option maxRecDepth 100000 in
set_option maxHeartbeats 4000000 in
theorem c_X12_hearthsOf_v (l : Launch) (D : DD) (G : Nat → Nat) (a0 : Nat) (x1 : Int32) (sg : Sg) (ga0 : G a0 = 30) : CP l D G yX12_hearthsOf cX12_hearthsOf 4 (some .int) 3 [.ref a0, .int x1] (fun H => MV D H a0 sg) (pI (fun H r => (0 ≤ r.toInt ∧ r.toInt ≤ 4095) ∧ r.toInt = ((bto sg x1.toInt (sg 1).toNat : Nat) : Int))) := by
  refine enter (by decide) (Nat.le_of_ble_eq_true rfl) ?_
  intro p e s m args below meth c ls Q hA hQ C hr hO hpre hl
  have hx := C.1
  have hb := C.2.1
  have hl : lv_has ls 4 [(0, .ref a0), (1, .int x1)] := hl
  have ct0 := mv_1 hpre
  have gw : G (fR D s.heap 11 a0 1) = 31 := hO.rol ga0 rfl (by decide) rfl
  have rc0 := wl_1 hO gw
  refine lv_iconst (v := 0) hx hb dX12_hearthsOf_0 (by decide) ?_
  refine lv_istore_n (lv' := [(2, .int (0 : Int32)), (0, .ref a0), (1, .int x1)]) hx hb dX12_hearthsOf_1 rfl hl (by decide) rfl (fun ls hl => ?_)
  refine lv_iconst (v := 0) hx hb dX12_hearthsOf_2 (by decide) ?_
  refine lv_istore_n (lv' := [(3, .int (0 : Int32)), (2, .int (0 : Int32)), (0, .ref a0), (1, .int x1)]) hx hb dX12_hearthsOf_3 rfl hl (by decide) rfl (fun ls hl => ?_)
  have Lp4 : ∀ (n : Nat) (x3_4 : Int32) (x2_4 : Int32) (ls : Array Slot), (0 ≤ x3_4.toInt ∧ x3_4.toInt ≤ 12) → (0 ≤ x2_4.toInt ∧ x2_4.toInt ≤ 4095) → (x2_4.toInt = ((bto sg x1.toInt x3_4.toInt.toNat : Nat) : Int)) → (x3_4.toInt ≤ (eI s.heap (fR D s.heap 11 a0 1) 1).toInt) → 13 - x3_4.toInt ≤ (n : Int) → lv_has ls 4 [(3, .int x3_4), (2, .int x2_4), (0, .ref a0), (1, .int x1)] → W p l e (rmU 3 0 0) s m args below meth c s.heap [] 0 0 Q (F0 m 4 ls []) := by
    intro n
    induction n with
    | zero =>
      intro x3_4 x2_4 ls j4_0 j4_1 u4_0 u4_1 hn hl
      exact absurd hn (by omega)
    | succ n ih4 =>
      intro x3_4 x2_4 ls j4_0 j4_1 u4_0 u4_1 hn hl
      refine lv_iload_n hx hb dX12_hearthsOf_4 rfl (lv_at hl 0 rfl) ?_
      refine lv_aload_n hx hb dX12_hearthsOf_5 rfl (lv_at hl 2 rfl) ?_
      refine callV_Pi C hO (fun _ _ _ => rfl) (c_X12_hearths_v l D G a0 ga0) kV_X12_67 ga0 (trivial) dX12_hearthsOf_6 hl.1 rfl rfl (by decide) cd_X12_hearths ⟨Nat.le_of_ble_eq_true rfl, Nat.le_of_ble_eq_true rfl, Nat.le_of_ble_eq_true rfl, Nat.le_of_ble_eq_true rfl, Nat.le_of_ble_eq_true rfl⟩ (fun v1 q1 => ?_)
      refine lv_icmp_ge (tgt := 37) hx hb dX12_hearthsOf_9 (by decide) (fun c2 => ?_) (fun c2 => ?_)
      · have b2 : v1.toInt ≤ x3_4.toInt := i_le.mp c2
        refine lv_iload_n hx hb dX12_hearthsOf_37 rfl (lv_at hl 1 rfl) ?_
        exact retP_i hQ C hr dX12_hearthsOf_38 (⟨by omega, by rw [show (sg 1).toNat = x3_4.toInt.toNat by omega]; exact u4_0⟩)
      · have b2 : ¬ v1.toInt ≤ x3_4.toInt := fun z9 => c2 (i_le.mpr z9)
        refine lv_iload_n hx hb dX12_hearthsOf_12 rfl (lv_at hl 1 rfl) ?_
        refine lv_aload_n hx hb dX12_hearthsOf_13 rfl (lv_at hl 2 rfl) ?_
        refine lv_iload_n hx hb dX12_hearthsOf_14 rfl (lv_at hl 0 rfl) ?_
        refine lv_iload_n hx hb dX12_hearthsOf_15 rfl (lv_at hl 3 rfl) ?_
        refine callV_Pi C hO (fun _ _ _ => rfl) (c_X12_isOf_v l D G a0 x3_4 x1 ga0 (by omega)) kV_X12_70 ga0 (trivial) dX12_hearthsOf_16 hl.1 rfl rfl (by decide) cd_X12_isOf ⟨Nat.le_of_ble_eq_true rfl, Nat.le_of_ble_eq_true rfl, Nat.le_of_ble_eq_true rfl, Nat.le_of_ble_eq_true rfl, Nat.le_of_ble_eq_true rfl⟩ (fun v3 q3 => ?_)
        have k_0 : (0 : Int32).toInt = 0 := by decide
        refine lv_if_eq (tgt := 28) hx hb dX12_hearthsOf_19 (by decide) (fun c4 => ?_) (fun c4 => ?_)
        · have b4 : v3.toInt = (0 : Int32).toInt := i_eq.mp c4
          refine lv_iconst (v := 0) hx hb dX12_hearthsOf_28 (by decide) ?_
          refine lv_ior hx hb dX12_hearthsOf_29 ?_
          refine lv_topi (fun v5 ev5 => ?_)
          have f6 : 0 ≤ v5.toInt ∧ v5.toInt < 4096 := by rw [ev5]; exact i_or 12 (by omega) (by omega) (by omega) (by omega)
          refine lv_istore_n (lv' := [(2, .int v5), (3, .int x3_4), (0, .ref a0), (1, .int x1)]) hx hb dX12_hearthsOf_30 rfl hl (by decide) rfl (fun ls hl => ?_)
          obtain ⟨v7, ev7⟩ : ∃ y : Int32, y = x3_4 + (1) := ⟨_, rfl⟩
          have k_1 : (1 : Int32).toInt = 1 := by decide
          have f8 : v7.toInt = x3_4.toInt + (1) := by rw [ev7]; exact i_addc k_1 (by omega) (by omega)
          refine lv_iinc (v := v7) (lv' := [(3, .int v7), (2, .int v5), (0, .ref a0), (1, .int x1)]) hx hb dX12_hearthsOf_31 hl (k := 1) rfl (by rw [ev7]; rfl) (by decide) rfl (fun ls hl => ?_)
          refine lv_goto (tgt := 4) hx hb dX12_hearthsOf_34 (by decide) ?_
          exact ih4 v7 v5 ls (by omega) (by omega) (by rw [show v7.toInt.toNat = x3_4.toInt.toNat + 1 by omega, bto_o (by rw [← mv_h hpre (by omega)]; omega), ev5]; rw [show (x2_4 ||| (0 : Int32)) = x2_4 by simp]; exact u4_0) (by omega) (by omega) (lv_sub hl [0, 1, 2, 3] rfl)
        · have b4 : ¬ v3.toInt = (0 : Int32).toInt := fun z9 => c4 (i_eq.mpr z9)
          refine lv_iconst (v := 1) hx hb dX12_hearthsOf_22 (by decide) ?_
          refine lv_iload_n hx hb dX12_hearthsOf_23 rfl (lv_at hl 0 rfl) ?_
          have k_1 : (1 : Int32).toInt = 1 := by decide
          refine lv_ishl hx hb dX12_hearthsOf_24 ?_
          refine lv_topi (fun v9 ev9 => ?_)
          have f10 : 1 ≤ v9.toInt ∧ v9.toInt ≤ 2048 := by rw [ev9]; exact i_shl1 11 (by omega) (by omega) (by decide)
          refine lv_goto (tgt := 29) hx hb dX12_hearthsOf_25 (by decide) ?_
          refine lv_ior hx hb dX12_hearthsOf_29 ?_
          refine lv_topi (fun v11 ev11 => ?_)
          have f12 : 0 ≤ v11.toInt ∧ v11.toInt < 4096 := by rw [ev11]; exact i_or 12 (by omega) (by omega) (by omega) (by omega)
          refine lv_istore_n (lv' := [(2, .int v11), (3, .int x3_4), (0, .ref a0), (1, .int x1)]) hx hb dX12_hearthsOf_30 rfl hl (by decide) rfl (fun ls hl => ?_)
          obtain ⟨v13, ev13⟩ : ∃ y : Int32, y = x3_4 + (1) := ⟨_, rfl⟩
          have f14 : v13.toInt = x3_4.toInt + (1) := by rw [ev13]; exact i_addc k_1 (by omega) (by omega)
          refine lv_iinc (v := v13) (lv' := [(3, .int v13), (2, .int v11), (0, .ref a0), (1, .int x1)]) hx hb dX12_hearthsOf_31 hl (k := 1) rfl (by rw [ev13]; rfl) (by decide) rfl (fun ls hl => ?_)
          refine lv_goto (tgt := 4) hx hb dX12_hearthsOf_34 (by decide) ?_
          exact ih4 v13 v11 ls (by omega) (by omega) (by rw [show v13.toInt.toNat = x3_4.toInt.toNat + 1 by omega, bto_s (by rw [← mv_h hpre (by omega)]; omega), ev11]; exact or_add u4_0 (bto_lt _ _ _) (sh1 (by omega) (by omega) ev9) (by omega)) (by omega) (by omega) (lv_sub hl [0, 1, 2, 3] rfl)
  have k_0 : (0 : Int32).toInt = 0 := by decide
  exact Lp4 13 (0 : Int32) (0 : Int32) ls (by omega) (by omega) (by rw [show (0 : Int32).toInt.toNat = 0 by decide]; (show (0 : Int32).toInt = ((0 : Nat) : Int)); decide) (by omega)  (by omega) (lv_sub hl [0, 1, 2, 3] rfl)
