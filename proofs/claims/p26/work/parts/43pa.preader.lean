set_option maxRecDepth 100000 in
set_option maxHeartbeats 4000000 in
theorem c_X5_bitsOf_df (l : Launch) (D : DD) (G : Nat → Nat) (a0 : Nat) (x1 : Int32) (sg : Sg) (ga0 : G a0 = 23) : CP l D G yX5_bitsOf cX5_bitsOf 4 (some .int) 0 [.ref a0, .int x1] (fun H => SV (pv D H a0) sg) (pI (fun H r => (0 ≤ r.toInt ∧ r.toInt ≤ 4095) ∧ r.toInt = ((bto sg x1.toInt (sg 1).toNat : Nat) : Int))) := by
  refine enter (by decide) (Nat.le_of_ble_eq_true rfl) ?_
  intro p e s m args below meth c ls Q hA hQ C hr hO hpre hl
  have hx := C.1
  have hb := C.2.1
  have hl : lv_has ls 4 [(0, .ref a0), (1, .int x1)] := hl
  have ct0 := dv_1 hpre
  have rc0 : 0 ≤ (fI D s.heap 5 a0 4).toInt ∧ (fI D s.heap 5 a0 4).toInt ≤ 12 := hO.rng ga0 rfl (by decide) rfl
  refine lv_iconst (v := 0) hx hb dX5_bitsOf_0 (by decide) ?_
  refine lv_istore_n (lv' := [(2, .int (0 : Int32)), (0, .ref a0), (1, .int x1)]) hx hb dX5_bitsOf_1 rfl hl (by decide) rfl (fun ls hl => ?_)
  refine lv_iconst (v := 0) hx hb dX5_bitsOf_2 (by decide) ?_
  refine lv_istore_n (lv' := [(3, .int (0 : Int32)), (2, .int (0 : Int32)), (0, .ref a0), (1, .int x1)]) hx hb dX5_bitsOf_3 rfl hl (by decide) rfl (fun ls hl => ?_)
  have Lp4 : ∀ (n : Nat) (x3_4 : Int32) (x2_4 : Int32) (ls : Array Slot), (0 ≤ x3_4.toInt ∧ x3_4.toInt ≤ 12) → (0 ≤ x2_4.toInt ∧ x2_4.toInt ≤ 4095) → (x2_4.toInt = ((bto sg x1.toInt x3_4.toInt.toNat : Nat) : Int)) → (x3_4.toInt ≤ (fI D s.heap 5 a0 4).toInt) → 13 - x3_4.toInt ≤ (n : Int) → lv_has ls 4 [(3, .int x3_4), (2, .int x2_4), (0, .ref a0), (1, .int x1)] → W p l e (rmU 0 0 0) s m args below meth c s.heap [] 0 0 Q (F0 m 4 ls []) := by
    intro n
    induction n with
    | zero =>
      intro x3_4 x2_4 ls j4_0 j4_1 u4_0 u4_1 hn hl
      exact absurd hn (by omega)
    | succ n ih4 =>
      intro x3_4 x2_4 ls j4_0 j4_1 u4_0 u4_1 hn hl
      refine lv_iload_n hx hb dX5_bitsOf_4 rfl (lv_at hl 0 rfl) ?_
      refine lv_aload_n hx hb dX5_bitsOf_5 rfl (lv_at hl 2 rfl) ?_
      refine q_gi (T := TX5) C hO ga0 4 kF_X5_34 dX5_bitsOf_6 rfl rfl (by decide) rfl (by decide) rfl ?_
      have r1 : 0 ≤ (fI D s.heap 5 a0 4).toInt ∧ (fI D s.heap 5 a0 4).toInt ≤ 12 := hO.rng ga0 rfl (by decide) rfl
      refine lv_icmp_ge (tgt := 37) hx hb dX5_bitsOf_9 (by decide) (fun c2 => ?_) (fun c2 => ?_)
      · have b2 : (fI D s.heap 5 a0 4).toInt ≤ x3_4.toInt := i_le.mp c2
        refine lv_iload_n hx hb dX5_bitsOf_37 rfl (lv_at hl 1 rfl) ?_
        exact retP_i hQ C hr dX5_bitsOf_38 (⟨by omega, by rw [show (sg 1).toNat = x3_4.toInt.toNat by omega]; exact u4_0⟩)
      · have b2 : ¬ (fI D s.heap 5 a0 4).toInt ≤ x3_4.toInt := fun z9 => c2 (i_le.mpr z9)
        refine lv_aload_n hx hb dX5_bitsOf_12 rfl (lv_at hl 2 rfl) ?_
        refine q_gr (T := TX5) C hO ga0 1 kF_X5_19 dX5_bitsOf_13 rfl rfl (by decide) rfl (by decide) rfl (fun g3 => ?_)
        refine lv_iload_n hx hb dX5_bitsOf_16 rfl (lv_at hl 0 rfl) ?_
        refine q_aald C hO g3 (by omega) (by omega) dX5_bitsOf_17 rfl (by decide) rfl rfl (fun g4 => ?_)
        refine q_gi (T := TX1) C hO g4 0 kF_X5_77 dX5_bitsOf_18 rfl rfl (by decide) rfl (by decide) rfl ?_
        have r5 : -1 ≤ (fI D s.heap 1 (eR s.heap (fR D s.heap 5 a0 1) x3_4.toInt.toNat) 0).toInt ∧ (fI D s.heap 1 (eR s.heap (fR D s.heap 5 a0 1) x3_4.toInt.toNat) 0).toInt ≤ 5 := hO.rng g4 rfl (by decide) rfl
        refine lv_iload_n hx hb dX5_bitsOf_21 rfl (lv_at hl 3 rfl) ?_
        refine lv_icmp_ne (tgt := 31) hx hb dX5_bitsOf_22 (by decide) (fun c6 => ?_) (fun c6 => ?_)
        · have b6 : ¬ (fI D s.heap 1 (eR s.heap (fR D s.heap 5 a0 1) x3_4.toInt.toNat) 0).toInt = x1.toInt := fun z9 => c6 (i_eq.mpr z9)
          obtain ⟨v7, ev7⟩ : ∃ y : Int32, y = x3_4 + (1) := ⟨_, rfl⟩
          have k_1 : (1 : Int32).toInt = 1 := by decide
          have f8 : v7.toInt = x3_4.toInt + (1) := by rw [ev7]; exact i_addc k_1 (by omega) (by omega)
          refine lv_iinc (v := v7) (lv' := [(3, .int v7), (2, .int x2_4), (0, .ref a0), (1, .int x1)]) hx hb dX5_bitsOf_31 hl (k := 0) rfl (by rw [ev7]; rfl) (by decide) rfl (fun ls hl => ?_)
          refine lv_goto (tgt := 4) hx hb dX5_bitsOf_34 (by decide) ?_
          exact ih4 v7 x2_4 ls (by omega) (by omega) (by rw [show v7.toInt.toNat = x3_4.toInt.toNat + 1 by omega, bto_o (by rw [← hpre _ (by omega), pv_h (by omega)]; exact fun z9 => absurd z9 (by show ¬ (fI D s.heap 1 (eR s.heap (fR D s.heap 5 a0 1) x3_4.toInt.toNat) 0).toInt = x1.toInt; omega))]; exact u4_0) (by omega) (by omega) (lv_sub hl [0, 1, 2, 3] rfl)
        · have b6 : (fI D s.heap 1 (eR s.heap (fR D s.heap 5 a0 1) x3_4.toInt.toNat) 0).toInt = x1.toInt := i_eq.mp c6
          refine lv_iload_n hx hb dX5_bitsOf_25 rfl (lv_at hl 1 rfl) ?_
          refine lv_iconst (v := 1) hx hb dX5_bitsOf_26 (by decide) ?_
          refine lv_iload_n hx hb dX5_bitsOf_27 rfl (lv_at hl 0 rfl) ?_
          have k_1 : (1 : Int32).toInt = 1 := by decide
          refine lv_ishl hx hb dX5_bitsOf_28 ?_
          refine lv_topi (fun v9 ev9 => ?_)
          have f10 : 1 ≤ v9.toInt ∧ v9.toInt ≤ 2048 := by rw [ev9]; exact i_shl1 11 (by omega) (by omega) (by decide)
          refine lv_ior hx hb dX5_bitsOf_29 ?_
          refine lv_topi (fun v11 ev11 => ?_)
          have f12 : 0 ≤ v11.toInt ∧ v11.toInt < 4096 := by rw [ev11]; exact i_or 12 (by omega) (by omega) (by omega) (by omega)
          refine lv_istore_n (lv' := [(2, .int v11), (3, .int x3_4), (0, .ref a0), (1, .int x1)]) hx hb dX5_bitsOf_30 rfl hl (by decide) rfl (fun ls hl => ?_)
          obtain ⟨v13, ev13⟩ : ∃ y : Int32, y = x3_4 + (1) := ⟨_, rfl⟩
          have f14 : v13.toInt = x3_4.toInt + (1) := by rw [ev13]; exact i_addc k_1 (by omega) (by omega)
          refine lv_iinc (v := v13) (lv' := [(3, .int v13), (2, .int v11), (0, .ref a0), (1, .int x1)]) hx hb dX5_bitsOf_31 hl (k := 1) rfl (by rw [ev13]; rfl) (by decide) rfl (fun ls hl => ?_)
          refine lv_goto (tgt := 4) hx hb dX5_bitsOf_34 (by decide) ?_
          exact ih4 v13 v11 ls (by omega) (by omega) (by rw [show v13.toInt.toNat = x3_4.toInt.toNat + 1 by omega, bto_s (by rw [← hpre _ (by omega), pv_h (by omega)]; show (fI D s.heap 1 (eR s.heap (fR D s.heap 5 a0 1) x3_4.toInt.toNat) 0).toInt = x1.toInt; omega), ev11]; exact or_add u4_0 (bto_lt _ _ _) (sh1 (by omega) (by omega) ev9) (by omega)) (by omega) (by omega) (lv_sub hl [0, 1, 2, 3] rfl)
  have k_0 : (0 : Int32).toInt = 0 := by decide
  exact Lp4 13 (0 : Int32) (0 : Int32) ls (by omega) (by omega) (by rw [show (0 : Int32).toInt.toNat = 0 by decide]; (show (0 : Int32).toInt = ((0 : Nat) : Int)); decide) (by omega)  (by omega) (lv_sub hl [0, 1, 2, 3] rfl)
