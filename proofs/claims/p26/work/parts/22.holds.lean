theorem aq_38 (n : Nat) (f : Nat → Int32) : aok 38 n f ↔ n = 400 := Iff.rfl
theorem ak_38 {n : Nat} {f g : Nat → Int32} (h : aok 38 n f) : aok 38 n g := (aq_38 n g).mpr ((aq_38 n f).mp h)

theorem SK_step {f : Nat → Int32} {e i t : Nat} (h : i < e) (hs : SK f (e - i) i t) : ((f i).toInt ≤ 11 → SK f (e - (i + 1)) (i + 1) (t + 1)) ∧ (¬ (f i).toInt ≤ 11 → (f i).toInt = 15 → 1 ≤ t ∧ SK f (e - (i + 1)) (i + 1) t) ∧ (¬ (f i).toInt ≤ 11 → (f i).toInt ≠ 15 → 2 ≤ t ∧ SK f (e - (i + 1)) (i + 1) (t - 1)) := by
  have e1 : e - i = (e - (i + 1)) + 1 := by omega
  rw [e1] at hs
  exact hs

set_option maxRecDepth 100000 in
set_option maxHeartbeats 4000000 in
theorem c_X12_holdsLine (l : Launch) (D : DD) (G : Nat → Nat) (a0 : Nat) (x1 : Int32) (x2 : Int32) (ga0 : G a0 = 30) (ix1 : 0 ≤ x1.toInt ∧ x1.toInt ≤ 11) (ix2 : 0 ≤ x2.toInt ∧ x2.toInt ≤ 11) : CE l D G yX12_holdsLine cX12_holdsLine 10 (some .boolean) 6 [.ref a0, .int x1, .int x2] (fun H => x1.toInt < (eI H (fR D H 11 a0 1) 354).toInt) [(38, 0)] (xI (fun H r H1 => 0 ≤ r.toInt ∧ r.toInt ≤ 1)) := by
  refine enter (by decide) (Nat.le_of_ble_eq_true rfl) ?_
  intro p e s m args below meth c ls Q hA hQ C hr hO hpre hl
  have hx := C.1
  have hb := C.2.1
  have S : Sd D G [(38, 0)] s.heap s.heap [] := Sd.start hO
  have hl : lv_has ls 10 [(0, .ref a0), (1, .int x1), (2, .int x2)] := hl
  have gw : G (fR D s.heap 11 a0 1) = 31 := hO.rol ga0 rfl (by decide) rfl
  obtain ⟨ff, -, -, hff, f4⟩ := hO.ia gw rfl
  have nw : aN s.heap (fR D s.heap 11 a0 1) = 2052 := len_31 hO gw
  rw [f4 354 (by omega)] at hpre
  obtain ⟨bb, ee, hbb, hee, hbe, he4, hsk⟩ := hff.2.2.2 x1.toInt.toNat (by omega)
  have kw : ∀ (H : Heap) (L : List Loc), Sd D G [(38, 0)] s.heap H L → ∀ j, j < 2052 → eI H (fR D H 11 a0 1) j = ff j := fun H L S9 j hj => by rw [S9.2.1.fR ga0 rfl (by decide) (by decide)]; exact (congrArg vI (eV_of (S9.2.1.c gw rfl (by decide)) j)).trans (f4 j (by omega))
  refine lv_iconst (v := 0) hx hb dX12_holdsLine_0 (by decide) ?_
  refine lv_istore_n (lv' := [(3, .int (0 : Int32)), (0, .ref a0), (1, .int x1), (2, .int x2)]) hx hb dX12_holdsLine_1 rfl hl (by decide) rfl (fun ls hl => ?_)
  refine lv_sipush (v := 355) hx hb dX12_holdsLine_2 (by decide) ?_
  refine lv_iconst (v := 4) hx hb dX12_holdsLine_5 (by decide) ?_
  refine lv_iload_n hx hb dX12_holdsLine_6 rfl (lv_at hl 2 rfl) ?_
  have k_4 : (4 : Int32).toInt = 4 := by decide
  refine lv_imul hx hb dX12_holdsLine_7 ?_
  refine lv_topi (fun v1 ev1 => ?_)
  have f2 : v1.toInt = (4) * x1.toInt := by rw [ev1]; exact i_cmul k_4 (by omega) (by omega)
  have k_355 : (355 : Int32).toInt = 355 := by decide
  refine lv_iadd hx hb dX12_holdsLine_8 ?_
  refine lv_topi (fun v3 ev3 => ?_)
  have f4 : v3.toInt = (355 : Int32).toInt + v1.toInt := by rw [ev3]; exact i_add (by omega) (by omega)
  refine lv_istore (lv' := [(4, .int v3), (3, .int (0 : Int32)), (0, .ref a0), (1, .int x1), (2, .int x2)]) hx hb dX12_holdsLine_9 hl (by decide) rfl (fun ls hl => ?_)
  refine lv_aload_n hx hb dX12_holdsLine_11 rfl (lv_at hl 2 rfl) ?_
  refine q_gr (T := TX12) C S.1 ga0 1 kF_X12_13 dX12_holdsLine_12 rfl rfl (by decide) rfl (by decide) rfl (fun g5 => ?_)
  refine lv_iload hx hb dX12_holdsLine_15 (lv_at hl 0 rfl) ?_
  refine lv_iconst (v := 2) hx hb dX12_holdsLine_17 (by decide) ?_
  have k_2 : (2 : Int32).toInt = 2 := by decide
  refine lv_iadd hx hb dX12_holdsLine_18 ?_
  refine lv_topi (fun v6 ev6 => ?_)
  have f7 : v6.toInt = v3.toInt + (2 : Int32).toInt := by rw [ev6]; exact i_add (by omega) (by omega)
  have n8 : aN s.heap (fR D s.heap 11 a0 1) = 2052 := len_31 S.1 g5
  refine q_iald C S.1 g5 (by omega) (by omega) dX12_holdsLine_19 rfl (by decide) ?_
  refine lv_topi (fun v9 ev9 => ?_)
  have q19 : v9.toInt = bb := by rw [ev9, kw _ _ S _ (by omega), show v6.toInt.toNat = 357 + 4 * x1.toInt.toNat by omega]; exact hbb
  refine lv_istore (lv' := [(5, .int v9), (4, .int v3), (3, .int (0 : Int32)), (0, .ref a0), (1, .int x1), (2, .int x2)]) hx hb dX12_holdsLine_20 hl (by decide) rfl (fun ls hl => ?_)
  have Lp22 : ∀ (n : Nat) (x5_22 : Int32) (x3_22 : Int32) (H_22 : Heap) (L_22 : List Loc) (ls : Array Slot), (Sd D G [(38, 0)] s.heap H_22 L_22) → (0 ≤ x5_22.toInt ∧ x5_22.toInt ≤ 400) → (0 ≤ x3_22.toInt ∧ x3_22.toInt ≤ 400) → (∃ t i : Nat, x3_22.toInt = t ∧ x5_22.toInt = i ∧ bb ≤ i ∧ i ≤ ee ∧ t ≤ i - bb ∧ SK (fun j => ff (403 + 2 * j)) (ee - i) i t) → 401 - x5_22.toInt ≤ (n : Int) → lv_has ls 10 [(5, .int x5_22), (4, .int v3), (3, .int x3_22), (0, .ref a0), (2, .int x2)] → W p l e (rmU 6 0 0) s m args below meth c H_22 L_22 0 0 Q (F0 m 22 ls []) := by
    intro n
    induction n with
    | zero =>
      intro x5_22 x3_22 H_22 L_22 ls S_22 j22_0 j22_1 u22_0 hn hl
      exact absurd hn (by omega)
    | succ n ih22 =>
      intro x5_22 x3_22 H_22 L_22 ls S_22 j22_0 j22_1 u22_0 hn hl
      obtain ⟨tt, ii, ht, hi, hbi, hie, hti, hs⟩ := u22_0
      refine lv_iload hx hb dX12_holdsLine_22 (lv_at hl 0 rfl) ?_
      refine lv_aload_n hx hb dX12_holdsLine_24 rfl (lv_at hl 3 rfl) ?_
      refine q_gr (T := TX12) C S_22.1 ga0 1 kF_X12_13 dX12_holdsLine_25 rfl rfl (by decide) rfl (by decide) rfl (fun g10 => ?_)
      refine lv_iload hx hb dX12_holdsLine_28 (lv_at hl 1 rfl) ?_
      refine lv_iconst (v := 3) hx hb dX12_holdsLine_30 (by decide) ?_
      have k_3 : (3 : Int32).toInt = 3 := by decide
      refine lv_iadd hx hb dX12_holdsLine_31 ?_
      refine lv_topi (fun v11 ev11 => ?_)
      have f12 : v11.toInt = v3.toInt + (3 : Int32).toInt := by rw [ev11]; exact i_add (by omega) (by omega)
      have n13 : aN H_22 (fR D H_22 11 a0 1) = 2052 := len_31 S_22.1 g10
      refine q_iald C S_22.1 g10 (by omega) (by omega) dX12_holdsLine_32 rfl (by decide) ?_
      refine lv_topi (fun v14 ev14 => ?_)
      have q32 : v14.toInt = ee := by rw [ev14, kw _ _ S_22 _ (by omega), show v11.toInt.toNat = 358 + 4 * x1.toInt.toNat by omega]; exact hee
      refine lv_icmp_ge (tgt := 263) hx hb dX12_holdsLine_33 (by decide) (fun c15 => ?_) (fun c15 => ?_)
      · have b15 : v14.toInt ≤ x5_22.toInt := i_le.mp c15
        refine lv_iload_n hx hb dX12_holdsLine_263 rfl (lv_at hl 2 rfl) ?_
        have k_0 : (0 : Int32).toInt = 0 := by decide
        refine lv_if_eq (tgt := 277) hx hb dX12_holdsLine_264 (by decide) (fun c16 => ?_) (fun c16 => ?_)
        · have b16 : x3_22.toInt = (0 : Int32).toInt := i_eq.mp c16
          refine lv_iconst (v := 1) hx hb dX12_holdsLine_277 (by decide) ?_
          refine lv_goto (tgt := 282) hx hb dX12_holdsLine_278 (by decide) ?_
          have k_1 : (1 : Int32).toInt = 1 := by decide
          exact retE_z hQ C S_22 hr dX12_holdsLine_282 (z01 (by omega) (by omega)) (by omega)
        · have b16 : ¬ x3_22.toInt = (0 : Int32).toInt := fun z9 => c16 (i_eq.mpr z9)
          refine lv_aload_n hx hb dX12_holdsLine_267 rfl (lv_at hl 3 rfl) ?_
          refine q_gr (T := TX12) C S_22.1 ga0 17 kF_X12_39 dX12_holdsLine_268 rfl rfl (by decide) rfl (by decide) rfl (fun g17 => ?_)
          refine lv_iconst (v := 0) hx hb dX12_holdsLine_271 (by decide) ?_
          have n18 : aN H_22 (fR D H_22 11 a0 17) = 400 := len_38 S_22.1 g17
          refine q_iald C S_22.1 g17 (by omega) (by omega) dX12_holdsLine_272 rfl (by decide) ?_
          refine lv_topi (fun v19 ev19 => ?_)
          refine lv_iconst (v := 1) hx hb dX12_holdsLine_273 (by decide) ?_
          have k_1 : (1 : Int32).toInt = 1 := by decide
          refine lv_icmp_ne (tgt := 281) hx hb dX12_holdsLine_274 (by decide) (fun c20 => ?_) (fun c20 => ?_)
          · have b20 : ¬ v19.toInt = (1 : Int32).toInt := fun z9 => c20 (i_eq.mpr z9)
            refine lv_iconst (v := 0) hx hb dX12_holdsLine_281 (by decide) ?_
            exact retE_z hQ C S_22 hr dX12_holdsLine_282 (z01 (by omega) (by omega)) (by omega)
          · have b20 : v19.toInt = (1 : Int32).toInt := i_eq.mp c20
            refine lv_iconst (v := 1) hx hb dX12_holdsLine_277 (by decide) ?_
            refine lv_goto (tgt := 282) hx hb dX12_holdsLine_278 (by decide) ?_
            exact retE_z hQ C S_22 hr dX12_holdsLine_282 (z01 (by omega) (by omega)) (by omega)
      · have b15 : ¬ v14.toInt ≤ x5_22.toInt := fun z9 => c15 (i_le.mpr z9)
        have hs2 := SK_step (by omega) hs
        refine lv_aload_n hx hb dX12_holdsLine_36 rfl (lv_at hl 3 rfl) ?_
        refine q_gr (T := TX12) C S_22.1 ga0 1 kF_X12_13 dX12_holdsLine_37 rfl rfl (by decide) rfl (by decide) rfl (fun g21 => ?_)
        refine lv_sipush (v := 403) hx hb dX12_holdsLine_40 (by decide) ?_
        refine lv_iconst (v := 2) hx hb dX12_holdsLine_43 (by decide) ?_
        refine lv_iload hx hb dX12_holdsLine_44 (lv_at hl 0 rfl) ?_
        refine lv_imul hx hb dX12_holdsLine_46 ?_
        refine lv_topi (fun v22 ev22 => ?_)
        have f23 : v22.toInt = (2) * x5_22.toInt := by rw [ev22]; exact i_cmul k_2 (by omega) (by omega)
        have k_403 : (403 : Int32).toInt = 403 := by decide
        refine lv_iadd hx hb dX12_holdsLine_47 ?_
        refine lv_topi (fun v24 ev24 => ?_)
        have f25 : v24.toInt = (403 : Int32).toInt + v22.toInt := by rw [ev24]; exact i_add (by omega) (by omega)
        refine q_iald C S_22.1 g21 (by omega) (by omega) dX12_holdsLine_48 rfl (by decide) ?_
        refine lv_topi (fun v26 ev26 => ?_)
        have q48 : v26.toInt = (ff (403 + 2 * ii)).toInt := by rw [ev26, kw _ _ S_22 _ (by omega), show v24.toInt.toNat = 403 + 2 * ii by omega]
        refine lv_istore (lv' := [(6, .int v26), (5, .int x5_22), (4, .int v3), (3, .int x3_22), (0, .ref a0), (2, .int x2)]) hx hb dX12_holdsLine_49 hl (by decide) rfl (fun ls hl => ?_)
        refine lv_iload hx hb dX12_holdsLine_51 (lv_at hl 0 rfl) ?_
        refine lv_bipush (v := 11) hx hb dX12_holdsLine_53 (by decide) ?_
        have k_11 : (11 : Int32).toInt = 11 := by decide
        refine lv_icmp_gt (tgt := 92) hx hb dX12_holdsLine_55 (by decide) (fun c27 => ?_) (fun c27 => ?_)
        · have b27 : (11 : Int32).toInt < v26.toInt := i_lt.mp c27
          refine lv_iload hx hb dX12_holdsLine_92 (lv_at hl 0 rfl) ?_
          refine lv_bipush (v := 15) hx hb dX12_holdsLine_94 (by decide) ?_
          have k_15 : (15 : Int32).toInt = 15 := by decide
          refine lv_icmp_ne (tgt := 120) hx hb dX12_holdsLine_96 (by decide) (fun c28 => ?_) (fun c28 => ?_)
          · have b28 : ¬ v26.toInt = (15 : Int32).toInt := fun z9 => c28 (i_eq.mpr z9)
            obtain ⟨h1t, hs3⟩ := hs2.2.2 (by show ¬ (ff (403 + 2 * ii)).toInt ≤ 11; omega) (by show (ff (403 + 2 * ii)).toInt ≠ 15; omega)
            obtain ⟨v29, ev29⟩ : ∃ y : Int32, y = x3_22 + (-1) := ⟨_, rfl⟩
            have k_m1 : (-1 : Int32).toInt = -1 := by decide
            have f30 : v29.toInt = x3_22.toInt + (-1) := by rw [ev29]; exact i_addc k_m1 (by omega) (by omega)
            refine lv_iinc (v := v29) (lv' := [(3, .int v29), (6, .int v26), (5, .int x5_22), (4, .int v3), (0, .ref a0), (2, .int x2)]) hx hb dX12_holdsLine_120 hl (k := 3) rfl (by rw [ev29]; rfl) (by decide) rfl (fun ls hl => ?_)
            refine lv_aload_n hx hb dX12_holdsLine_123 rfl (lv_at hl 4 rfl) ?_
            refine q_gr (T := TX12) C S_22.1 ga0 17 kF_X12_39 dX12_holdsLine_124 rfl rfl (by decide) rfl (by decide) rfl (fun g31 => ?_)
            refine lv_iload_n hx hb dX12_holdsLine_127 rfl (lv_at hl 0 rfl) ?_
            refine lv_iconst (v := 1) hx hb dX12_holdsLine_128 (by decide) ?_
            have k_1 : (1 : Int32).toInt = 1 := by decide
            refine lv_isub hx hb dX12_holdsLine_129 ?_
            refine lv_topi (fun v32 ev32 => ?_)
            have f33 : v32.toInt = v29.toInt - (1 : Int32).toInt := by rw [ev32]; exact i_sub (by omega) (by omega)
            have n34 : aN H_22 (fR D H_22 11 a0 17) = 400 := len_38 S_22.1 g31
            refine q_iald C S_22.1 g31 (by omega) (by omega) dX12_holdsLine_130 rfl (by decide) ?_
            refine lv_topi (fun v35 ev35 => ?_)
            refine lv_istore (lv' := [(7, .int v35), (3, .int v29), (6, .int v26), (5, .int x5_22), (4, .int v3), (0, .ref a0), (2, .int x2)]) hx hb dX12_holdsLine_131 hl (by decide) rfl (fun ls hl => ?_)
            refine lv_aload_n hx hb dX12_holdsLine_133 rfl (lv_at hl 5 rfl) ?_
            refine q_gr (T := TX12) C S_22.1 ga0 17 kF_X12_39 dX12_holdsLine_134 rfl rfl (by decide) rfl (by decide) rfl (fun g36 => ?_)
            refine lv_iload_n hx hb dX12_holdsLine_137 rfl (lv_at hl 1 rfl) ?_
            refine q_iald C S_22.1 g36 (by omega) (by omega) dX12_holdsLine_138 rfl (by decide) ?_
            refine lv_topi (fun v37 ev37 => ?_)
            refine lv_istore (lv' := [(8, .int v37), (7, .int v35), (3, .int v29), (6, .int v26), (5, .int x5_22), (4, .int v3), (0, .ref a0), (2, .int x2)]) hx hb dX12_holdsLine_139 hl (by decide) rfl (fun ls hl => ?_)
            refine lv_iload hx hb dX12_holdsLine_141 (lv_at hl 3 rfl) ?_
            refine lv_bipush (v := 13) hx hb dX12_holdsLine_143 (by decide) ?_
            have J39 : ∀ z40 : Int32, (0 ≤ z40.toInt ∧ z40.toInt ≤ 1) → W p l e (rmU 6 0 0) s m args below meth c H_22 L_22 0 0 Q (F0 m 222 ls [.int z40]) := by
              intro z40 jz40
              refine lv_istore (lv' := [(9, .int z40), (8, .int v37), (7, .int v35), (3, .int v29), (6, .int v26), (5, .int x5_22), (4, .int v3), (0, .ref a0), (2, .int x2)]) hx hb dX12_holdsLine_222 hl (by decide) rfl (fun ls hl => ?_)
              refine lv_aload_n hx hb dX12_holdsLine_224 rfl (lv_at hl 7 rfl) ?_
              refine q_gr (T := TX12) C S_22.1 ga0 17 kF_X12_39 dX12_holdsLine_225 rfl rfl (by decide) rfl (by decide) rfl (fun g41 => ?_)
              refine lv_iload_n hx hb dX12_holdsLine_228 rfl (lv_at hl 3 rfl) ?_
              refine lv_iconst (v := 1) hx hb dX12_holdsLine_229 (by decide) ?_
              refine lv_isub hx hb dX12_holdsLine_230 ?_
              refine lv_topi (fun v42 ev42 => ?_)
              have f43 : v42.toInt = v29.toInt - (1 : Int32).toInt := by rw [ev42]; exact i_sub (by omega) (by omega)
              refine lv_iload hx hb dX12_holdsLine_231 (lv_at hl 4 rfl) ?_
              refine lv_bipush (v := 12) hx hb dX12_holdsLine_233 (by decide) ?_
              have k_12 : (12 : Int32).toInt = 12 := by decide
              refine lv_icmp_ne (tgt := 246) hx hb dX12_holdsLine_235 (by decide) (fun c44 => ?_) (fun c44 => ?_)
              · have b44 : ¬ v26.toInt = (12 : Int32).toInt := fun z9 => c44 (i_eq.mpr z9)
                refine lv_iload hx hb dX12_holdsLine_246 (lv_at hl 0 rfl) ?_
                have k_0 : (0 : Int32).toInt = 0 := by decide
                refine lv_if_eq (tgt := 255) hx hb dX12_holdsLine_248 (by decide) (fun c45 => ?_) (fun c45 => ?_)
                · have b45 : z40.toInt = (0 : Int32).toInt := i_eq.mp c45
                  refine lv_iconst (v := 0) hx hb dX12_holdsLine_255 (by decide) ?_
                  refine q_iast C S_22 g41 (by omega) (by omega) dX12_holdsLine_256 rfl (by decide) (by decide +kernel) (fun _ _ h => ak_38 h) (fun H46 L46 S46 P46 => ?_)
                  obtain ⟨v47, ev47⟩ : ∃ y : Int32, y = x5_22 + (1) := ⟨_, rfl⟩
                  have f48 : v47.toInt = x5_22.toInt + (1) := by rw [ev47]; exact i_addc k_1 (by omega) (by omega)
                  refine lv_iinc (v := v47) (lv' := [(5, .int v47), (9, .int z40), (8, .int v37), (7, .int v35), (3, .int v29), (6, .int v26), (4, .int v3), (0, .ref a0), (2, .int x2)]) hx hb dX12_holdsLine_257 hl (k := 5) rfl (by rw [ev47]; rfl) (by decide) rfl (fun ls hl => ?_)
                  refine lv_goto (tgt := 22) hx hb dX12_holdsLine_260 (by decide) ?_
                  exact ih22 v47 v29 H46 L46 ls S46 (by omega) (by omega) (by first | exact ⟨tt + 1, ii + 1, by omega, by omega, by omega, by omega, by omega, hs3⟩ | exact ⟨tt, ii + 1, by omega, by omega, by omega, by omega, by omega, hs3⟩ | exact ⟨tt - 1, ii + 1, by omega, by omega, by omega, by omega, by omega, hs3⟩) (by omega) (lv_sub hl [0, 6, 4, 7, 8] rfl)
                · have b45 : ¬ z40.toInt = (0 : Int32).toInt := fun z9 => c45 (i_eq.mpr z9)
                  refine lv_iconst (v := 1) hx hb dX12_holdsLine_251 (by decide) ?_
                  refine lv_goto (tgt := 256) hx hb dX12_holdsLine_252 (by decide) ?_
                  refine q_iast C S_22 g41 (by omega) (by omega) dX12_holdsLine_256 rfl (by decide) (by decide +kernel) (fun _ _ h => ak_38 h) (fun H49 L49 S49 P49 => ?_)
                  obtain ⟨v50, ev50⟩ : ∃ y : Int32, y = x5_22 + (1) := ⟨_, rfl⟩
                  have f51 : v50.toInt = x5_22.toInt + (1) := by rw [ev50]; exact i_addc k_1 (by omega) (by omega)
                  refine lv_iinc (v := v50) (lv' := [(5, .int v50), (9, .int z40), (8, .int v37), (7, .int v35), (3, .int v29), (6, .int v26), (4, .int v3), (0, .ref a0), (2, .int x2)]) hx hb dX12_holdsLine_257 hl (k := 5) rfl (by rw [ev50]; rfl) (by decide) rfl (fun ls hl => ?_)
                  refine lv_goto (tgt := 22) hx hb dX12_holdsLine_260 (by decide) ?_
                  exact ih22 v50 v29 H49 L49 ls S49 (by omega) (by omega) (by first | exact ⟨tt + 1, ii + 1, by omega, by omega, by omega, by omega, by omega, hs3⟩ | exact ⟨tt, ii + 1, by omega, by omega, by omega, by omega, by omega, hs3⟩ | exact ⟨tt - 1, ii + 1, by omega, by omega, by omega, by omega, by omega, hs3⟩) (by omega) (lv_sub hl [0, 6, 4, 7, 8] rfl)
              · have b44 : v26.toInt = (12 : Int32).toInt := i_eq.mp c44
                refine lv_iload hx hb dX12_holdsLine_238 (lv_at hl 2 rfl) ?_
                refine lv_iload hx hb dX12_holdsLine_240 (lv_at hl 1 rfl) ?_
                refine lv_iadd hx hb dX12_holdsLine_242 ?_
                refine lv_topi (fun v52 ev52 => ?_)
                refine lv_goto (tgt := 256) hx hb dX12_holdsLine_243 (by decide) ?_
                refine q_iast C S_22 g41 (by omega) (by omega) dX12_holdsLine_256 rfl (by decide) (by decide +kernel) (fun _ _ h => ak_38 h) (fun H53 L53 S53 P53 => ?_)
                obtain ⟨v54, ev54⟩ : ∃ y : Int32, y = x5_22 + (1) := ⟨_, rfl⟩
                have f55 : v54.toInt = x5_22.toInt + (1) := by rw [ev54]; exact i_addc k_1 (by omega) (by omega)
                refine lv_iinc (v := v54) (lv' := [(5, .int v54), (9, .int z40), (8, .int v37), (7, .int v35), (3, .int v29), (6, .int v26), (4, .int v3), (0, .ref a0), (2, .int x2)]) hx hb dX12_holdsLine_257 hl (k := 5) rfl (by rw [ev54]; rfl) (by decide) rfl (fun ls hl => ?_)
                refine lv_goto (tgt := 22) hx hb dX12_holdsLine_260 (by decide) ?_
                exact ih22 v54 v29 H53 L53 ls S53 (by omega) (by omega) (by first | exact ⟨tt + 1, ii + 1, by omega, by omega, by omega, by omega, by omega, hs3⟩ | exact ⟨tt, ii + 1, by omega, by omega, by omega, by omega, by omega, hs3⟩ | exact ⟨tt - 1, ii + 1, by omega, by omega, by omega, by omega, by omega, hs3⟩) (by omega) (lv_sub hl [0, 6, 4, 7, 8] rfl)
            have k_13 : (13 : Int32).toInt = 13 := by decide
            refine lv_icmp_ne (tgt := 163) hx hb dX12_holdsLine_145 (by decide) (fun c38 => ?_) (fun c38 => ?_)
            · have b38 : ¬ v26.toInt = (13 : Int32).toInt := fun z9 => c38 (i_eq.mpr z9)
              refine lv_iload hx hb dX12_holdsLine_163 (lv_at hl 3 rfl) ?_
              refine lv_bipush (v := 14) hx hb dX12_holdsLine_165 (by decide) ?_
              have k_14 : (14 : Int32).toInt = 14 := by decide
              refine lv_icmp_ne (tgt := 185) hx hb dX12_holdsLine_167 (by decide) (fun c56 => ?_) (fun c56 => ?_)
              · have b56 : ¬ v26.toInt = (14 : Int32).toInt := fun z9 => c56 (i_eq.mpr z9)
                refine lv_iload hx hb dX12_holdsLine_185 (lv_at hl 3 rfl) ?_
                refine lv_bipush (v := 16) hx hb dX12_holdsLine_187 (by decide) ?_
                have k_16 : (16 : Int32).toInt = 16 := by decide
                refine lv_icmp_ne (tgt := 209) hx hb dX12_holdsLine_189 (by decide) (fun c57 => ?_) (fun c57 => ?_)
                · have b57 : ¬ v26.toInt = (16 : Int32).toInt := fun z9 => c57 (i_eq.mpr z9)
                  refine lv_iload hx hb dX12_holdsLine_209 (lv_at hl 1 rfl) ?_
                  refine lv_iload hx hb dX12_holdsLine_211 (lv_at hl 0 rfl) ?_
                  refine lv_iadd hx hb dX12_holdsLine_213 ?_
                  refine lv_topi (fun v58 ev58 => ?_)
                  have k_0 : (0 : Int32).toInt = 0 := by decide
                  refine lv_if_le (tgt := 221) hx hb dX12_holdsLine_214 (by decide) (fun c59 => ?_) (fun c59 => ?_)
                  · have b59 : v58.toInt ≤ (0 : Int32).toInt := i_le.mp c59
                    refine lv_iconst (v := 0) hx hb dX12_holdsLine_221 (by decide) ?_
                    exact J39 (0 : Int32) (by omega)
                  · have b59 : ¬ v58.toInt ≤ (0 : Int32).toInt := fun z9 => c59 (i_le.mpr z9)
                    refine lv_iconst (v := 1) hx hb dX12_holdsLine_217 (by decide) ?_
                    refine lv_goto (tgt := 222) hx hb dX12_holdsLine_218 (by decide) ?_
                    exact J39 (1 : Int32) (by omega)
                · have b57 : v26.toInt = (16 : Int32).toInt := i_eq.mp c57
                  refine lv_iload hx hb dX12_holdsLine_192 (lv_at hl 1 rfl) ?_
                  refine lv_iload hx hb dX12_holdsLine_194 (lv_at hl 0 rfl) ?_
                  refine lv_iadd hx hb dX12_holdsLine_196 ?_
                  refine lv_topi (fun v60 ev60 => ?_)
                  refine lv_iconst (v := 2) hx hb dX12_holdsLine_197 (by decide) ?_
                  refine lv_icmp_ne (tgt := 205) hx hb dX12_holdsLine_198 (by decide) (fun c61 => ?_) (fun c61 => ?_)
                  · have b61 : ¬ v60.toInt = (2 : Int32).toInt := fun z9 => c61 (i_eq.mpr z9)
                    refine lv_iconst (v := 0) hx hb dX12_holdsLine_205 (by decide) ?_
                    refine lv_goto (tgt := 222) hx hb dX12_holdsLine_206 (by decide) ?_
                    have k_0 : (0 : Int32).toInt = 0 := by decide
                    exact J39 (0 : Int32) (by omega)
                  · have b61 : v60.toInt = (2 : Int32).toInt := i_eq.mp c61
                    refine lv_iconst (v := 1) hx hb dX12_holdsLine_201 (by decide) ?_
                    refine lv_goto (tgt := 222) hx hb dX12_holdsLine_202 (by decide) ?_
                    exact J39 (1 : Int32) (by omega)
              · have b56 : v26.toInt = (14 : Int32).toInt := i_eq.mp c56
                refine lv_iload hx hb dX12_holdsLine_170 (lv_at hl 1 rfl) ?_
                refine lv_iload hx hb dX12_holdsLine_172 (lv_at hl 0 rfl) ?_
                refine lv_icmp_le (tgt := 181) hx hb dX12_holdsLine_174 (by decide) (fun c62 => ?_) (fun c62 => ?_)
                · have b62 : v35.toInt ≤ v37.toInt := i_le.mp c62
                  refine lv_iconst (v := 0) hx hb dX12_holdsLine_181 (by decide) ?_
                  refine lv_goto (tgt := 222) hx hb dX12_holdsLine_182 (by decide) ?_
                  have k_0 : (0 : Int32).toInt = 0 := by decide
                  exact J39 (0 : Int32) (by omega)
                · have b62 : ¬ v35.toInt ≤ v37.toInt := fun z9 => c62 (i_le.mpr z9)
                  refine lv_iconst (v := 1) hx hb dX12_holdsLine_177 (by decide) ?_
                  refine lv_goto (tgt := 222) hx hb dX12_holdsLine_178 (by decide) ?_
                  exact J39 (1 : Int32) (by omega)
            · have b38 : v26.toInt = (13 : Int32).toInt := i_eq.mp c38
              refine lv_iload hx hb dX12_holdsLine_148 (lv_at hl 1 rfl) ?_
              refine lv_iload hx hb dX12_holdsLine_150 (lv_at hl 0 rfl) ?_
              refine lv_icmp_ge (tgt := 159) hx hb dX12_holdsLine_152 (by decide) (fun c63 => ?_) (fun c63 => ?_)
              · have b63 : v37.toInt ≤ v35.toInt := i_le.mp c63
                refine lv_iconst (v := 0) hx hb dX12_holdsLine_159 (by decide) ?_
                refine lv_goto (tgt := 222) hx hb dX12_holdsLine_160 (by decide) ?_
                have k_0 : (0 : Int32).toInt = 0 := by decide
                exact J39 (0 : Int32) (by omega)
              · have b63 : ¬ v37.toInt ≤ v35.toInt := fun z9 => c63 (i_le.mpr z9)
                refine lv_iconst (v := 1) hx hb dX12_holdsLine_155 (by decide) ?_
                refine lv_goto (tgt := 222) hx hb dX12_holdsLine_156 (by decide) ?_
                exact J39 (1 : Int32) (by omega)
          · have b28 : v26.toInt = (15 : Int32).toInt := i_eq.mp c28
            obtain ⟨h1t, hs3⟩ := hs2.2.1 (by show ¬ (ff (403 + 2 * ii)).toInt ≤ 11; omega) (by show (ff (403 + 2 * ii)).toInt = 15; omega)
            refine lv_aload_n hx hb dX12_holdsLine_99 rfl (lv_at hl 4 rfl) ?_
            refine q_gr (T := TX12) C S_22.1 ga0 17 kF_X12_39 dX12_holdsLine_100 rfl rfl (by decide) rfl (by decide) rfl (fun g64 => ?_)
            refine lv_iload_n hx hb dX12_holdsLine_103 rfl (lv_at hl 3 rfl) ?_
            refine lv_iconst (v := 1) hx hb dX12_holdsLine_104 (by decide) ?_
            have k_1 : (1 : Int32).toInt = 1 := by decide
            refine lv_isub hx hb dX12_holdsLine_105 ?_
            refine lv_topi (fun v65 ev65 => ?_)
            have f66 : v65.toInt = x3_22.toInt - (1 : Int32).toInt := by rw [ev65]; exact i_sub (by omega) (by omega)
            refine lv_iconst (v := 1) hx hb dX12_holdsLine_106 (by decide) ?_
            refine lv_aload_n hx hb dX12_holdsLine_107 rfl (lv_at hl 4 rfl) ?_
            refine q_gr (T := TX12) C S_22.1 ga0 17 kF_X12_39 dX12_holdsLine_108 rfl rfl (by decide) rfl (by decide) rfl (fun g67 => ?_)
            refine lv_iload_n hx hb dX12_holdsLine_111 rfl (lv_at hl 3 rfl) ?_
            refine lv_iconst (v := 1) hx hb dX12_holdsLine_112 (by decide) ?_
            refine lv_isub hx hb dX12_holdsLine_113 ?_
            refine lv_topi (fun v68 ev68 => ?_)
            have f69 : v68.toInt = x3_22.toInt - (1 : Int32).toInt := by rw [ev68]; exact i_sub (by omega) (by omega)
            have n70 : aN H_22 (fR D H_22 11 a0 17) = 400 := len_38 S_22.1 g67
            refine q_iald C S_22.1 g67 (by omega) (by omega) dX12_holdsLine_114 rfl (by decide) ?_
            refine lv_topi (fun v71 ev71 => ?_)
            refine lv_isub hx hb dX12_holdsLine_115 ?_
            refine lv_topi (fun v72 ev72 => ?_)
            refine q_iast C S_22 g64 (by omega) (by omega) dX12_holdsLine_116 rfl (by decide) (by decide +kernel) (fun _ _ h => ak_38 h) (fun H73 L73 S73 P73 => ?_)
            refine lv_goto (tgt := 257) hx hb dX12_holdsLine_117 (by decide) ?_
            obtain ⟨v74, ev74⟩ : ∃ y : Int32, y = x5_22 + (1) := ⟨_, rfl⟩
            have f75 : v74.toInt = x5_22.toInt + (1) := by rw [ev74]; exact i_addc k_1 (by omega) (by omega)
            refine lv_iinc (v := v74) (lv' := [(5, .int v74), (6, .int v26), (4, .int v3), (3, .int x3_22), (0, .ref a0), (2, .int x2)]) hx hb dX12_holdsLine_257 hl (k := 1) rfl (by rw [ev74]; rfl) (by decide) rfl (fun ls hl => ?_)
            refine lv_goto (tgt := 22) hx hb dX12_holdsLine_260 (by decide) ?_
            exact ih22 v74 x3_22 H73 L73 ls S73 (by omega) (by omega) (by first | exact ⟨tt + 1, ii + 1, by omega, by omega, by omega, by omega, by omega, hs3⟩ | exact ⟨tt, ii + 1, by omega, by omega, by omega, by omega, by omega, hs3⟩ | exact ⟨tt - 1, ii + 1, by omega, by omega, by omega, by omega, by omega, hs3⟩) (by omega) (lv_sub hl [0, 2, 3, 4, 5] rfl)
        · have b27 : ¬ (11 : Int32).toInt < v26.toInt := fun z9 => c27 (i_lt.mpr z9)
          have hs3 := hs2.1 (by show (ff (403 + 2 * ii)).toInt ≤ 11; omega)
          refine lv_aload_n hx hb dX12_holdsLine_58 rfl (lv_at hl 4 rfl) ?_
          refine q_gr (T := TX12) C S_22.1 ga0 17 kF_X12_39 dX12_holdsLine_59 rfl rfl (by decide) rfl (by decide) rfl (fun g76 => ?_)
          refine lv_iload_n hx hb dX12_holdsLine_62 rfl (lv_at hl 3 rfl) ?_
          refine lv_aload_n hx hb dX12_holdsLine_63 rfl (lv_at hl 4 rfl) ?_
          refine lv_iload hx hb dX12_holdsLine_64 (lv_at hl 0 rfl) ?_
          refine lv_aload_n hx hb dX12_holdsLine_66 rfl (lv_at hl 4 rfl) ?_
          refine q_gr (T := TX12) C S_22.1 ga0 1 kF_X12_13 dX12_holdsLine_67 rfl rfl (by decide) rfl (by decide) rfl (fun g77 => ?_)
          refine lv_sipush (v := 403) hx hb dX12_holdsLine_70 (by decide) ?_
          refine lv_iconst (v := 2) hx hb dX12_holdsLine_73 (by decide) ?_
          refine lv_iload hx hb dX12_holdsLine_74 (lv_at hl 1 rfl) ?_
          refine lv_imul hx hb dX12_holdsLine_76 ?_
          refine lv_topi (fun v78 ev78 => ?_)
          have f79 : v78.toInt = (2) * x5_22.toInt := by rw [ev78]; exact i_cmul k_2 (by omega) (by omega)
          refine lv_iadd hx hb dX12_holdsLine_77 ?_
          refine lv_topi (fun v80 ev80 => ?_)
          have f81 : v80.toInt = (403 : Int32).toInt + v78.toInt := by rw [ev80]; exact i_add (by omega) (by omega)
          refine lv_iconst (v := 1) hx hb dX12_holdsLine_78 (by decide) ?_
          have k_1 : (1 : Int32).toInt = 1 := by decide
          refine lv_iadd hx hb dX12_holdsLine_79 ?_
          refine lv_topi (fun v82 ev82 => ?_)
          have f83 : v82.toInt = v80.toInt + (1 : Int32).toInt := by rw [ev82]; exact i_add (by omega) (by omega)
          refine q_iald C S_22.1 g77 (by omega) (by omega) dX12_holdsLine_80 rfl (by decide) ?_
          refine lv_topi (fun v84 ev84 => ?_)
          refine lv_iload_n hx hb dX12_holdsLine_81 rfl (lv_at hl 5 rfl) ?_
          refine callV_Pi C S_22.1 S_22.2.1.2.1 (c_X12_factOf l D G a0 v26 v84 x2 ga0 (by omega)) kV_X12_257 ga0 (trivial) dX12_holdsLine_82 hl.1 rfl rfl (by decide) cd_X12_factOf ⟨Nat.le_of_ble_eq_true rfl, Nat.le_of_ble_eq_true rfl, Nat.le_of_ble_eq_true rfl, Nat.le_of_ble_eq_true rfl, Nat.le_of_ble_eq_true rfl⟩ (fun v85 q85 => ?_)
          have n86 : aN H_22 (fR D H_22 11 a0 17) = 400 := len_38 S_22.1 g76
          refine q_iast C S_22 g76 (by omega) (by omega) dX12_holdsLine_85 rfl (by decide) (by decide +kernel) (fun _ _ h => ak_38 h) (fun H87 L87 S87 P87 => ?_)
          obtain ⟨v88, ev88⟩ : ∃ y : Int32, y = x3_22 + (1) := ⟨_, rfl⟩
          have f89 : v88.toInt = x3_22.toInt + (1) := by rw [ev88]; exact i_addc k_1 (by omega) (by omega)
          refine lv_iinc (v := v88) (lv' := [(3, .int v88), (6, .int v26), (5, .int x5_22), (4, .int v3), (0, .ref a0), (2, .int x2)]) hx hb dX12_holdsLine_86 hl (k := 3) rfl (by rw [ev88]; rfl) (by decide) rfl (fun ls hl => ?_)
          refine lv_goto (tgt := 257) hx hb dX12_holdsLine_89 (by decide) ?_
          obtain ⟨v90, ev90⟩ : ∃ y : Int32, y = x5_22 + (1) := ⟨_, rfl⟩
          have f91 : v90.toInt = x5_22.toInt + (1) := by rw [ev90]; exact i_addc k_1 (by omega) (by omega)
          refine lv_iinc (v := v90) (lv' := [(5, .int v90), (3, .int v88), (6, .int v26), (4, .int v3), (0, .ref a0), (2, .int x2)]) hx hb dX12_holdsLine_257 hl (k := 2) rfl (by rw [ev90]; rfl) (by decide) rfl (fun ls hl => ?_)
          refine lv_goto (tgt := 22) hx hb dX12_holdsLine_260 (by decide) ?_
          exact ih22 v90 v88 H87 L87 ls S87 (by omega) (by omega) (by first | exact ⟨tt + 1, ii + 1, by omega, by omega, by omega, by omega, by omega, hs3⟩ | exact ⟨tt, ii + 1, by omega, by omega, by omega, by omega, by omega, hs3⟩ | exact ⟨tt - 1, ii + 1, by omega, by omega, by omega, by omega, by omega, hs3⟩) (by omega) (lv_sub hl [0, 3, 1, 4, 5] rfl)
  have k_0 : (0 : Int32).toInt = 0 := by decide
  exact Lp22 401 v9 (0 : Int32) s.heap [] ls S (by omega) (by omega) ⟨0, bb, by omega, by omega, by omega, by omega, by omega, hsk⟩  (by omega) (lv_sub hl [0, 1, 2, 3, 5] rfl)

set_option maxRecDepth 100000 in
set_option maxHeartbeats 4000000 in
theorem c_X12_remembers (l : Launch) (D : DD) (G : Nat → Nat) (a0 : Nat) (ga0 : G a0 = 30) : CE l D G yX12_remembers cX12_remembers 2 none 0 [.ref a0] (fun _ => True) [(35, 0), (30, 7)] (xV (fun H H1 => (True) ∧ (∀ Vv Kv : Sg, MI D H a0 Vv Kv → MI D H1 a0 Vv Kv))) := by
  refine enter (by decide) (Nat.le_of_ble_eq_true rfl) ?_
  intro p e s m args below meth c ls Q hA hQ C hr hO hpre hl
  have hx := C.1
  have hb := C.2.1
  have S : Sd D G [(35, 0), (30, 7)] s.heap s.heap [] := Sd.start hO
  have hl : lv_has ls 2 [(0, .ref a0)] := hl
  refine lv_aload_n hx hb dX12_remembers_0 rfl (lv_at hl 0 rfl) ?_
  refine q_gi (T := TX12) C S.1 ga0 7 kF_X12_46 dX12_remembers_1 rfl rfl (by decide) rfl (by decide) rfl ?_
  have r1 : 0 ≤ (fI D s.heap 11 a0 7).toInt ∧ (fI D s.heap 11 a0 7).toInt ≤ 12 := S.1.rng ga0 rfl (by decide) rfl
  refine lv_bipush (v := 12) hx hb dX12_remembers_4 (by decide) ?_
  have k_12 : (12 : Int32).toInt = 12 := by decide
  refine lv_icmp_ne (tgt := 43) hx hb dX12_remembers_6 (by decide) (fun c2 => ?_) (fun c2 => ?_)
  · have b2 : ¬ (fI D s.heap 11 a0 7).toInt = (12 : Int32).toInt := fun z9 => c2 (i_eq.mpr z9)
    refine lv_aload_n hx hb dX12_remembers_43 rfl (lv_at hl 0 rfl) ?_
    refine lv_dup hx hb dX12_remembers_44 rfl ?_
    refine q_gi (T := TX12) C S.1 ga0 7 kF_X12_46 dX12_remembers_45 rfl rfl (by decide) rfl (by decide) rfl ?_
    refine lv_iconst (v := 1) hx hb dX12_remembers_48 (by decide) ?_
    have k_1 : (1 : Int32).toInt = 1 := by decide
    refine lv_iadd hx hb dX12_remembers_49 ?_
    refine lv_topi (fun v3 ev3 => ?_)
    have f4 : v3.toInt = (fI D s.heap 11 a0 7).toInt + (1 : Int32).toInt := by rw [ev3]; exact i_add (by omega) (by omega)
    refine q_put (T := TX12) C S ga0 7 kF_X12_46 dX12_remembers_50 rfl rfl (by decide) (by decide) rfl rfl rfl rfl rfl (vok_i rfl (by omega) (by omega)) (by decide +kernel) (fun H5 L5 S5 P5 => ?_)
    refine lv_iconst (v := 0) hx hb dX12_remembers_53 (by decide) ?_
    refine lv_istore_n (lv' := [(1, .int (0 : Int32)), (0, .ref a0)]) hx hb dX12_remembers_54 rfl hl (by decide) rfl (fun ls hl => ?_)
    have Lp55 : ∀ (n : Nat) (x1_55 : Int32) (H_55 : Heap) (L_55 : List Loc) (ls : Array Slot), (Sd D G [(35, 0), (30, 7)] s.heap H_55 L_55) → (0 ≤ x1_55.toInt ∧ x1_55.toInt ≤ 354) → (1 ≤ (fI D H_55 11 a0 7).toInt) → (∀ Vv Kv : Sg, MI D s.heap a0 Vv Kv → ∀ r9 : Nat, (r9 : Int) + 1 < (fI D H_55 11 a0 7).toInt → SV (fW D H_55 a0 5 (354 * r9)) Vv) → (∀ j : Nat, (j : Int) < x1_55.toInt → eI H_55 (fR D s.heap 11 a0 5) (354 * ((fI D H_55 11 a0 7).toInt.toNat - 1) + j) = eI s.heap (fR D s.heap 11 a0 1) j) → 355 - x1_55.toInt ≤ (n : Int) → lv_has ls 2 [(1, .int x1_55), (0, .ref a0)] → W p l e (rmU 0 0 0) s m args below meth c H_55 L_55 0 0 Q (F0 m 55 ls []) := by
      intro n
      induction n with
      | zero =>
        intro x1_55 H_55 L_55 ls S_55 j55_0 u55_0 u55_1 u55_2 hn hl
        exact absurd hn (by omega)
      | succ n ih55 =>
        intro x1_55 H_55 L_55 ls S_55 j55_0 u55_0 u55_1 u55_2 hn hl
        refine lv_iload_n hx hb dX12_remembers_55 rfl (lv_at hl 0 rfl) ?_
        refine lv_sipush (v := 354) hx hb dX12_remembers_56 (by decide) ?_
        have k_354 : (354 : Int32).toInt = 354 := by decide
        refine lv_icmp_ge (tgt := 91) hx hb dX12_remembers_59 (by decide) (fun c6 => ?_) (fun c6 => ?_)
        · have b6 : (354 : Int32).toInt ≤ x1_55.toInt := i_le.mp c6
          exact retE_v hQ C S_55 hr dX12_remembers_91 (⟨trivial, fun Vv Kv hv => MI.rem hv hO ga0 S_55.2.1 u55_0 (u55_1 Vv Kv hv) (fun j hj => u55_2 j (by omega))⟩)
        · have b6 : ¬ (354 : Int32).toInt ≤ x1_55.toInt := fun z9 => c6 (i_le.mpr z9)
          refine lv_aload_n hx hb dX12_remembers_62 rfl (lv_at hl 1 rfl) ?_
          refine q_gr (T := TX12) C S_55.1 ga0 5 kF_X12_26 dX12_remembers_63 rfl rfl (by decide) rfl (by decide) rfl (fun g7 => ?_)
          refine lv_sipush (v := 354) hx hb dX12_remembers_66 (by decide) ?_
          refine lv_aload_n hx hb dX12_remembers_69 rfl (lv_at hl 1 rfl) ?_
          refine q_gi (T := TX12) C S_55.1 ga0 7 kF_X12_46 dX12_remembers_70 rfl rfl (by decide) rfl (by decide) rfl ?_
          have r8 : 0 ≤ (fI D H_55 11 a0 7).toInt ∧ (fI D H_55 11 a0 7).toInt ≤ 12 := S_55.1.rng ga0 rfl (by decide) rfl
          refine lv_iconst (v := 1) hx hb dX12_remembers_73 (by decide) ?_
          refine lv_isub hx hb dX12_remembers_74 ?_
          refine lv_topi (fun v9 ev9 => ?_)
          have f10 : v9.toInt = (fI D H_55 11 a0 7).toInt - (1 : Int32).toInt := by rw [ev9]; exact i_sub (by omega) (by omega)
          refine lv_imul hx hb dX12_remembers_75 ?_
          refine lv_topi (fun v11 ev11 => ?_)
          have f12 : v11.toInt = (354) * v9.toInt := by rw [ev11]; exact i_cmul k_354 (by omega) (by omega)
          refine lv_iload_n hx hb dX12_remembers_76 rfl (lv_at hl 0 rfl) ?_
          refine lv_iadd hx hb dX12_remembers_77 ?_
          refine lv_topi (fun v13 ev13 => ?_)
          have f14 : v13.toInt = v11.toInt + x1_55.toInt := by rw [ev13]; exact i_add (by omega) (by omega)
          refine lv_aload_n hx hb dX12_remembers_78 rfl (lv_at hl 1 rfl) ?_
          refine q_gr (T := TX12) C S_55.1 ga0 1 kF_X12_13 dX12_remembers_79 rfl rfl (by decide) rfl (by decide) rfl (fun g15 => ?_)
          refine lv_iload_n hx hb dX12_remembers_82 rfl (lv_at hl 0 rfl) ?_
          have n16 : aN H_55 (fR D H_55 11 a0 1) = 2052 := len_31 S_55.1 g15
          refine q_iald C S_55.1 g15 (by omega) (by omega) dX12_remembers_83 rfl (by decide) ?_
          refine lv_topi (fun v17 ev17 => ?_)
          have ec := ev17
          have wc : WAt x1_55.toInt.toNat v17 := by rw [ev17]; exact wa_31 S_55.1 g15 _ (by omega)
          have n18 : aN H_55 (fR D H_55 11 a0 5) = 4248 := len_35 S_55.1 g7
          refine q_iast C S_55 g7 (by omega) (by omega) dX12_remembers_84 rfl (by decide) (by decide +kernel) (fun _ _ h => wk_35 ((fI D H_55 11 a0 7).toInt.toNat - 1) _ _ (by omega) (by omega) wc (by omega) h) (fun H19 L19 S19 P19 => ?_)
          obtain ⟨v20, ev20⟩ : ∃ y : Int32, y = x1_55 + (1) := ⟨_, rfl⟩
          have f21 : v20.toInt = x1_55.toInt + (1) := by rw [ev20]; exact i_addc k_1 (by omega) (by omega)
          refine lv_iinc (v := v20) (lv' := [(1, .int v20), (0, .ref a0)]) hx hb dX12_remembers_85 hl (k := 0) rfl (by rw [ev20]; rfl) (by decide) rfl (fun ls hl => ?_)
          refine lv_goto (tgt := 55) hx hb dX12_remembers_88 (by decide) ?_
          exact ih55 v20 H19 L19 ls S19 (by omega) (by rw [Pa.f P19 (ne_role ga0 g7 (by decide))]; omega) (fun Vv Kv hv r9 hr9 => fW.pa (u55_1 Vv Kv hv r9 (by rw [Pa.f P19 (ne_role ga0 g7 (by decide))] at hr9; exact hr9)) (congrArg vR (fV_of (P19.2.2.1 a0 (ne_role ga0 g7 (by decide))) 11 5)) P19 (by have z9 := len_35 S_55.1 g7; rw [Pa.f P19 (ne_role ga0 g7 (by decide))] at hr9; omega) (by rw [Pa.f P19 (ne_role ga0 g7 (by decide))] at hr9; omega)) (by rw [Pa.f P19 (ne_role ga0 g7 (by decide))]; exact cp_so u55_2 P19 (by omega) (S_55.2.1.fR ga0 rfl (by decide) (by decide +kernel)) (by omega) (by omega) (by omega) (ec.trans (eK hO ga0 S_55.2.1 (by decide +kernel) (by decide +kernel) _))) (by omega) (lv_sub hl [0, 1] rfl)
    have k_0 : (0 : Int32).toInt = 0 := by decide
    exact Lp55 355 (0 : Int32) H5 L5 ls S5 (by omega) (by first | omega | (rw [Pt.i P5]; omega)) (fun Vv Kv hv r9 hr9 => fW.cell (Pt.or P5 (by decide) (by decide)) (P5.2.2.1 _ (ne_role (hO.rol (k := 5) ga0 rfl (by decide) rfl) ga0 (by decide))) (hv.2.1 r9 (by rw [Pt.i P5] at hr9; omega))) (fun j hj => absurd hj (by omega))  (by omega) (lv_sub hl [0, 1] rfl)
  · have b2 : (fI D s.heap 11 a0 7).toInt = (12 : Int32).toInt := i_eq.mp c2
    refine lv_iconst (v := 0) hx hb dX12_remembers_9 (by decide) ?_
    refine lv_istore_n (lv' := [(1, .int (0 : Int32)), (0, .ref a0)]) hx hb dX12_remembers_10 rfl hl (by decide) rfl (fun ls hl => ?_)
    have Lp11 : ∀ (n : Nat) (x1_11 : Int32) (H_11 : Heap) (L_11 : List Loc) (ls : Array Slot), (Sd D G [(35, 0), (30, 7)] s.heap H_11 L_11) → (0 ≤ x1_11.toInt ∧ x1_11.toInt ≤ 3894) → ((fI D H_11 11 a0 7).toInt = 12) → ((fI D s.heap 11 a0 7).toInt = 12) → (∀ j : Nat, j < 4248 → eI H_11 (fR D s.heap 11 a0 5) j = if (j : Int) < x1_11.toInt then eI s.heap (fR D s.heap 11 a0 5) (j + 354) else eI s.heap (fR D s.heap 11 a0 5) j) → 3895 - x1_11.toInt ≤ (n : Int) → lv_has ls 2 [(1, .int x1_11), (0, .ref a0)] → W p l e (rmU 0 0 0) s m args below meth c H_11 L_11 0 0 Q (F0 m 11 ls []) := by
      intro n
      induction n with
      | zero =>
        intro x1_11 H_11 L_11 ls S_11 j11_0 u11_0 u11_1 u11_2 hn hl
        exact absurd hn (by omega)
      | succ n ih11 =>
        intro x1_11 H_11 L_11 ls S_11 j11_0 u11_0 u11_1 u11_2 hn hl
        refine lv_iload_n hx hb dX12_remembers_11 rfl (lv_at hl 0 rfl) ?_
        refine lv_sipush (v := 3894) hx hb dX12_remembers_12 (by decide) ?_
        have k_3894 : (3894 : Int32).toInt = 3894 := by decide
        refine lv_icmp_ge (tgt := 40) hx hb dX12_remembers_15 (by decide) (fun c22 => ?_) (fun c22 => ?_)
        · have b22 : (3894 : Int32).toInt ≤ x1_11.toInt := i_le.mp c22
          refine lv_goto (tgt := 53) hx hb dX12_remembers_40 (by decide) ?_
          refine lv_iconst (v := 0) hx hb dX12_remembers_53 (by decide) ?_
          refine lv_istore_n (lv' := [(1, .int (0 : Int32)), (0, .ref a0)]) hx hb dX12_remembers_54 rfl hl (by decide) rfl (fun ls hl => ?_)
          have Lp55 : ∀ (n : Nat) (x1_55 : Int32) (H_55 : Heap) (L_55 : List Loc) (ls : Array Slot), (Sd D G [(35, 0), (30, 7)] s.heap H_55 L_55) → (0 ≤ x1_55.toInt ∧ x1_55.toInt ≤ 354) → (1 ≤ (fI D H_55 11 a0 7).toInt) → (∀ Vv Kv : Sg, MI D s.heap a0 Vv Kv → ∀ r9 : Nat, (r9 : Int) + 1 < (fI D H_55 11 a0 7).toInt → SV (fW D H_55 a0 5 (354 * r9)) Vv) → (∀ j : Nat, (j : Int) < x1_55.toInt → eI H_55 (fR D s.heap 11 a0 5) (354 * ((fI D H_55 11 a0 7).toInt.toNat - 1) + j) = eI s.heap (fR D s.heap 11 a0 1) j) → 355 - x1_55.toInt ≤ (n : Int) → lv_has ls 2 [(1, .int x1_55), (0, .ref a0)] → W p l e (rmU 0 0 0) s m args below meth c H_55 L_55 0 0 Q (F0 m 55 ls []) := by
            intro n
            induction n with
            | zero =>
              intro x1_55 H_55 L_55 ls S_55 j55_0 u55_0 u55_1 u55_2 hn hl
              exact absurd hn (by omega)
            | succ n ih55 =>
              intro x1_55 H_55 L_55 ls S_55 j55_0 u55_0 u55_1 u55_2 hn hl
              refine lv_iload_n hx hb dX12_remembers_55 rfl (lv_at hl 0 rfl) ?_
              refine lv_sipush (v := 354) hx hb dX12_remembers_56 (by decide) ?_
              have k_354 : (354 : Int32).toInt = 354 := by decide
              refine lv_icmp_ge (tgt := 91) hx hb dX12_remembers_59 (by decide) (fun c23 => ?_) (fun c23 => ?_)
              · have b23 : (354 : Int32).toInt ≤ x1_55.toInt := i_le.mp c23
                exact retE_v hQ C S_55 hr dX12_remembers_91 (⟨trivial, fun Vv Kv hv => MI.rem hv hO ga0 S_55.2.1 u55_0 (u55_1 Vv Kv hv) (fun j hj => u55_2 j (by omega))⟩)
              · have b23 : ¬ (354 : Int32).toInt ≤ x1_55.toInt := fun z9 => c23 (i_le.mpr z9)
                refine lv_aload_n hx hb dX12_remembers_62 rfl (lv_at hl 1 rfl) ?_
                refine q_gr (T := TX12) C S_55.1 ga0 5 kF_X12_26 dX12_remembers_63 rfl rfl (by decide) rfl (by decide) rfl (fun g24 => ?_)
                refine lv_sipush (v := 354) hx hb dX12_remembers_66 (by decide) ?_
                refine lv_aload_n hx hb dX12_remembers_69 rfl (lv_at hl 1 rfl) ?_
                refine q_gi (T := TX12) C S_55.1 ga0 7 kF_X12_46 dX12_remembers_70 rfl rfl (by decide) rfl (by decide) rfl ?_
                have r25 : 0 ≤ (fI D H_55 11 a0 7).toInt ∧ (fI D H_55 11 a0 7).toInt ≤ 12 := S_55.1.rng ga0 rfl (by decide) rfl
                refine lv_iconst (v := 1) hx hb dX12_remembers_73 (by decide) ?_
                have k_1 : (1 : Int32).toInt = 1 := by decide
                refine lv_isub hx hb dX12_remembers_74 ?_
                refine lv_topi (fun v26 ev26 => ?_)
                have f27 : v26.toInt = (fI D H_55 11 a0 7).toInt - (1 : Int32).toInt := by rw [ev26]; exact i_sub (by omega) (by omega)
                refine lv_imul hx hb dX12_remembers_75 ?_
                refine lv_topi (fun v28 ev28 => ?_)
                have f29 : v28.toInt = (354) * v26.toInt := by rw [ev28]; exact i_cmul k_354 (by omega) (by omega)
                refine lv_iload_n hx hb dX12_remembers_76 rfl (lv_at hl 0 rfl) ?_
                refine lv_iadd hx hb dX12_remembers_77 ?_
                refine lv_topi (fun v30 ev30 => ?_)
                have f31 : v30.toInt = v28.toInt + x1_55.toInt := by rw [ev30]; exact i_add (by omega) (by omega)
                refine lv_aload_n hx hb dX12_remembers_78 rfl (lv_at hl 1 rfl) ?_
                refine q_gr (T := TX12) C S_55.1 ga0 1 kF_X12_13 dX12_remembers_79 rfl rfl (by decide) rfl (by decide) rfl (fun g32 => ?_)
                refine lv_iload_n hx hb dX12_remembers_82 rfl (lv_at hl 0 rfl) ?_
                have n33 : aN H_55 (fR D H_55 11 a0 1) = 2052 := len_31 S_55.1 g32
                refine q_iald C S_55.1 g32 (by omega) (by omega) dX12_remembers_83 rfl (by decide) ?_
                refine lv_topi (fun v34 ev34 => ?_)
                have ec := ev34
                have wc : WAt x1_55.toInt.toNat v34 := by rw [ev34]; exact wa_31 S_55.1 g32 _ (by omega)
                have n35 : aN H_55 (fR D H_55 11 a0 5) = 4248 := len_35 S_55.1 g24
                refine q_iast C S_55 g24 (by omega) (by omega) dX12_remembers_84 rfl (by decide) (by decide +kernel) (fun _ _ h => wk_35 ((fI D H_55 11 a0 7).toInt.toNat - 1) _ _ (by omega) (by omega) wc (by omega) h) (fun H36 L36 S36 P36 => ?_)
                obtain ⟨v37, ev37⟩ : ∃ y : Int32, y = x1_55 + (1) := ⟨_, rfl⟩
                have f38 : v37.toInt = x1_55.toInt + (1) := by rw [ev37]; exact i_addc k_1 (by omega) (by omega)
                refine lv_iinc (v := v37) (lv' := [(1, .int v37), (0, .ref a0)]) hx hb dX12_remembers_85 hl (k := 0) rfl (by rw [ev37]; rfl) (by decide) rfl (fun ls hl => ?_)
                refine lv_goto (tgt := 55) hx hb dX12_remembers_88 (by decide) ?_
                exact ih55 v37 H36 L36 ls S36 (by omega) (by rw [Pa.f P36 (ne_role ga0 g24 (by decide))]; omega) (fun Vv Kv hv r9 hr9 => fW.pa (u55_1 Vv Kv hv r9 (by rw [Pa.f P36 (ne_role ga0 g24 (by decide))] at hr9; exact hr9)) (congrArg vR (fV_of (P36.2.2.1 a0 (ne_role ga0 g24 (by decide))) 11 5)) P36 (by have z9 := len_35 S_55.1 g24; rw [Pa.f P36 (ne_role ga0 g24 (by decide))] at hr9; omega) (by rw [Pa.f P36 (ne_role ga0 g24 (by decide))] at hr9; omega)) (by rw [Pa.f P36 (ne_role ga0 g24 (by decide))]; exact cp_so u55_2 P36 (by omega) (S_55.2.1.fR ga0 rfl (by decide) (by decide +kernel)) (by omega) (by omega) (by omega) (ec.trans (eK hO ga0 S_55.2.1 (by decide +kernel) (by decide +kernel) _))) (by omega) (lv_sub hl [0, 1] rfl)
          have k_0 : (0 : Int32).toInt = 0 := by decide
          exact Lp55 355 (0 : Int32) H_11 L_11 ls S_11 (by omega) (by first | omega | (rw [Pt.i ]; omega)) (fun Vv Kv hv r9 hr9 => MA.shift hv.2.1 (by have z9 := u11_0; have z8 := u11_1; omega) (S_11.2.1.fR ga0 rfl (by decide) (by decide +kernel)) (by omega) u11_2 (by have z9 := u11_0; omega)) (fun j hj => absurd hj (by omega))  (by omega) (lv_sub hl [0, 1] rfl)
        · have b22 : ¬ (3894 : Int32).toInt ≤ x1_11.toInt := fun z9 => c22 (i_le.mpr z9)
          refine lv_aload_n hx hb dX12_remembers_18 rfl (lv_at hl 1 rfl) ?_
          refine q_gr (T := TX12) C S_11.1 ga0 5 kF_X12_26 dX12_remembers_19 rfl rfl (by decide) rfl (by decide) rfl (fun g39 => ?_)
          refine lv_iload_n hx hb dX12_remembers_22 rfl (lv_at hl 0 rfl) ?_
          refine lv_aload_n hx hb dX12_remembers_23 rfl (lv_at hl 1 rfl) ?_
          refine q_gr (T := TX12) C S_11.1 ga0 5 kF_X12_26 dX12_remembers_24 rfl rfl (by decide) rfl (by decide) rfl (fun g40 => ?_)
          refine lv_iload_n hx hb dX12_remembers_27 rfl (lv_at hl 0 rfl) ?_
          refine lv_sipush (v := 354) hx hb dX12_remembers_28 (by decide) ?_
          have k_354 : (354 : Int32).toInt = 354 := by decide
          refine lv_iadd hx hb dX12_remembers_31 ?_
          refine lv_topi (fun v41 ev41 => ?_)
          have f42 : v41.toInt = x1_11.toInt + (354 : Int32).toInt := by rw [ev41]; exact i_add (by omega) (by omega)
          have n43 : aN H_11 (fR D H_11 11 a0 5) = 4248 := len_35 S_11.1 g40
          refine q_iald C S_11.1 g40 (by omega) (by omega) dX12_remembers_32 rfl (by decide) ?_
          refine lv_topi (fun v44 ev44 => ?_)
          have ec := ev44
          have wc : WAt (x1_11.toInt.toNat % 354) v44 := by rw [ev44]; exact wa_35e S_11.1 g40 (x1_11.toInt.toNat / 354 + 1) (by omega) (by omega) (by omega)
          refine q_iast C S_11 g39 (by omega) (by omega) dX12_remembers_33 rfl (by decide) (by decide +kernel) (fun _ _ h => wk_35 (x1_11.toInt.toNat / 354) _ _ (by omega) (by omega) wc (by omega) h) (fun H45 L45 S45 P45 => ?_)
          obtain ⟨v46, ev46⟩ : ∃ y : Int32, y = x1_11 + (1) := ⟨_, rfl⟩
          have k_1 : (1 : Int32).toInt = 1 := by decide
          have f47 : v46.toInt = x1_11.toInt + (1) := by rw [ev46]; exact i_addc k_1 (by omega) (by omega)
          refine lv_iinc (v := v46) (lv' := [(1, .int v46), (0, .ref a0)]) hx hb dX12_remembers_34 hl (k := 0) rfl (by rw [ev46]; rfl) (by decide) rfl (fun ls hl => ?_)
          refine lv_goto (tgt := 11) hx hb dX12_remembers_37 (by decide) ?_
          exact ih11 v46 H45 L45 ls S45 (by omega) (by rw [Pa.f P45 (ne_role ga0 g39 (by decide))]; omega) (by omega) (cp_sh u11_2 P45 (S_11.2.1.fR ga0 rfl (by decide) (by decide +kernel)) (by omega) (by omega) (len_35 S_11.1 g39) (by omega) (ec.trans (congrArg (eI H_11 _) (by omega)))) (by omega) (lv_sub hl [0, 1] rfl)
    have k_0 : (0 : Int32).toInt = 0 := by decide
    exact Lp11 3895 (0 : Int32) s.heap [] ls S (by omega) (by omega) (by omega) (fun j hj => by rw [if_neg (by omega)])  (by omega) (lv_sub hl [0, 1] rfl)

set_option maxRecDepth 100000 in
set_option maxHeartbeats 4000000 in
theorem c_X12_keepsAll (l : Launch) (D : DD) (G : Nat → Nat) (a0 : Nat) (ga0 : G a0 = 30) : CE l D G yX12_keepsAll cX12_keepsAll 2 none 0 [.ref a0] (fun _ => True) [(34, 0)] (xV (fun H H1 => (True) ∧ (∀ Vv Kv : Sg, MI D H a0 Vv Kv → MT D H1 a0 Vv Kv))) := by
  refine enter (by decide) (Nat.le_of_ble_eq_true rfl) ?_
  intro p e s m args below meth c ls Q hA hQ C hr hO hpre hl
  have hx := C.1
  have hb := C.2.1
  have S : Sd D G [(34, 0)] s.heap s.heap [] := Sd.start hO
  have hl : lv_has ls 2 [(0, .ref a0)] := hl
  refine lv_iconst (v := 0) hx hb dX12_keepsAll_0 (by decide) ?_
  refine lv_istore_n (lv' := [(1, .int (0 : Int32)), (0, .ref a0)]) hx hb dX12_keepsAll_1 rfl hl (by decide) rfl (fun ls hl => ?_)
  have Lp2 : ∀ (n : Nat) (x1_2 : Int32) (H_2 : Heap) (L_2 : List Loc) (ls : Array Slot), (Sd D G [(34, 0)] s.heap H_2 L_2) → (0 ≤ x1_2.toInt ∧ x1_2.toInt ≤ 354) → (∀ j : Nat, (j : Int) < x1_2.toInt → eI H_2 (fR D s.heap 11 a0 4) j = eI s.heap (fR D s.heap 11 a0 1) j) → 355 - x1_2.toInt ≤ (n : Int) → lv_has ls 2 [(1, .int x1_2), (0, .ref a0)] → W p l e (rmU 0 0 0) s m args below meth c H_2 L_2 0 0 Q (F0 m 2 ls []) := by
    intro n
    induction n with
    | zero =>
      intro x1_2 H_2 L_2 ls S_2 j2_0 u2_0 hn hl
      exact absurd hn (by omega)
    | succ n ih2 =>
      intro x1_2 H_2 L_2 ls S_2 j2_0 u2_0 hn hl
      refine lv_iload_n hx hb dX12_keepsAll_2 rfl (lv_at hl 0 rfl) ?_
      refine lv_sipush (v := 354) hx hb dX12_keepsAll_3 (by decide) ?_
      have k_354 : (354 : Int32).toInt = 354 := by decide
      refine lv_icmp_ge (tgt := 27) hx hb dX12_keepsAll_6 (by decide) (fun c1 => ?_) (fun c1 => ?_)
      · have b1 : (354 : Int32).toInt ≤ x1_2.toInt := i_le.mp c1
        exact retE_v hQ C S_2 hr dX12_keepsAll_27 (⟨trivial, fun Vv Kv hv => MT.keeps hv hO ga0 S_2.2.1 (fun j hj => u2_0 j (by omega))⟩)
      · have b1 : ¬ (354 : Int32).toInt ≤ x1_2.toInt := fun z9 => c1 (i_le.mpr z9)
        refine lv_aload_n hx hb dX12_keepsAll_9 rfl (lv_at hl 1 rfl) ?_
        refine q_gr (T := TX12) C S_2.1 ga0 4 kF_X12_23 dX12_keepsAll_10 rfl rfl (by decide) rfl (by decide) rfl (fun g2 => ?_)
        refine lv_iload_n hx hb dX12_keepsAll_13 rfl (lv_at hl 0 rfl) ?_
        refine lv_aload_n hx hb dX12_keepsAll_14 rfl (lv_at hl 1 rfl) ?_
        refine q_gr (T := TX12) C S_2.1 ga0 1 kF_X12_13 dX12_keepsAll_15 rfl rfl (by decide) rfl (by decide) rfl (fun g3 => ?_)
        refine lv_iload_n hx hb dX12_keepsAll_18 rfl (lv_at hl 0 rfl) ?_
        have n4 : aN H_2 (fR D H_2 11 a0 1) = 2052 := len_31 S_2.1 g3
        refine q_iald C S_2.1 g3 (by omega) (by omega) dX12_keepsAll_19 rfl (by decide) ?_
        refine lv_topi (fun v5 ev5 => ?_)
        have ec := ev5
        have wc : WAt x1_2.toInt.toNat v5 := by rw [ev5]; exact wa_31 S_2.1 g3 _ (by omega)
        have n6 : aN H_2 (fR D H_2 11 a0 4) = 354 := len_34 S_2.1 g2
        refine q_iast C S_2 g2 (by omega) (by omega) dX12_keepsAll_20 rfl (by decide) (by decide +kernel) (fun _ _ h => wk_34 _ _ wc h) (fun H7 L7 S7 P7 => ?_)
        obtain ⟨v8, ev8⟩ : ∃ y : Int32, y = x1_2 + (1) := ⟨_, rfl⟩
        have k_1 : (1 : Int32).toInt = 1 := by decide
        have f9 : v8.toInt = x1_2.toInt + (1) := by rw [ev8]; exact i_addc k_1 (by omega) (by omega)
        refine lv_iinc (v := v8) (lv' := [(1, .int v8), (0, .ref a0)]) hx hb dX12_keepsAll_21 hl (k := 0) rfl (by rw [ev8]; rfl) (by decide) rfl (fun ls hl => ?_)
        refine lv_goto (tgt := 2) hx hb dX12_keepsAll_24 (by decide) ?_
        exact ih2 v8 H7 L7 ls S7 (by omega) (cp_st u2_0 P7 (S_2.2.1.fR ga0 rfl (by decide) (by decide +kernel)) (by omega) (by omega) (by omega) (ec.trans (eK hO ga0 S_2.2.1 (by decide +kernel) (by decide +kernel) _))) (by omega) (lv_sub hl [0, 1] rfl)
  have k_0 : (0 : Int32).toInt = 0 := by decide
  exact Lp2 355 (0 : Int32) s.heap [] ls S (by omega) (fun j hj => absurd hj (by omega))  (by omega) (lv_sub hl [0, 1] rfl)

set_option maxRecDepth 100000 in
set_option maxHeartbeats 4000000 in
theorem c_X12_bringsBack (l : Launch) (D : DD) (G : Nat → Nat) (a0 : Nat) (ga0 : G a0 = 30) : CE l D G yX12_bringsBack cX12_bringsBack 2 none 0 [.ref a0] (fun _ => True) [(31, 0), (31, 1)] (xV (fun H H1 => (True) ∧ (∀ Vv Kv : Sg, MT D H a0 Vv Kv → MT D H1 a0 Vv Kv))) := by
  refine enter (by decide) (Nat.le_of_ble_eq_true rfl) ?_
  intro p e s m args below meth c ls Q hA hQ C hr hO hpre hl
  have hx := C.1
  have hb := C.2.1
  have S : Sd D G [(31, 0), (31, 1)] s.heap s.heap [] := Sd.start hO
  have hl : lv_has ls 2 [(0, .ref a0)] := hl
  refine lv_iconst (v := 0) hx hb dX12_bringsBack_0 (by decide) ?_
  refine lv_istore_n (lv' := [(1, .int (0 : Int32)), (0, .ref a0)]) hx hb dX12_bringsBack_1 rfl hl (by decide) rfl (fun ls hl => ?_)
  have Lp2 : ∀ (n : Nat) (x1_2 : Int32) (H_2 : Heap) (L_2 : List Loc) (ls : Array Slot), (Sd D G [(31, 0), (31, 1)] s.heap H_2 L_2) → (0 ≤ x1_2.toInt ∧ x1_2.toInt ≤ 354) → (∀ j : Nat, (j : Int) < x1_2.toInt → eI H_2 (fR D s.heap 11 a0 1) j = eI s.heap (fR D s.heap 11 a0 4) j) → 355 - x1_2.toInt ≤ (n : Int) → lv_has ls 2 [(1, .int x1_2), (0, .ref a0)] → W p l e (rmU 0 0 0) s m args below meth c H_2 L_2 0 0 Q (F0 m 2 ls []) := by
    intro n
    induction n with
    | zero =>
      intro x1_2 H_2 L_2 ls S_2 j2_0 u2_0 hn hl
      exact absurd hn (by omega)
    | succ n ih2 =>
      intro x1_2 H_2 L_2 ls S_2 j2_0 u2_0 hn hl
      refine lv_iload_n hx hb dX12_bringsBack_2 rfl (lv_at hl 0 rfl) ?_
      refine lv_sipush (v := 354) hx hb dX12_bringsBack_3 (by decide) ?_
      have k_354 : (354 : Int32).toInt = 354 := by decide
      refine lv_icmp_ge (tgt := 27) hx hb dX12_bringsBack_6 (by decide) (fun c1 => ?_) (fun c1 => ?_)
      · have b1 : (354 : Int32).toInt ≤ x1_2.toInt := i_le.mp c1
        exact retE_v hQ C S_2 hr dX12_bringsBack_27 (⟨trivial, fun Vv Kv hv => MT.back hv hO ga0 S_2.2.1 (fun j hj => u2_0 j (by omega))⟩)
      · have b1 : ¬ (354 : Int32).toInt ≤ x1_2.toInt := fun z9 => c1 (i_le.mpr z9)
        refine lv_aload_n hx hb dX12_bringsBack_9 rfl (lv_at hl 1 rfl) ?_
        refine q_gr (T := TX12) C S_2.1 ga0 1 kF_X12_13 dX12_bringsBack_10 rfl rfl (by decide) rfl (by decide) rfl (fun g2 => ?_)
        refine lv_iload_n hx hb dX12_bringsBack_13 rfl (lv_at hl 0 rfl) ?_
        refine lv_aload_n hx hb dX12_bringsBack_14 rfl (lv_at hl 1 rfl) ?_
        refine q_gr (T := TX12) C S_2.1 ga0 4 kF_X12_23 dX12_bringsBack_15 rfl rfl (by decide) rfl (by decide) rfl (fun g3 => ?_)
        refine lv_iload_n hx hb dX12_bringsBack_18 rfl (lv_at hl 0 rfl) ?_
        have n4 : aN H_2 (fR D H_2 11 a0 4) = 354 := len_34 S_2.1 g3
        refine q_iald C S_2.1 g3 (by omega) (by omega) dX12_bringsBack_19 rfl (by decide) ?_
        refine lv_topi (fun v5 ev5 => ?_)
        have ec := ev5
        have wc : WAt x1_2.toInt.toNat v5 := by rw [ev5]; exact wa_34 S_2.1 g3 _ (by omega)
        have n6 : aN H_2 (fR D H_2 11 a0 1) = 2052 := len_31 S_2.1 g2
        refine q_iast C S_2 g2 (by omega) (by omega) dX12_bringsBack_20 rfl (by decide) (by decide +kernel) (fun _ _ h => wk_31 _ _ (by omega) wc h) (fun H7 L7 S7 P7 => ?_) (hs := fun _ => Or.inl (by decide +kernel))
        obtain ⟨v8, ev8⟩ : ∃ y : Int32, y = x1_2 + (1) := ⟨_, rfl⟩
        have k_1 : (1 : Int32).toInt = 1 := by decide
        have f9 : v8.toInt = x1_2.toInt + (1) := by rw [ev8]; exact i_addc k_1 (by omega) (by omega)
        refine lv_iinc (v := v8) (lv' := [(1, .int v8), (0, .ref a0)]) hx hb dX12_bringsBack_21 hl (k := 0) rfl (by rw [ev8]; rfl) (by decide) rfl (fun ls hl => ?_)
        refine lv_goto (tgt := 2) hx hb dX12_bringsBack_24 (by decide) ?_
        exact ih2 v8 H7 L7 ls S7 (by omega) (cp_st u2_0 P7 (S_2.2.1.fR ga0 rfl (by decide) (by decide +kernel)) (by omega) (by omega) (by omega) (ec.trans (eKk 4 rfl hO ga0 S_2.2.1 (by decide +kernel) (by decide +kernel) _))) (by omega) (lv_sub hl [0, 1] rfl)
  have k_0 : (0 : Int32).toInt = 0 := by decide
  exact Lp2 355 (0 : Int32) s.heap [] ls S (by omega) (fun j hj => absurd hj (by omega))  (by omega) (lv_sub hl [0, 1] rfl)

set_option maxRecDepth 100000 in
set_option maxHeartbeats 4000000 in
theorem c_X12_undo (l : Launch) (D : DD) (G : Nat → Nat) (a0 : Nat) (ga0 : G a0 = 30) : CE l D G yX12_undo cX12_undo 2 (some .boolean) 0 [.ref a0] (fun _ => True) [(30, 0), (31, 0), (30, 7), (31, 1)] (xI (fun H r H1 => (0 ≤ r.toInt ∧ r.toInt ≤ 1) ∧ (∀ Vv Kv : Sg, MI D H a0 Vv Kv → MI D H1 a0 Vv Kv))) := by
  refine enter (by decide) (Nat.le_of_ble_eq_true rfl) ?_
  intro p e s m args below meth c ls Q hA hQ C hr hO hpre hl
  have hx := C.1
  have hb := C.2.1
  have S : Sd D G [(30, 0), (31, 0), (30, 7), (31, 1)] s.heap s.heap [] := Sd.start hO
  have hl : lv_has ls 2 [(0, .ref a0)] := hl
  have rk0 : ∀ Vv Kv : Sg, MI D s.heap a0 Vv Kv → MI D s.heap a0 Vv Kv := fun Vv Kv hv => hv
  refine lv_aload_n hx hb dX12_undo_0 rfl (lv_at hl 0 rfl) ?_
  refine lv_iconst (v := 0) hx hb dX12_undo_1 (by decide) ?_
  have k_0 : (0 : Int32).toInt = 0 := by decide
  refine q_put (T := TX12) C S ga0 0 kF_X12_3 dX12_undo_2 rfl rfl (by decide) (by decide) rfl rfl rfl rfl rfl (vok_a rfl) (by decide +kernel) (fun H1 L1 S1 P1 => ?_)
  have y1_7 : (fI D H1 11 a0 7).toInt = (fI D s.heap 11 a0 7).toInt := congrArg Int32.toInt (Pt.o P1 (by decide) (by decide))
  have rk1 : ∀ Vv Kv : Sg, MI D s.heap a0 Vv Kv → MI D H1 a0 Vv Kv := fun Vv Kv hv => (rk0 Vv Kv hv).keep S.1 ga0 (Pt.keep ga0 rfl (by decide) P1) (by decide)
  refine lv_aload_n hx hb dX12_undo_5 rfl (lv_at hl 0 rfl) ?_
  refine q_gi (T := TX12) C S1.1 ga0 7 kF_X12_46 dX12_undo_6 rfl rfl (by decide) rfl (by decide) rfl ?_
  have r2 : 0 ≤ (fI D H1 11 a0 7).toInt ∧ (fI D H1 11 a0 7).toInt ≤ 12 := S1.1.rng ga0 rfl (by decide) rfl
  refine lv_if_ne (tgt := 14) hx hb dX12_undo_9 (by decide) (fun c3 => ?_) (fun c3 => ?_)
  · have b3 : ¬ (fI D H1 11 a0 7).toInt = (0 : Int32).toInt := fun z9 => c3 (i_eq.mpr z9)
    refine lv_aload_n hx hb dX12_undo_14 rfl (lv_at hl 0 rfl) ?_
    refine lv_dup hx hb dX12_undo_15 rfl ?_
    refine q_gi (T := TX12) C S1.1 ga0 7 kF_X12_46 dX12_undo_16 rfl rfl (by decide) rfl (by decide) rfl ?_
    refine lv_iconst (v := 1) hx hb dX12_undo_19 (by decide) ?_
    have k_1 : (1 : Int32).toInt = 1 := by decide
    refine lv_isub hx hb dX12_undo_20 ?_
    refine lv_topi (fun v4 ev4 => ?_)
    have f5 : v4.toInt = (fI D H1 11 a0 7).toInt - (1 : Int32).toInt := by rw [ev4]; exact i_sub (by omega) (by omega)
    refine q_put (T := TX12) C S1 ga0 7 kF_X12_46 dX12_undo_21 rfl rfl (by decide) (by decide) rfl rfl rfl rfl rfl (vok_i rfl (by omega) (by omega)) (by decide +kernel) (fun H6 L6 S6 P6 => ?_)
    have y6_7 : (fI D H6 11 a0 7).toInt = v4.toInt := congrArg Int32.toInt (Pt.i P6)
    refine lv_iconst (v := 0) hx hb dX12_undo_24 (by decide) ?_
    refine lv_istore_n (lv' := [(1, .int (0 : Int32)), (0, .ref a0)]) hx hb dX12_undo_25 rfl hl (by decide) rfl (fun ls hl => ?_)
    have Lp26 : ∀ (n : Nat) (x1_26 : Int32) (H_26 : Heap) (L_26 : List Loc) (ls : Array Slot), (Sd D G [(30, 0), (31, 0), (30, 7), (31, 1)] s.heap H_26 L_26) → (0 ≤ x1_26.toInt ∧ x1_26.toInt ≤ 354) → (0 ≤ (fI D H_26 11 a0 7).toInt ∧ (fI D H_26 11 a0 7).toInt ≤ 11) → ((fI D H_26 11 a0 7).toInt = (fI D s.heap 11 a0 7).toInt - 1) → (∀ j : Nat, (j : Int) < x1_26.toInt → eI H_26 (fR D s.heap 11 a0 1) j = eI s.heap (fR D s.heap 11 a0 5) (354 * ((fI D s.heap 11 a0 7).toInt.toNat - 1) + j)) → 355 - x1_26.toInt ≤ (n : Int) → lv_has ls 2 [(1, .int x1_26), (0, .ref a0)] → W p l e (rmU 0 0 0) s m args below meth c H_26 L_26 0 0 Q (F0 m 26 ls []) := by
      intro n
      induction n with
      | zero =>
        intro x1_26 H_26 L_26 ls S_26 j26_0 u26_0 u26_1 u26_2 hn hl
        exact absurd hn (by omega)
      | succ n ih26 =>
        intro x1_26 H_26 L_26 ls S_26 j26_0 u26_0 u26_1 u26_2 hn hl
        refine lv_iload_n hx hb dX12_undo_26 rfl (lv_at hl 0 rfl) ?_
        refine lv_sipush (v := 354) hx hb dX12_undo_27 (by decide) ?_
        have k_354 : (354 : Int32).toInt = 354 := by decide
        refine lv_icmp_ge (tgt := 60) hx hb dX12_undo_30 (by decide) (fun c7 => ?_) (fun c7 => ?_)
        · have b7 : (354 : Int32).toInt ≤ x1_26.toInt := i_le.mp c7
          refine lv_iconst (v := 1) hx hb dX12_undo_60 (by decide) ?_
          exact retE_z hQ C S_26 hr dX12_undo_61 (z01 (by omega) (by omega)) (⟨by omega, fun Vv Kv hv => MI.undo hv hO ga0 S_26.2.1 u26_1 (by omega) (fun j hj => u26_2 j (by omega))⟩)
        · have b7 : ¬ (354 : Int32).toInt ≤ x1_26.toInt := fun z9 => c7 (i_le.mpr z9)
          refine lv_aload_n hx hb dX12_undo_33 rfl (lv_at hl 1 rfl) ?_
          refine q_gr (T := TX12) C S_26.1 ga0 1 kF_X12_13 dX12_undo_34 rfl rfl (by decide) rfl (by decide) rfl (fun g8 => ?_)
          refine lv_iload_n hx hb dX12_undo_37 rfl (lv_at hl 0 rfl) ?_
          refine lv_aload_n hx hb dX12_undo_38 rfl (lv_at hl 1 rfl) ?_
          refine q_gr (T := TX12) C S_26.1 ga0 5 kF_X12_26 dX12_undo_39 rfl rfl (by decide) rfl (by decide) rfl (fun g9 => ?_)
          refine lv_sipush (v := 354) hx hb dX12_undo_42 (by decide) ?_
          refine lv_aload_n hx hb dX12_undo_45 rfl (lv_at hl 1 rfl) ?_
          refine q_gi (T := TX12) C S_26.1 ga0 7 kF_X12_46 dX12_undo_46 rfl rfl (by decide) rfl (by decide) rfl ?_
          have r10 : 0 ≤ (fI D H_26 11 a0 7).toInt ∧ (fI D H_26 11 a0 7).toInt ≤ 12 := S_26.1.rng ga0 rfl (by decide) rfl
          refine lv_imul hx hb dX12_undo_49 ?_
          refine lv_topi (fun v11 ev11 => ?_)
          have f12 : v11.toInt = (354) * (fI D H_26 11 a0 7).toInt := by rw [ev11]; exact i_cmul k_354 (by omega) (by omega)
          refine lv_iload_n hx hb dX12_undo_50 rfl (lv_at hl 0 rfl) ?_
          refine lv_iadd hx hb dX12_undo_51 ?_
          refine lv_topi (fun v13 ev13 => ?_)
          have f14 : v13.toInt = v11.toInt + x1_26.toInt := by rw [ev13]; exact i_add (by omega) (by omega)
          have n15 : aN H_26 (fR D H_26 11 a0 5) = 4248 := len_35 S_26.1 g9
          refine q_iald C S_26.1 g9 (by omega) (by omega) dX12_undo_52 rfl (by decide) ?_
          refine lv_topi (fun v16 ev16 => ?_)
          have ec := ev16
          have wc : WAt x1_26.toInt.toNat v16 := by rw [ev16]; exact wa_35e S_26.1 g9 (fI D H_26 11 a0 7).toInt.toNat (by omega) (by omega) (by omega)
          have n17 : aN H_26 (fR D H_26 11 a0 1) = 2052 := len_31 S_26.1 g8
          refine q_iast C S_26 g8 (by omega) (by omega) dX12_undo_53 rfl (by decide) (by decide +kernel) (fun _ _ h => wk_31 _ _ (by omega) wc h) (fun H18 L18 S18 P18 => ?_) (hs := fun _ => Or.inl (by decide +kernel))
          have y18_7 : (fI D H18 11 a0 7).toInt = (fI D H_26 11 a0 7).toInt := congrArg Int32.toInt (Pa.f P18 (ne_role ga0 g8 (by decide)))
          obtain ⟨v19, ev19⟩ : ∃ y : Int32, y = x1_26 + (1) := ⟨_, rfl⟩
          have f20 : v19.toInt = x1_26.toInt + (1) := by rw [ev19]; exact i_addc k_1 (by omega) (by omega)
          refine lv_iinc (v := v19) (lv' := [(1, .int v19), (0, .ref a0)]) hx hb dX12_undo_54 hl (k := 0) rfl (by rw [ev19]; rfl) (by decide) rfl (fun ls hl => ?_)
          refine lv_goto (tgt := 26) hx hb dX12_undo_57 (by decide) ?_
          exact ih26 v19 H18 L18 ls S18 (by omega) (by rw [Pa.f P18 (ne_role ga0 g8 (by decide))]; omega) (by rw [Pa.f P18 (ne_role ga0 g8 (by decide))]; omega) (cp_st u26_2 P18 (S_26.2.1.fR ga0 rfl (by decide) (by decide +kernel)) (by omega) (by omega) (by omega) ((ec.trans (eKk 5 rfl hO ga0 S_26.2.1 (by decide +kernel) (by decide +kernel) _)).trans (congrArg (eI s.heap (fR D s.heap 11 a0 5)) (by omega)))) (by omega) (lv_sub hl [0, 1] rfl)
    exact Lp26 355 (0 : Int32) H6 L6 ls S6 (by omega) (by rw [Pt.i P6]; omega) (by rw [Pt.i P6]; omega) (fun j hj => absurd hj (by omega))  (by omega) (lv_sub hl [0, 1] rfl)
  · have b3 : (fI D H1 11 a0 7).toInt = (0 : Int32).toInt := i_eq.mp c3
    refine lv_iconst (v := 0) hx hb dX12_undo_12 (by decide) ?_
    exact retE_z hQ C S1 hr dX12_undo_13 (z01 (by omega) (by omega)) (⟨by omega, rk1⟩)
