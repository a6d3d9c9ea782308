theorem i_03 {x : Int32} (h1 : 0 ≤ x.toInt) (h2 : x.toInt ≤ 3) : x = 0 ∨ x = 1 ∨ x = 2 ∨ x = 3 := by
  have e0 : (0 : Int32).toInt = 0 := by decide
  have e1 : (1 : Int32).toInt = 1 := by decide
  have e2 : (2 : Int32).toInt = 2 := by decide
  have e3 : (3 : Int32).toInt = 3 := by decide
  have h : x.toInt = 0 ∨ x.toInt = 1 ∨ x.toInt = 2 ∨ x.toInt = 3 := by omega
  rcases h with h | h | h | h
  · exact Or.inl (i_eq.mpr (by rw [h, e0]))
  · exact Or.inr (Or.inl (i_eq.mpr (by rw [h, e1])))
  · exact Or.inr (Or.inr (Or.inl (i_eq.mpr (by rw [h, e2]))))
  · exact Or.inr (Or.inr (Or.inr (i_eq.mpr (by rw [h, e3]))))
theorem i_xor1 {x : Int32} (h1 : 0 ≤ x.toInt) (h2 : x.toInt ≤ 3) : 0 ≤ (x ^^^ 1).toInt ∧ (x ^^^ 1).toInt ≤ 3 := by
  rcases i_03 h1 h2 with rfl | rfl | rfl | rfl <;> decide
theorem i_xor2 {x : Int32} (h1 : 0 ≤ x.toInt) (h2 : x.toInt ≤ 3) : 0 ≤ (x ^^^ 2).toInt ∧ (x ^^^ 2).toInt ≤ 3 := by
  rcases i_03 h1 h2 with rfl | rfl | rfl | rfl <;> decide

set_option maxRecDepth 100000 in
set_option maxHeartbeats 4000000 in
theorem c_X11_game (l : Launch) (D : DD) (G : Nat → Nat) (a0 : Nat) (x1 : Int32) (ga0 : G a0 = 1) : CX l D G yX11_game cX11_game 8 (some .int) 4 3 14 [.ref a0, .int x1] (fun _ => True) [(14, 0), (15, 0), (40, 0)] (xI (fun H r H1 => True)) (fun H En H1 => En = "java/lang/IndexOutOfBoundsException") := by
  refine enterX (by decide) (Nat.le_of_ble_eq_true rfl) ?_
  intro hl0 p e s m args below meth c ls Q hA hQ ht C hr hO hpre hl
  have hx := C.1
  have hb := C.2.1
  have S : Sd D G [(14, 0), (15, 0), (40, 0)] s.heap s.heap [] := Sd.start hO
  have hl : lv_has ls 8 [(0, .ref a0), (1, .int x1)] := hl
  refine lv_aload_n hx hb dX11_game_0 rfl (lv_at hl 0 rfl) ?_
  refine lv_iload_n hx hb dX11_game_1 rfl (lv_at hl 1 rfl) ?_
  refine callV_Xv hl0 C S (c_X11_needHearth l D G a0 x1 ga0) kV_X11_173 ga0 (trivial) (by decide +kernel) dX11_game_2 hl.1 rfl rfl (by decide) cd_X11_needHearth ⟨Nat.le_of_ble_eq_true rfl, Nat.le_of_ble_eq_true rfl, Nat.le_of_ble_eq_true rfl, Nat.le_of_ble_eq_true rfl, Nat.le_of_ble_eq_true rfl⟩ (fun H1 L1 S1 K1 q1 => ?_) (fun En H1 L1 q9 ce S1 K1 X1 h7 h8 h9 => outX hQ C ht S1 h7 h8 h9 (by decide) (by decide) (by rcases X1 with rfl <;> simp))
  refine lv_aload_n hx hb dX11_game_5 rfl (lv_at hl 0 rfl) ?_
  refine q_gr (T := TX11) C S1.1 ga0 1 kF_X11_19 dX11_game_6 rfl rfl (by decide) rfl (by decide) rfl (fun g2 => ?_)
  refine q_gr (T := TX5) C S1.1 g2 1 kF_X11_176 dX11_game_9 rfl rfl (by decide) rfl (by decide) rfl (fun g3 => ?_)
  refine lv_iload_n hx hb dX11_game_12 rfl (lv_at hl 1 rfl) ?_
  refine q_aald C S1.1 g3 (by omega) (by omega) dX11_game_13 rfl (by decide) rfl rfl (fun g4 => ?_)
  refine q_gi (T := TX1) C S1.1 g4 5 kF_X11_197 dX11_game_14 rfl rfl (by decide) rfl (by decide) rfl ?_
  refine lv_iconst (v := 1) hx hb dX11_game_17 (by decide) ?_
  have k_1 : (1 : Int32).toInt = 1 := by decide
  refine lv_icmp_ne (tgt := 23) hx hb dX11_game_18 (by decide) (fun c5 => ?_) (fun c5 => ?_)
  · have b5 : ¬ (fI D H1 1 (eR H1 (fR D H1 5 (fR D H1 10 a0 1) 1) x1.toInt.toNat) 5).toInt = (1 : Int32).toInt := fun z9 => c5 (i_eq.mpr z9)
    refine lv_aload_n hx hb dX11_game_23 rfl (lv_at hl 0 rfl) ?_
    refine q_gr (T := TX11) C S1.1 ga0 1 kF_X11_19 dX11_game_24 rfl rfl (by decide) rfl (by decide) rfl (fun g6 => ?_)
    refine lv_iload_n hx hb dX11_game_27 rfl (lv_at hl 1 rfl) ?_
    refine callV_Ei C S1 (c_X5_taxOf l D G (fR D H1 10 a0 1) x1 g6 (by omega)) kV_X11_200 g6 (trivial) (by decide +kernel) dX11_game_28 hl.1 rfl rfl (by decide) cd_X5_taxOf ⟨Nat.le_of_ble_eq_true rfl, Nat.le_of_ble_eq_true rfl, Nat.le_of_ble_eq_true rfl, Nat.le_of_ble_eq_true rfl, Nat.le_of_ble_eq_true rfl⟩ (fun v7 H7 L7 S7 K7 q7 => ?_)
    refine lv_istore_n (lv' := [(2, .int v7), (0, .ref a0), (1, .int x1)]) hx hb dX11_game_31 rfl hl (by decide) rfl (fun ls hl => ?_)
    refine lv_aload_n hx hb dX11_game_32 rfl (lv_at hl 1 rfl) ?_
    refine q_gr (T := TX11) C S7.1 ga0 1 kF_X11_19 dX11_game_33 rfl rfl (by decide) rfl (by decide) rfl (fun g8 => ?_)
    refine lv_iload_n hx hb dX11_game_36 rfl (lv_at hl 2 rfl) ?_
    refine callV_Ei C S7 (c_X5_foundBy l D G (fR D H7 10 a0 1) x1 g8 (by omega)) kV_X11_203 g8 (trivial) (by decide +kernel) dX11_game_37 hl.1 rfl rfl (by decide) cd_X5_foundBy ⟨Nat.le_of_ble_eq_true rfl, Nat.le_of_ble_eq_true rfl, Nat.le_of_ble_eq_true rfl, Nat.le_of_ble_eq_true rfl, Nat.le_of_ble_eq_true rfl⟩ (fun v9 H9 L9 S9 K9 q9 => ?_)
    refine lv_bipush (v := 10) hx hb dX11_game_40 (by decide) ?_
    have k_10 : (10 : Int32).toInt = 10 := by decide
    refine lv_idiv hx hb dX11_game_42 (by first | decide | (intro z9; have := i_eq.mp z9; simp at this; omega) | assumption) ?_
    refine lv_topi (fun v10 ev10 => ?_)
    refine lv_iload_n hx hb dX11_game_43 rfl (lv_at hl 0 rfl) ?_
    refine lv_aload_n hx hb dX11_game_44 rfl (lv_at hl 1 rfl) ?_
    refine q_gr (T := TX11) C S9.1 ga0 1 kF_X11_19 dX11_game_45 rfl rfl (by decide) rfl (by decide) rfl (fun g11 => ?_)
    refine q_gi (T := TX5) C S9.1 g11 7 kF_X11_292 dX11_game_48 rfl rfl (by decide) rfl (by decide) rfl ?_
    refine lv_iadd hx hb dX11_game_51 ?_
    refine lv_topi (fun v12 ev12 => ?_)
    refine lv_imul hx hb dX11_game_52 ?_
    refine lv_topi (fun v13 ev13 => ?_)
    refine lv_bipush (v := 10) hx hb dX11_game_53 (by decide) ?_
    refine lv_idiv hx hb dX11_game_55 (by first | decide | (intro z9; have := i_eq.mp z9; simp at this; omega) | assumption) ?_
    refine lv_topi (fun v14 ev14 => ?_)
    refine lv_istore_n (lv' := [(3, .int v14), (2, .int v7), (0, .ref a0), (1, .int x1)]) hx hb dX11_game_56 rfl hl (by decide) rfl (fun ls hl => ?_)
    refine lv_iconst (v := 4) hx hb dX11_game_57 (by decide) ?_
    refine q_newR C S9 (N := 4) 40 rfl (by decide) (by decide +kernel) rfl (by decide) kAI (by decide) (by decide) (by decide) ⟨Nat.le_of_ble_eq_true rfl, Nat.le_of_ble_eq_true rfl⟩ dX11_game_58 (fun G15 H15 a15 r15 k15 x15 C S15 e15 => ?_)
    have ga0 := (k15 _ (by rw [ga0]; decide)).trans ga0
    refine lv_dup hx hb dX11_game_60 rfl ?_
    refine lv_iconst (v := 0) hx hb dX11_game_61 (by decide) ?_
    refine lv_aload_n hx hb dX11_game_62 rfl (lv_at hl 2 rfl) ?_
    refine q_gr (T := TX11) C S15.1 ga0 1 kF_X11_19 dX11_game_63 rfl rfl (by decide) rfl (by decide) rfl (fun g16 => ?_)
    refine q_gi (T := TX5) C S15.1 g16 9 kF_X11_218 dX11_game_66 rfl rfl (by decide) rfl (by decide) rfl ?_
    refine lv_iload_n hx hb dX11_game_69 rfl (lv_at hl 0 rfl) ?_
    refine lv_iadd hx hb dX11_game_70 ?_
    refine lv_topi (fun v17 ev17 => ?_)
    have n18 : aN H15 a15 = 4 := len_40 S15.1 r15
    have k_0 : (0 : Int32).toInt = 0 := by decide
    refine q_iast C S15 r15 (by omega) (by omega) dX11_game_71 rfl (by decide) (by decide +kernel) (fun _ _ h => ak_40 h) (fun H19 L19 S19 P19 => ?_)
    refine lv_dup hx hb dX11_game_72 rfl ?_
    refine lv_iconst (v := 1) hx hb dX11_game_73 (by decide) ?_
    refine lv_aload_n hx hb dX11_game_74 rfl (lv_at hl 2 rfl) ?_
    refine q_gr (T := TX11) C S19.1 ga0 1 kF_X11_19 dX11_game_75 rfl rfl (by decide) rfl (by decide) rfl (fun g20 => ?_)
    refine q_gi (T := TX5) C S19.1 g20 9 kF_X11_218 dX11_game_78 rfl rfl (by decide) rfl (by decide) rfl ?_
    have n21 : aN H19 a15 = 4 := len_40 S19.1 r15
    refine q_iast C S19 r15 (by omega) (by omega) dX11_game_81 rfl (by decide) (by decide +kernel) (fun _ _ h => ak_40 h) (fun H22 L22 S22 P22 => ?_)
    refine lv_dup hx hb dX11_game_82 rfl ?_
    refine lv_iconst (v := 2) hx hb dX11_game_83 (by decide) ?_
    refine lv_iload_n hx hb dX11_game_84 rfl (lv_at hl 1 rfl) ?_
    have n23 : aN H22 a15 = 4 := len_40 S22.1 r15
    have k_2 : (2 : Int32).toInt = 2 := by decide
    refine q_iast C S22 r15 (by omega) (by omega) dX11_game_85 rfl (by decide) (by decide +kernel) (fun _ _ h => ak_40 h) (fun H24 L24 S24 P24 => ?_)
    refine lv_dup hx hb dX11_game_86 rfl ?_
    refine lv_iconst (v := 3) hx hb dX11_game_87 (by decide) ?_
    refine lv_iload_n hx hb dX11_game_88 rfl (lv_at hl 1 rfl) ?_
    have n25 : aN H24 a15 = 4 := len_40 S24.1 r15
    have k_3 : (3 : Int32).toInt = 3 := by decide
    refine q_iast C S24 r15 (by omega) (by omega) dX11_game_89 rfl (by decide) (by decide +kernel) (fun _ _ h => ak_40 h) (fun H26 L26 S26 P26 => ?_)
    refine lv_astore (lv' := [(4, .ref a15), (3, .int v14), (2, .int v7), (0, .ref a0), (1, .int x1)]) hx hb dX11_game_90 hl (by decide) rfl (fun ls hl => ?_)
    refine lv_iconst (v := 4) hx hb dX11_game_92 (by decide) ?_
    refine q_newR C S26 (N := 4) 40 rfl (by decide) (by decide +kernel) rfl (by decide) kAI (by decide) (by decide) (by decide) ⟨Nat.le_of_ble_eq_true rfl, Nat.le_of_ble_eq_true rfl⟩ dX11_game_93 (fun G27 H27 a27 r27 k27 x27 C S27 e27 => ?_)
    have r15 := (k27 _ (by rw [r15]; decide)).trans r15
    have ga0 := (k27 _ (by rw [ga0]; decide)).trans ga0
    have hk27 : ∀ q, G q ≠ 0 → G27 q = G q := fun q hq => (k27 q (by rw [k15 q hq]; exact hq)).trans (k15 q hq)
    have hn27 : ∀ q, G27 q ≠ G q → G27 q = 40 ∧ s.heap.size ≤ q := fun q hq => if z9 : G27 q = G15 q then (by rw [z9] at hq ⊢; exact x15 q hq) else x27 q z9
    refine lv_dup hx hb dX11_game_95 rfl ?_
    refine lv_iconst (v := 0) hx hb dX11_game_96 (by decide) ?_
    refine lv_iload_n hx hb dX11_game_97 rfl (lv_at hl 1 rfl) ?_
    refine lv_iconst (v := 1) hx hb dX11_game_98 (by decide) ?_
    refine lv_isub hx hb dX11_game_99 ?_
    refine lv_topi (fun v28 ev28 => ?_)
    have n29 : aN H27 a27 = 4 := len_40 S27.1 r27
    refine q_iast C S27 r27 (by omega) (by omega) dX11_game_100 rfl (by decide) (by decide +kernel) (fun _ _ h => ak_40 h) (fun H30 L30 S30 P30 => ?_)
    refine lv_dup hx hb dX11_game_101 rfl ?_
    refine lv_iconst (v := 1) hx hb dX11_game_102 (by decide) ?_
    refine lv_iconst (v := 0) hx hb dX11_game_103 (by decide) ?_
    have n31 : aN H30 a27 = 4 := len_40 S30.1 r27
    refine q_iast C S30 r27 (by omega) (by omega) dX11_game_104 rfl (by decide) (by decide +kernel) (fun _ _ h => ak_40 h) (fun H32 L32 S32 P32 => ?_)
    refine lv_dup hx hb dX11_game_105 rfl ?_
    refine lv_iconst (v := 2) hx hb dX11_game_106 (by decide) ?_
    refine lv_iload_n hx hb dX11_game_107 rfl (lv_at hl 2 rfl) ?_
    refine lv_iconst (v := 1) hx hb dX11_game_108 (by decide) ?_
    refine lv_isub hx hb dX11_game_109 ?_
    refine lv_topi (fun v33 ev33 => ?_)
    have n34 : aN H32 a27 = 4 := len_40 S32.1 r27
    refine q_iast C S32 r27 (by omega) (by omega) dX11_game_110 rfl (by decide) (by decide +kernel) (fun _ _ h => ak_40 h) (fun H35 L35 S35 P35 => ?_)
    refine lv_dup hx hb dX11_game_111 rfl ?_
    refine lv_iconst (v := 3) hx hb dX11_game_112 (by decide) ?_
    refine lv_iload_n hx hb dX11_game_113 rfl (lv_at hl 2 rfl) ?_
    have n36 : aN H35 a27 = 4 := len_40 S35.1 r27
    refine q_iast C S35 r27 (by omega) (by omega) dX11_game_114 rfl (by decide) (by decide +kernel) (fun _ _ h => ak_40 h) (fun H37 L37 S37 P37 => ?_)
    refine lv_astore (lv' := [(5, .ref a27), (4, .ref a15), (3, .int v14), (2, .int v7), (0, .ref a0), (1, .int x1)]) hx hb dX11_game_115 hl (by decide) rfl (fun ls hl => ?_)
    refine lv_iconst (v := 0) hx hb dX11_game_117 (by decide) ?_
    refine lv_istore (lv' := [(6, .int (0 : Int32)), (5, .ref a27), (4, .ref a15), (3, .int v14), (2, .int v7), (0, .ref a0), (1, .int x1)]) hx hb dX11_game_118 hl (by decide) rfl (fun ls hl => ?_)
    refine lv_iconst (v := 0) hx hb dX11_game_120 (by decide) ?_
    refine lv_istore (lv' := [(7, .int (0 : Int32)), (6, .int (0 : Int32)), (5, .ref a27), (4, .ref a15), (3, .int v14), (2, .int v7), (0, .ref a0), (1, .int x1)]) hx hb dX11_game_121 hl (by decide) rfl (fun ls hl => ?_)
    have Lp123 : ∀ (n : Nat) (x7_123 : Int32) (x6_123 : Int32) (ls : Array Slot), (0 ≤ x7_123.toInt ∧ x7_123.toInt ≤ 4) → 5 - x7_123.toInt ≤ (n : Int) → lv_has ls 8 [(7, .int x7_123), (6, .int x6_123), (5, .ref a27), (4, .ref a15)] → W p l e (rmU 4 3 14) s m args below meth c H37 L37 3 14 Q (F0 m 123 ls []) := by
      intro n
      induction n with
      | zero =>
        intro x7_123 x6_123 ls j123_0 hn hl
        exact absurd hn (by omega)
      | succ n ih123 =>
        intro x7_123 x6_123 ls j123_0 hn hl
        refine lv_iload hx hb dX11_game_123 (lv_at hl 0 rfl) ?_
        refine lv_iconst (v := 4) hx hb dX11_game_125 (by decide) ?_
        have k_4 : (4 : Int32).toInt = 4 := by decide
        refine lv_icmp_ge (tgt := 174) hx hb dX11_game_126 (by decide) (fun c38 => ?_) (fun c38 => ?_)
        · have b38 : (4 : Int32).toInt ≤ x7_123.toInt := i_le.mp c38
          refine lv_iload hx hb dX11_game_174 (lv_at hl 1 rfl) ?_
          exact retXN_i hQ C S37 hk27 hn27 hr dX11_game_176 (by decide) (by decide) (trivial)
        · have b38 : ¬ (4 : Int32).toInt ≤ x7_123.toInt := fun z9 => c38 (i_le.mpr z9)
          refine lv_aload hx hb dX11_game_129 (lv_at hl 3 rfl) ?_
          refine lv_iload hx hb dX11_game_131 (lv_at hl 0 rfl) ?_
          have n39 : aN H37 a15 = 4 := len_40 S37.1 r15
          refine q_iald C S37.1 r15 (by omega) (by omega) dX11_game_133 rfl (by decide) ?_
          refine lv_topi (fun v40 ev40 => ?_)
          refine lv_aload hx hb dX11_game_134 (lv_at hl 3 rfl) ?_
          refine lv_iload hx hb dX11_game_136 (lv_at hl 0 rfl) ?_
          refine lv_iconst (v := 2) hx hb dX11_game_138 (by decide) ?_
          refine lv_ixor hx hb dX11_game_139 ?_
          refine lv_topi (fun v41 ev41 => ?_)
          have f42 : 0 ≤ v41.toInt ∧ v41.toInt ≤ 3 := by rw [ev41]; exact i_xor2 (by omega) (by omega)
          refine q_iald C S37.1 r15 (by omega) (by omega) dX11_game_140 rfl (by decide) ?_
          refine lv_topi (fun v43 ev43 => ?_)
          refine lv_icmp_gt (tgt := 168) hx hb dX11_game_141 (by decide) (fun c44 => ?_) (fun c44 => ?_)
          · have b44 : v43.toInt < v40.toInt := i_lt.mp c44
            obtain ⟨v45, ev45⟩ : ∃ y : Int32, y = x7_123 + (1) := ⟨_, rfl⟩
            have f46 : v45.toInt = x7_123.toInt + (1) := by rw [ev45]; exact i_addc k_1 (by omega) (by omega)
            refine lv_iinc (v := v45) (lv' := [(7, .int v45), (6, .int x6_123), (5, .ref a27), (4, .ref a15)]) hx hb dX11_game_168 hl (k := 0) rfl (by rw [ev45]; rfl) (by decide) rfl (fun ls hl => ?_)
            refine lv_goto (tgt := 123) hx hb dX11_game_171 (by decide) ?_
            exact ih123 v45 x6_123 ls (by omega) (by omega) (lv_sub hl [0, 1, 2, 3] rfl)
          · have b44 : ¬ v43.toInt < v40.toInt := fun z9 => c44 (i_lt.mpr z9)
            refine lv_aload hx hb dX11_game_144 (lv_at hl 2 rfl) ?_
            refine lv_iload hx hb dX11_game_146 (lv_at hl 0 rfl) ?_
            have n47 : aN H37 a27 = 4 := len_40 S37.1 r27
            refine q_iald C S37.1 r27 (by omega) (by omega) dX11_game_148 rfl (by decide) ?_
            refine lv_topi (fun v48 ev48 => ?_)
            refine lv_aload hx hb dX11_game_149 (lv_at hl 2 rfl) ?_
            refine lv_iload hx hb dX11_game_151 (lv_at hl 0 rfl) ?_
            refine lv_iconst (v := 1) hx hb dX11_game_153 (by decide) ?_
            refine lv_ixor hx hb dX11_game_154 ?_
            refine lv_topi (fun v49 ev49 => ?_)
            have f50 : 0 ≤ v49.toInt ∧ v49.toInt ≤ 3 := by rw [ev49]; exact i_xor1 (by omega) (by omega)
            refine q_iald C S37.1 r27 (by omega) (by omega) dX11_game_155 rfl (by decide) ?_
            refine lv_topi (fun v51 ev51 => ?_)
            refine lv_icmp_lt (tgt := 168) hx hb dX11_game_156 (by decide) (fun c52 => ?_) (fun c52 => ?_)
            · have b52 : v48.toInt < v51.toInt := i_lt.mp c52
              obtain ⟨v53, ev53⟩ : ∃ y : Int32, y = x7_123 + (1) := ⟨_, rfl⟩
              have f54 : v53.toInt = x7_123.toInt + (1) := by rw [ev53]; exact i_addc k_1 (by omega) (by omega)
              refine lv_iinc (v := v53) (lv' := [(7, .int v53), (6, .int x6_123), (5, .ref a27), (4, .ref a15)]) hx hb dX11_game_168 hl (k := 0) rfl (by rw [ev53]; rfl) (by decide) rfl (fun ls hl => ?_)
              refine lv_goto (tgt := 123) hx hb dX11_game_171 (by decide) ?_
              exact ih123 v53 x6_123 ls (by omega) (by omega) (lv_sub hl [0, 1, 2, 3] rfl)
            · have b52 : ¬ v48.toInt < v51.toInt := fun z9 => c52 (i_lt.mpr z9)
              refine lv_iload hx hb dX11_game_159 (lv_at hl 1 rfl) ?_
              refine lv_iconst (v := 1) hx hb dX11_game_161 (by decide) ?_
              refine lv_iload hx hb dX11_game_162 (lv_at hl 0 rfl) ?_
              refine lv_ishl hx hb dX11_game_164 ?_
              refine lv_topi (fun v55 ev55 => ?_)
              have f56 : 1 ≤ v55.toInt ∧ v55.toInt ≤ 8 := by rw [ev55]; exact i_shl1 3 (by omega) (by omega) (by decide)
              refine lv_ior hx hb dX11_game_165 ?_
              refine lv_topi (fun v57 ev57 => ?_)
              refine lv_istore (lv' := [(6, .int v57), (7, .int x7_123), (5, .ref a27), (4, .ref a15)]) hx hb dX11_game_166 hl (by decide) rfl (fun ls hl => ?_)
              obtain ⟨v58, ev58⟩ : ∃ y : Int32, y = x7_123 + (1) := ⟨_, rfl⟩
              have f59 : v58.toInt = x7_123.toInt + (1) := by rw [ev58]; exact i_addc k_1 (by omega) (by omega)
              refine lv_iinc (v := v58) (lv' := [(7, .int v58), (6, .int v57), (5, .ref a27), (4, .ref a15)]) hx hb dX11_game_168 hl (k := 1) rfl (by rw [ev58]; rfl) (by decide) rfl (fun ls hl => ?_)
              refine lv_goto (tgt := 123) hx hb dX11_game_171 (by decide) ?_
              exact ih123 v58 v57 ls (by omega) (by omega) (lv_sub hl [0, 1, 2, 3] rfl)
    exact Lp123 5 (0 : Int32) (0 : Int32) ls (by omega)  (by omega) (lv_sub hl [0, 1, 2, 3] rfl)
  · have b5 : (fI D H1 1 (eR H1 (fR D H1 5 (fR D H1 10 a0 1) 1) x1.toInt.toNat) 5).toInt = (1 : Int32).toInt := i_eq.mp c5
    refine lv_iconst (v := -1) hx hb dX11_game_21 (by decide) ?_
    have k_m1 : (-1 : Int32).toInt = -1 := by decide
    exact retX_i hQ C S1 hr dX11_game_22 (by decide) (by decide) (trivial)
