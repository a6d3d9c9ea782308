set_option maxRecDepth 100000 in
set_option maxHeartbeats 4000000 in
theorem c_X1_become_d (l : Launch) (D : DD) (G : Nat → Nat) (a0 : Nat) (a1 : Nat) (ga0 : G a0 = 25) (ga1 : G a1 = 8) : CE l D G yX1_become cX1_become 2 none 0 [.ref a0, .ref a1] (fun _ => True) [(25, 0), (25, 1), (25, 2), (25, 3), (25, 4), (25, 5)] (xV (fun H H1 => (fI D H1 1 a0 0).toInt = (fI D H 1 a1 0).toInt ∧ (∀ q, G q = 25 → q ≠ a0 → fI D H1 1 q 0 = fI D H 1 q 0) ∧ fI D H1 1 a0 0 = fI D H 1 a1 0 ∧ ∀ q, q ≠ a0 → fI D H1 1 q 0 = fI D H 1 q 0)) := by
  refine enter (by decide) (Nat.le_of_ble_eq_true rfl) ?_
  intro p e s m args below meth c ls Q hA hQ C hr hO hpre hl
  have hx := C.1
  have hb := C.2.1
  have S : Sd D G [(25, 0), (25, 1), (25, 2), (25, 3), (25, 4), (25, 5)] s.heap s.heap [] := Sd.start hO
  have hl : lv_has ls 2 [(0, .ref a0), (1, .ref a1)] := hl
  refine lv_aload_n hx hb dX1_become_0 rfl (lv_at hl 0 rfl) ?_
  refine lv_aload_n hx hb dX1_become_1 rfl (lv_at hl 1 rfl) ?_
  refine q_gi (T := TX1) C S.1 ga1 0 kF_X1_7 dX1_become_2 rfl rfl (by decide) rfl (by decide) rfl ?_
  have r1 : 0 ≤ (fI D s.heap 1 a1 0).toInt ∧ (fI D s.heap 1 a1 0).toInt ≤ 5 := S.1.rng ga1 rfl (by decide) rfl
  refine q_put (T := TX1) C S ga0 0 kF_X1_7 dX1_become_5 rfl rfl (by decide) (by decide) rfl rfl rfl rfl rfl (vok_i rfl (by omega) (by omega)) (by decide +kernel) (fun H2 L2 S2 P2 => ?_)
  refine lv_aload_n hx hb dX1_become_8 rfl (lv_at hl 0 rfl) ?_
  refine lv_aload_n hx hb dX1_become_9 rfl (lv_at hl 1 rfl) ?_
  refine q_gi (T := TX1) C S2.1 ga1 1 kF_X1_13 dX1_become_10 rfl rfl (by decide) rfl (by decide) rfl ?_
  refine q_put (T := TX1) C S2 ga0 1 kF_X1_13 dX1_become_13 rfl rfl (by decide) (by decide) rfl rfl rfl rfl rfl (vok_a rfl) (by decide +kernel) (fun H3 L3 S3 P3 => ?_)
  refine lv_aload_n hx hb dX1_become_16 rfl (lv_at hl 0 rfl) ?_
  refine lv_aload_n hx hb dX1_become_17 rfl (lv_at hl 1 rfl) ?_
  refine q_gi (T := TX1) C S3.1 ga1 2 kF_X1_16 dX1_become_18 rfl rfl (by decide) rfl (by decide) rfl ?_
  refine q_put (T := TX1) C S3 ga0 2 kF_X1_16 dX1_become_21 rfl rfl (by decide) (by decide) rfl rfl rfl rfl rfl (vok_a rfl) (by decide +kernel) (fun H4 L4 S4 P4 => ?_)
  refine lv_aload_n hx hb dX1_become_24 rfl (lv_at hl 0 rfl) ?_
  refine lv_aload_n hx hb dX1_become_25 rfl (lv_at hl 1 rfl) ?_
  refine q_gi (T := TX1) C S4.1 ga1 3 kF_X1_19 dX1_become_26 rfl rfl (by decide) rfl (by decide) rfl ?_
  refine q_put (T := TX1) C S4 ga0 3 kF_X1_19 dX1_become_29 rfl rfl (by decide) (by decide) rfl rfl rfl rfl rfl (vok_a rfl) (by decide +kernel) (fun H5 L5 S5 P5 => ?_)
  refine lv_aload_n hx hb dX1_become_32 rfl (lv_at hl 0 rfl) ?_
  refine lv_aload_n hx hb dX1_become_33 rfl (lv_at hl 1 rfl) ?_
  refine q_gi (T := TX1) C S5.1 ga1 4 kF_X1_22 dX1_become_34 rfl rfl (by decide) rfl (by decide) rfl ?_
  refine q_put (T := TX1) C S5 ga0 4 kF_X1_22 dX1_become_37 rfl rfl (by decide) (by decide) rfl rfl rfl rfl rfl (vok_a rfl) (by decide +kernel) (fun H6 L6 S6 P6 => ?_)
  refine lv_aload_n hx hb dX1_become_40 rfl (lv_at hl 0 rfl) ?_
  refine lv_aload_n hx hb dX1_become_41 rfl (lv_at hl 1 rfl) ?_
  refine q_gi (T := TX1) C S6.1 ga1 5 kF_X1_25 dX1_become_42 rfl rfl (by decide) rfl (by decide) rfl ?_
  refine q_put (T := TX1) C S6 ga0 5 kF_X1_25 dX1_become_45 rfl rfl (by decide) (by decide) rfl rfl rfl rfl rfl (vok_a rfl) (by decide +kernel) (fun H7 L7 S7 P7 => ?_)
  exact retE_v hQ C S7 hr dX1_become_48 (⟨by rw [Pt.o P7 (by decide) (by decide), Pt.o P6 (by decide) (by decide), Pt.o P5 (by decide) (by decide), Pt.o P4 (by decide) (by decide), Pt.o P3 (by decide) (by decide), Pt.i P2], fun q gq hq => by rw [Pt.f P7 hq, Pt.f P6 hq, Pt.f P5 hq, Pt.f P4 hq, Pt.f P3 hq, Pt.f P2 hq], ⟨by rw [Pt.any P7 (by decide) (by decide) a0, Pt.any P6 (by decide) (by decide) a0, Pt.any P5 (by decide) (by decide) a0, Pt.any P4 (by decide) (by decide) a0, Pt.any P3 (by decide) (by decide) a0, Pt.i P2], fun q hq => by rw [Pt.any P7 (by decide) (by decide) q, Pt.any P6 (by decide) (by decide) q, Pt.any P5 (by decide) (by decide) q, Pt.any P4 (by decide) (by decide) q, Pt.any P3 (by decide) (by decide) q, Pt.f P2 hq]⟩⟩)


theorem rows_step {D : DD} {G : Nat → Nat} {E : List (Nat × Nat)} {H H1 : Heap} {a0 i : Nat} {v : Int32} (hO : Ok D G H) (g0 : G a0 = 23) (K : Keep D G E H H1) (h1 : (23, 1) ∉ E) (h2 : (24, 0) ∉ E) (hi : i < 12) (hv : 0 ≤ v.toInt ∧ v.toInt ≤ 5) (q1 : (fI D H1 1 (eR H (fR D H 5 a0 1) i) 0).toInt = v.toInt) (q2 : ∀ q, G q = 25 → q ≠ eR H (fR D H 5 a0 1) i → fI D H1 1 q 0 = fI D H 1 q 0)
    (u : ∀ j : Nat, (j : Int) < (i : Int) → 0 ≤ (fI D H 1 (eR H (fR D H 5 a0 1) j) 0).toInt ∧ (fI D H 1 (eR H (fR D H 5 a0 1) j) 0).toInt ≤ 5) : ∀ j : Nat, (j : Int) < (i : Int) + 1 → 0 ≤ (fI D H1 1 (eR H1 (fR D H1 5 a0 1) j) 0).toInt ∧ (fI D H1 1 (eR H1 (fR D H1 5 a0 1) j) 0).toInt ≤ 5 := by
  intro j hj
  have gr : G (fR D H 5 a0 1) = 24 := hO.rol g0 rfl (by decide) rfl
  have e1 : eR H1 (fR D H1 5 a0 1) j = eR H (fR D H 5 a0 1) j := by
    rw [K.fR g0 rfl (by decide) h1]
    exact congrArg vR (eV_of (K.c gr rfl h2) j)
  rw [e1]
  by_cases e : eR H (fR D H 5 a0 1) j = eR H (fR D H 5 a0 1) i
  · rw [e, q1]; exact hv
  · rw [q2 _ (hO.role gr rfl (by omega)) e]
    exact u j (by have : j ≠ i := fun z => e (by rw [z]); omega)

set_option maxRecDepth 100000 in
set_option maxHeartbeats 4000000 in
theorem c_X5_become_d (l : Launch) (D : DD) (G : Nat → Nat) (a0 : Nat) (a1 : Nat) (ga0 : G a0 = 23) (ga1 : G a1 = 4) : CE l D G yX5_become cX5_become 3 none 1 [.ref a0, .ref a1] (fun H => Dr D G H a0) [(7, 0), (7, 1), (7, 2), (7, 3), (7, 4), (25, 0), (25, 1), (25, 2), (25, 3), (25, 4), (25, 5), (11, 0), (9, 1), (9, 2), (23, 3), (23, 4), (23, 5), (23, 6), (23, 7), (23, 8), (23, 9), (23, 10), (23, 11), (23, 12), (23, 13)] (xV (fun H H1 => Gd D G H1 ∧ Dr D G H1 a0 ∧ BC D G H H1 a0 a1)) := by
  refine enter (by decide) (Nat.le_of_ble_eq_true rfl) ?_
  intro p e s m args below meth c ls Q hA hQ C hr hO hpre hl
  have hx := C.1
  have hb := C.2.1
  have S : Sd D G [(7, 0), (7, 1), (7, 2), (7, 3), (7, 4), (25, 0), (25, 1), (25, 2), (25, 3), (25, 4), (25, 5), (11, 0), (9, 1), (9, 2), (23, 3), (23, 4), (23, 5), (23, 6), (23, 7), (23, 8), (23, 9), (23, 10), (23, 11), (23, 12), (23, 13)] s.heap s.heap [] := Sd.start hO
  have hl : lv_has ls 3 [(0, .ref a0), (1, .ref a1)] := hl
  refine lv_iconst (v := 0) hx hb dX5_become_0 (by decide) ?_
  refine lv_istore_n (lv' := [(2, .int (0 : Int32)), (0, .ref a0), (1, .ref a1)]) hx hb dX5_become_1 rfl hl (by decide) rfl (fun ls hl => ?_)
  have Lp2 : ∀ (n : Nat) (x2_2 : Int32) (H_2 : Heap) (L_2 : List Loc) (ls : Array Slot), (Sd D G [(7, 0), (7, 1), (7, 2), (7, 3), (7, 4), (25, 0), (25, 1), (25, 2), (25, 3), (25, 4), (25, 5), (11, 0), (9, 1), (9, 2), (23, 3), (23, 4), (23, 5), (23, 6), (23, 7), (23, 8), (23, 9), (23, 10), (23, 11), (23, 12), (23, 13)] s.heap H_2 L_2) → (0 ≤ x2_2.toInt ∧ x2_2.toInt ≤ 6) → (BI D G s.heap H_2 a0 a1 x2_2.toInt 0) → (BF D G s.heap H_2) → 7 - x2_2.toInt ≤ (n : Int) → lv_has ls 3 [(2, .int x2_2), (0, .ref a0), (1, .ref a1)] → W p l e (rmU 1 0 0) s m args below meth c H_2 L_2 0 0 Q (F0 m 2 ls []) := by
    intro n
    induction n with
    | zero =>
      intro x2_2 H_2 L_2 ls S_2 j2_0 u2_0 u2_1 hn hl
      exact absurd hn (by omega)
    | succ n ih2 =>
      intro x2_2 H_2 L_2 ls S_2 j2_0 u2_0 u2_1 hn hl
      refine lv_iload_n hx hb dX5_become_2 rfl (lv_at hl 0 rfl) ?_
      refine lv_bipush (v := 6) hx hb dX5_become_3 (by decide) ?_
      have k_6 : (6 : Int32).toInt = 6 := by decide
      refine lv_icmp_ge (tgt := 29) hx hb dX5_become_5 (by decide) (fun c1 => ?_) (fun c1 => ?_)
      · have b1 : (6 : Int32).toInt ≤ x2_2.toInt := i_le.mp c1
        refine lv_iconst (v := 0) hx hb dX5_become_29 (by decide) ?_
        refine lv_istore_n (lv' := [(2, .int (0 : Int32)), (0, .ref a0), (1, .ref a1)]) hx hb dX5_become_30 rfl hl (by decide) rfl (fun ls hl => ?_)
        have Lp31 : ∀ (n : Nat) (x2_31 : Int32) (H_31 : Heap) (L_31 : List Loc) (ls : Array Slot), (Sd D G [(7, 0), (7, 1), (7, 2), (7, 3), (7, 4), (25, 0), (25, 1), (25, 2), (25, 3), (25, 4), (25, 5), (11, 0), (9, 1), (9, 2), (23, 3), (23, 4), (23, 5), (23, 6), (23, 7), (23, 8), (23, 9), (23, 10), (23, 11), (23, 12), (23, 13)] s.heap H_31 L_31) → (0 ≤ x2_31.toInt ∧ x2_31.toInt ≤ 12) → (∀ j : Nat, (j : Int) < x2_31.toInt → 0 ≤ (fI D H_31 1 (eR H_31 (fR D H_31 5 a0 1) j) 0).toInt ∧ (fI D H_31 1 (eR H_31 (fR D H_31 5 a0 1) j) 0).toInt ≤ 5) → (BI D G s.heap H_31 a0 a1 6 x2_31.toInt) → (BF D G s.heap H_31) → 13 - x2_31.toInt ≤ (n : Int) → lv_has ls 3 [(2, .int x2_31), (0, .ref a0), (1, .ref a1)] → W p l e (rmU 1 0 0) s m args below meth c H_31 L_31 0 0 Q (F0 m 31 ls []) := by
          intro n
          induction n with
          | zero =>
            intro x2_31 H_31 L_31 ls S_31 j31_0 u31_0 u31_1 u31_2 hn hl
            exact absurd hn (by omega)
          | succ n ih31 =>
            intro x2_31 H_31 L_31 ls S_31 j31_0 u31_0 u31_1 u31_2 hn hl
            refine lv_iload_n hx hb dX5_become_31 rfl (lv_at hl 0 rfl) ?_
            refine lv_bipush (v := 12) hx hb dX5_become_32 (by decide) ?_
            have k_12 : (12 : Int32).toInt = 12 := by decide
            refine lv_icmp_ge (tgt := 58) hx hb dX5_become_34 (by decide) (fun c2 => ?_) (fun c2 => ?_)
            · have b2 : (12 : Int32).toInt ≤ x2_31.toInt := i_le.mp c2
              have dr : Dr D G H_31 a0 := Dr.keep hO hpre S_31.2.1 (by decide +kernel) (by decide +kernel)
              have tk58 : True → Gd D G H_31 := fun _ a ha => by obtain ⟨j, hj, e9⟩ := dr.2 a ha; rw [e9]; exact u31_0 j (by omega)
              refine lv_aload_n hx hb dX5_become_58 rfl (lv_at hl 1 rfl) ?_
              refine q_gr (T := TX5) C S_31.1 ga0 2 kF_X5_26 dX5_become_59 rfl rfl (by decide) rfl (by decide) rfl (fun g3 => ?_)
              refine lv_aload_n hx hb dX5_become_62 rfl (lv_at hl 2 rfl) ?_
              refine q_gr (T := TX5) C S_31.1 ga1 2 kF_X5_26 dX5_become_63 rfl rfl (by decide) rfl (by decide) rfl (fun g4 => ?_)
              refine callV_Ev C S_31 (c_X0_become l D G (fR D H_31 5 a0 2) (fR D H_31 5 a1 2) g3 g4) kV_X5_74 g3 (trivial) (by decide +kernel) dX5_become_66 hl.1 rfl rfl (by decide) cd_X0_become ⟨Nat.le_of_ble_eq_true rfl, Nat.le_of_ble_eq_true rfl, Nat.le_of_ble_eq_true rfl, Nat.le_of_ble_eq_true rfl, Nat.le_of_ble_eq_true rfl⟩ (fun H5 L5 S5 K5 q5 => ?_)
              have tk5 : True → Gd D G H5 := fun h9  => (tk58 h9).keep K5 (by decide +kernel)
              have bi0 := (u31_1.cast rfl (show x2_31.toInt = 12 by omega)).keep hO (Or.inr ga0) K5 (by decide) (by decide)
              have bf0 := u31_2.keep K5 (by decide +kernel)
              refine lv_aload_n hx hb dX5_become_69 rfl (lv_at hl 1 rfl) ?_
              refine lv_aload_n hx hb dX5_become_70 rfl (lv_at hl 2 rfl) ?_
              refine q_gi (T := TX5) C S5.1 ga1 3 kF_X5_30 dX5_become_71 rfl rfl (by decide) rfl (by decide) rfl ?_
              have r6 : 0 ≤ (fI D H5 5 a1 3).toInt ∧ (fI D H5 5 a1 3).toInt ≤ 6 := S5.1.rng ga1 rfl (by decide) rfl
              refine q_put (T := TX5) C S5 ga0 3 kF_X5_30 dX5_become_74 rfl rfl (by decide) (by decide) rfl rfl rfl rfl rfl (vok_i rfl (by omega) (by omega)) (by decide +kernel) (fun H7 L7 S7 P7 => ?_)
              have tk7 : True → Gd D G H7 := fun h9  => (tk5 h9).put ga0 P7 (Or.inl (by decide))
              refine lv_aload_n hx hb dX5_become_77 rfl (lv_at hl 1 rfl) ?_
              refine lv_aload_n hx hb dX5_become_78 rfl (lv_at hl 2 rfl) ?_
              refine q_gi (T := TX5) C S7.1 ga1 4 kF_X5_34 dX5_become_79 rfl rfl (by decide) rfl (by decide) rfl ?_
              have r8 : 0 ≤ (fI D H7 5 a1 4).toInt ∧ (fI D H7 5 a1 4).toInt ≤ 12 := S7.1.rng ga1 rfl (by decide) rfl
              refine q_put (T := TX5) C S7 ga0 4 kF_X5_34 dX5_become_82 rfl rfl (by decide) (by decide) rfl rfl rfl rfl rfl (vok_i rfl (by omega) (by omega)) (by decide +kernel) (fun H9 L9 S9 P9 => ?_)
              have tk9 : True → Gd D G H9 := fun h9  => (tk7 h9).put ga0 P9 (Or.inl (by decide))
              refine lv_aload_n hx hb dX5_become_85 rfl (lv_at hl 1 rfl) ?_
              refine lv_aload_n hx hb dX5_become_86 rfl (lv_at hl 2 rfl) ?_
              refine q_gi (T := TX5) C S9.1 ga1 5 kF_X5_37 dX5_become_87 rfl rfl (by decide) rfl (by decide) rfl ?_
              refine q_put (T := TX5) C S9 ga0 5 kF_X5_37 dX5_become_90 rfl rfl (by decide) (by decide) rfl rfl rfl rfl rfl (vok_a rfl) (by decide +kernel) (fun H10 L10 S10 P10 => ?_)
              have tk10 : True → Gd D G H10 := fun h9  => (tk9 h9).put ga0 P10 (Or.inl (by decide))
              refine lv_aload_n hx hb dX5_become_93 rfl (lv_at hl 1 rfl) ?_
              refine lv_aload_n hx hb dX5_become_94 rfl (lv_at hl 2 rfl) ?_
              refine q_gi (T := TX5) C S10.1 ga1 6 kF_X5_40 dX5_become_95 rfl rfl (by decide) rfl (by decide) rfl ?_
              refine q_put (T := TX5) C S10 ga0 6 kF_X5_40 dX5_become_98 rfl rfl (by decide) (by decide) rfl rfl rfl rfl rfl (vok_a rfl) (by decide +kernel) (fun H11 L11 S11 P11 => ?_)
              have tk11 : True → Gd D G H11 := fun h9  => (tk10 h9).put ga0 P11 (Or.inl (by decide))
              refine lv_aload_n hx hb dX5_become_101 rfl (lv_at hl 1 rfl) ?_
              refine lv_aload_n hx hb dX5_become_102 rfl (lv_at hl 2 rfl) ?_
              refine q_gi (T := TX5) C S11.1 ga1 7 kF_X5_43 dX5_become_103 rfl rfl (by decide) rfl (by decide) rfl ?_
              refine q_put (T := TX5) C S11 ga0 7 kF_X5_43 dX5_become_106 rfl rfl (by decide) (by decide) rfl rfl rfl rfl rfl (vok_a rfl) (by decide +kernel) (fun H12 L12 S12 P12 => ?_)
              have tk12 : True → Gd D G H12 := fun h9  => (tk11 h9).put ga0 P12 (Or.inl (by decide))
              refine lv_aload_n hx hb dX5_become_109 rfl (lv_at hl 1 rfl) ?_
              refine lv_aload_n hx hb dX5_become_110 rfl (lv_at hl 2 rfl) ?_
              refine q_gi (T := TX5) C S12.1 ga1 8 kF_X5_46 dX5_become_111 rfl rfl (by decide) rfl (by decide) rfl ?_
              refine q_put (T := TX5) C S12 ga0 8 kF_X5_46 dX5_become_114 rfl rfl (by decide) (by decide) rfl rfl rfl rfl rfl (vok_a rfl) (by decide +kernel) (fun H13 L13 S13 P13 => ?_)
              have tk13 : True → Gd D G H13 := fun h9  => (tk12 h9).put ga0 P13 (Or.inl (by decide))
              refine lv_aload_n hx hb dX5_become_117 rfl (lv_at hl 1 rfl) ?_
              refine lv_aload_n hx hb dX5_become_118 rfl (lv_at hl 2 rfl) ?_
              refine q_gi (T := TX5) C S13.1 ga1 9 kF_X5_49 dX5_become_119 rfl rfl (by decide) rfl (by decide) rfl ?_
              refine q_put (T := TX5) C S13 ga0 9 kF_X5_49 dX5_become_122 rfl rfl (by decide) (by decide) rfl rfl rfl rfl rfl (vok_a rfl) (by decide +kernel) (fun H14 L14 S14 P14 => ?_)
              have tk14 : True → Gd D G H14 := fun h9  => (tk13 h9).put ga0 P14 (Or.inl (by decide))
              refine lv_aload_n hx hb dX5_become_125 rfl (lv_at hl 1 rfl) ?_
              refine lv_aload_n hx hb dX5_become_126 rfl (lv_at hl 2 rfl) ?_
              refine q_gi (T := TX5) C S14.1 ga1 10 kF_X5_52 dX5_become_127 rfl rfl (by decide) rfl (by decide) rfl ?_
              refine q_put (T := TX5) C S14 ga0 10 kF_X5_52 dX5_become_130 rfl rfl (by decide) (by decide) rfl rfl rfl rfl rfl (vok_a rfl) (by decide +kernel) (fun H15 L15 S15 P15 => ?_)
              have tk15 : True → Gd D G H15 := fun h9  => (tk14 h9).put ga0 P15 (Or.inl (by decide))
              refine lv_aload_n hx hb dX5_become_133 rfl (lv_at hl 1 rfl) ?_
              refine lv_aload_n hx hb dX5_become_134 rfl (lv_at hl 2 rfl) ?_
              refine q_gi (T := TX5) C S15.1 ga1 11 kF_X5_55 dX5_become_135 rfl rfl (by decide) rfl (by decide) rfl ?_
              refine q_put (T := TX5) C S15 ga0 11 kF_X5_55 dX5_become_138 rfl rfl (by decide) (by decide) rfl rfl rfl rfl rfl (vok_a rfl) (by decide +kernel) (fun H16 L16 S16 P16 => ?_)
              have tk16 : True → Gd D G H16 := fun h9  => (tk15 h9).put ga0 P16 (Or.inl (by decide))
              refine lv_aload_n hx hb dX5_become_141 rfl (lv_at hl 1 rfl) ?_
              refine lv_aload_n hx hb dX5_become_142 rfl (lv_at hl 2 rfl) ?_
              refine q_gi (T := TX5) C S16.1 ga1 12 kF_X5_58 dX5_become_143 rfl rfl (by decide) rfl (by decide) rfl ?_
              refine q_put (T := TX5) C S16 ga0 12 kF_X5_58 dX5_become_146 rfl rfl (by decide) (by decide) rfl rfl rfl rfl rfl (vok_a rfl) (by decide +kernel) (fun H17 L17 S17 P17 => ?_)
              have tk17 : True → Gd D G H17 := fun h9  => (tk16 h9).put ga0 P17 (Or.inl (by decide))
              refine lv_aload_n hx hb dX5_become_149 rfl (lv_at hl 1 rfl) ?_
              refine lv_aload_n hx hb dX5_become_150 rfl (lv_at hl 2 rfl) ?_
              refine q_gn (T := TX5) C S17.1 ga1 13 kF_X5_61 dX5_become_151 rfl rfl (by decide) rfl (by decide) rfl (fun zg18 => ?_) (fun zg18 g18 => ?_)
              · skip
                refine q_put (T := TX5) C S17 ga0 13 kF_X5_61 dX5_become_154 rfl rfl (by decide) (by decide) rfl rfl rfl rfl rfl (vok_n rfl) (by decide +kernel) (fun H19 L19 S19 P19 => ?_)
                have tk19 : True → Gd D G H19 := fun h9  => (tk17 h9).put ga0 P19 (Or.inl (by decide))
                have bi1 := bi0.keep hO (Or.inr ga0) (Pt.keep ga0 rfl (by decide) P7) (by decide) (by decide)
                have bi2 := bi1.keep hO (Or.inr ga0) (Pt.keep ga0 rfl (by decide) P9) (by decide) (by decide)
                have bi3 := bi2.keep hO (Or.inr ga0) (Pt.keep ga0 rfl (by decide) P10) (by decide) (by decide)
                have bi4 := bi3.keep hO (Or.inr ga0) (Pt.keep ga0 rfl (by decide) P11) (by decide) (by decide)
                have bi5 := bi4.keep hO (Or.inr ga0) (Pt.keep ga0 rfl (by decide) P12) (by decide) (by decide)
                have bi6 := bi5.keep hO (Or.inr ga0) (Pt.keep ga0 rfl (by decide) P13) (by decide) (by decide)
                have bi7 := bi6.keep hO (Or.inr ga0) (Pt.keep ga0 rfl (by decide) P14) (by decide) (by decide)
                have bi8 := bi7.keep hO (Or.inr ga0) (Pt.keep ga0 rfl (by decide) P15) (by decide) (by decide)
                have bi9 := bi8.keep hO (Or.inr ga0) (Pt.keep ga0 rfl (by decide) P16) (by decide) (by decide)
                have bi10 := bi9.keep hO (Or.inr ga0) (Pt.keep ga0 rfl (by decide) P17) (by decide) (by decide)
                have bi11 := bi10.keep hO (Or.inr ga0) (Pt.keep ga0 rfl (by decide) P19) (by decide) (by decide)
                exact retE_v hQ C S19 hr dX5_become_157 (⟨tk19 trivial, Dr.keep hO hpre S19.2.1 (by decide +kernel) (by decide +kernel), BC.of bi11 hO (Or.inr ga0) (Or.inl ga1) S19.2.1 (by rw [Pt.any P19 (by decide) (by decide) a0, Pt.any P17 (by decide) (by decide) a0, Pt.any P16 (by decide) (by decide) a0, Pt.any P15 (by decide) (by decide) a0, Pt.any P14 (by decide) (by decide) a0, Pt.any P13 (by decide) (by decide) a0, Pt.any P12 (by decide) (by decide) a0, Pt.any P11 (by decide) (by decide) a0, Pt.any P10 (by decide) (by decide) a0, Pt.any P9 (by decide) (by decide) a0, Pt.i P7, bf0 a1 3 (Or.inl ga1) (by decide)]) (by rw [Pt.any P19 (by decide) (by decide) a0, Pt.any P17 (by decide) (by decide) a0, Pt.any P16 (by decide) (by decide) a0, Pt.any P15 (by decide) (by decide) a0, Pt.any P14 (by decide) (by decide) a0, Pt.any P13 (by decide) (by decide) a0, Pt.any P12 (by decide) (by decide) a0, Pt.any P11 (by decide) (by decide) a0, Pt.any P10 (by decide) (by decide) a0, Pt.i P9, Pt.any P7 (by decide) (by decide) a1, bf0 a1 4 (Or.inl ga1) (by decide)]) (by rw [Pt.any P19 (by decide) (by decide) a0, Pt.any P17 (by decide) (by decide) a0, Pt.any P16 (by decide) (by decide) a0, Pt.any P15 (by decide) (by decide) a0, Pt.any P14 (by decide) (by decide) a0, Pt.any P13 (by decide) (by decide) a0, Pt.any P12 (by decide) (by decide) a0, Pt.any P11 (by decide) (by decide) a0, Pt.i P10, Pt.any P9 (by decide) (by decide) a1, Pt.any P7 (by decide) (by decide) a1, bf0 a1 5 (Or.inl ga1) (by decide)]) (by rw [Pt.any P19 (by decide) (by decide) a0, Pt.any P17 (by decide) (by decide) a0, Pt.any P16 (by decide) (by decide) a0, Pt.any P15 (by decide) (by decide) a0, Pt.any P14 (by decide) (by decide) a0, Pt.i P13, Pt.any P12 (by decide) (by decide) a1, Pt.any P11 (by decide) (by decide) a1, Pt.any P10 (by decide) (by decide) a1, Pt.any P9 (by decide) (by decide) a1, Pt.any P7 (by decide) (by decide) a1, bf0 a1 8 (Or.inl ga1) (by decide)]) (fun q hq hn => ⟨by rw [Pt.f P19 hn, Pt.f P17 hn, Pt.f P16 hn, Pt.f P15 hn, Pt.f P14 hn, Pt.f P13 hn, Pt.f P12 hn, Pt.f P11 hn, Pt.f P10 hn, Pt.f P9 hn, Pt.f P7 hn, bf0 q 3 hq (by decide)], by rw [Pt.f P19 hn, Pt.f P17 hn, Pt.f P16 hn, Pt.f P15 hn, Pt.f P14 hn, Pt.f P13 hn, Pt.f P12 hn, Pt.f P11 hn, Pt.f P10 hn, Pt.f P9 hn, Pt.f P7 hn, bf0 q 4 hq (by decide)], by rw [Pt.f P19 hn, Pt.f P17 hn, Pt.f P16 hn, Pt.f P15 hn, Pt.f P14 hn, Pt.f P13 hn, Pt.f P12 hn, Pt.f P11 hn, Pt.f P10 hn, Pt.f P9 hn, Pt.f P7 hn, bf0 q 5 hq (by decide)], by rw [Pt.f P19 hn, Pt.f P17 hn, Pt.f P16 hn, Pt.f P15 hn, Pt.f P14 hn, Pt.f P13 hn, Pt.f P12 hn, Pt.f P11 hn, Pt.f P10 hn, Pt.f P9 hn, Pt.f P7 hn, bf0 q 8 hq (by decide)]⟩)⟩)
              · skip
                refine q_put (T := TX5) C S17 ga0 13 kF_X5_61 dX5_become_154 rfl rfl (by decide) (by decide) rfl rfl rfl rfl rfl (vok_r rfl g18) (by decide +kernel) (fun H20 L20 S20 P20 => ?_)
                have tk20 : True → Gd D G H20 := fun h9  => (tk17 h9).put ga0 P20 (Or.inl (by decide))
                have bi1 := bi0.keep hO (Or.inr ga0) (Pt.keep ga0 rfl (by decide) P7) (by decide) (by decide)
                have bi2 := bi1.keep hO (Or.inr ga0) (Pt.keep ga0 rfl (by decide) P9) (by decide) (by decide)
                have bi3 := bi2.keep hO (Or.inr ga0) (Pt.keep ga0 rfl (by decide) P10) (by decide) (by decide)
                have bi4 := bi3.keep hO (Or.inr ga0) (Pt.keep ga0 rfl (by decide) P11) (by decide) (by decide)
                have bi5 := bi4.keep hO (Or.inr ga0) (Pt.keep ga0 rfl (by decide) P12) (by decide) (by decide)
                have bi6 := bi5.keep hO (Or.inr ga0) (Pt.keep ga0 rfl (by decide) P13) (by decide) (by decide)
                have bi7 := bi6.keep hO (Or.inr ga0) (Pt.keep ga0 rfl (by decide) P14) (by decide) (by decide)
                have bi8 := bi7.keep hO (Or.inr ga0) (Pt.keep ga0 rfl (by decide) P15) (by decide) (by decide)
                have bi9 := bi8.keep hO (Or.inr ga0) (Pt.keep ga0 rfl (by decide) P16) (by decide) (by decide)
                have bi10 := bi9.keep hO (Or.inr ga0) (Pt.keep ga0 rfl (by decide) P17) (by decide) (by decide)
                have bi11 := bi10.keep hO (Or.inr ga0) (Pt.keep ga0 rfl (by decide) P20) (by decide) (by decide)
                exact retE_v hQ C S20 hr dX5_become_157 (⟨tk20 trivial, Dr.keep hO hpre S20.2.1 (by decide +kernel) (by decide +kernel), BC.of bi11 hO (Or.inr ga0) (Or.inl ga1) S20.2.1 (by rw [Pt.any P20 (by decide) (by decide) a0, Pt.any P17 (by decide) (by decide) a0, Pt.any P16 (by decide) (by decide) a0, Pt.any P15 (by decide) (by decide) a0, Pt.any P14 (by decide) (by decide) a0, Pt.any P13 (by decide) (by decide) a0, Pt.any P12 (by decide) (by decide) a0, Pt.any P11 (by decide) (by decide) a0, Pt.any P10 (by decide) (by decide) a0, Pt.any P9 (by decide) (by decide) a0, Pt.i P7, bf0 a1 3 (Or.inl ga1) (by decide)]) (by rw [Pt.any P20 (by decide) (by decide) a0, Pt.any P17 (by decide) (by decide) a0, Pt.any P16 (by decide) (by decide) a0, Pt.any P15 (by decide) (by decide) a0, Pt.any P14 (by decide) (by decide) a0, Pt.any P13 (by decide) (by decide) a0, Pt.any P12 (by decide) (by decide) a0, Pt.any P11 (by decide) (by decide) a0, Pt.any P10 (by decide) (by decide) a0, Pt.i P9, Pt.any P7 (by decide) (by decide) a1, bf0 a1 4 (Or.inl ga1) (by decide)]) (by rw [Pt.any P20 (by decide) (by decide) a0, Pt.any P17 (by decide) (by decide) a0, Pt.any P16 (by decide) (by decide) a0, Pt.any P15 (by decide) (by decide) a0, Pt.any P14 (by decide) (by decide) a0, Pt.any P13 (by decide) (by decide) a0, Pt.any P12 (by decide) (by decide) a0, Pt.any P11 (by decide) (by decide) a0, Pt.i P10, Pt.any P9 (by decide) (by decide) a1, Pt.any P7 (by decide) (by decide) a1, bf0 a1 5 (Or.inl ga1) (by decide)]) (by rw [Pt.any P20 (by decide) (by decide) a0, Pt.any P17 (by decide) (by decide) a0, Pt.any P16 (by decide) (by decide) a0, Pt.any P15 (by decide) (by decide) a0, Pt.any P14 (by decide) (by decide) a0, Pt.i P13, Pt.any P12 (by decide) (by decide) a1, Pt.any P11 (by decide) (by decide) a1, Pt.any P10 (by decide) (by decide) a1, Pt.any P9 (by decide) (by decide) a1, Pt.any P7 (by decide) (by decide) a1, bf0 a1 8 (Or.inl ga1) (by decide)]) (fun q hq hn => ⟨by rw [Pt.f P20 hn, Pt.f P17 hn, Pt.f P16 hn, Pt.f P15 hn, Pt.f P14 hn, Pt.f P13 hn, Pt.f P12 hn, Pt.f P11 hn, Pt.f P10 hn, Pt.f P9 hn, Pt.f P7 hn, bf0 q 3 hq (by decide)], by rw [Pt.f P20 hn, Pt.f P17 hn, Pt.f P16 hn, Pt.f P15 hn, Pt.f P14 hn, Pt.f P13 hn, Pt.f P12 hn, Pt.f P11 hn, Pt.f P10 hn, Pt.f P9 hn, Pt.f P7 hn, bf0 q 4 hq (by decide)], by rw [Pt.f P20 hn, Pt.f P17 hn, Pt.f P16 hn, Pt.f P15 hn, Pt.f P14 hn, Pt.f P13 hn, Pt.f P12 hn, Pt.f P11 hn, Pt.f P10 hn, Pt.f P9 hn, Pt.f P7 hn, bf0 q 5 hq (by decide)], by rw [Pt.f P20 hn, Pt.f P17 hn, Pt.f P16 hn, Pt.f P15 hn, Pt.f P14 hn, Pt.f P13 hn, Pt.f P12 hn, Pt.f P11 hn, Pt.f P10 hn, Pt.f P9 hn, Pt.f P7 hn, bf0 q 8 hq (by decide)]⟩)⟩)
            · have b2 : ¬ (12 : Int32).toInt ≤ x2_31.toInt := fun z9 => c2 (i_le.mpr z9)
              refine lv_aload_n hx hb dX5_become_37 rfl (lv_at hl 1 rfl) ?_
              refine q_gr (T := TX5) C S_31.1 ga0 1 kF_X5_19 dX5_become_38 rfl rfl (by decide) rfl (by decide) rfl (fun g21 => ?_)
              refine lv_iload_n hx hb dX5_become_41 rfl (lv_at hl 0 rfl) ?_
              refine q_aald C S_31.1 g21 (by omega) (by omega) dX5_become_42 rfl (by decide) rfl rfl (fun g22 => ?_)
              refine lv_aload_n hx hb dX5_become_43 rfl (lv_at hl 2 rfl) ?_
              refine q_gr (T := TX5) C S_31.1 ga1 1 kF_X5_19 dX5_become_44 rfl rfl (by decide) rfl (by decide) rfl (fun g23 => ?_)
              refine lv_iload_n hx hb dX5_become_47 rfl (lv_at hl 0 rfl) ?_
              refine q_aald C S_31.1 g23 (by omega) (by omega) dX5_become_48 rfl (by decide) rfl rfl (fun g24 => ?_)
              have SQ := S_31
              have GQ := ga0
              have vq : 0 ≤ (fI D H_31 1 (eR H_31 (fR D H_31 5 a1 1) x2_31.toInt.toNat) 0).toInt ∧ (fI D H_31 1 (eR H_31 (fR D H_31 5 a1 1) x2_31.toInt.toNat) 0).toInt ≤ 5 := S_31.1.rng (S_31.1.role (S_31.1.rol ga1 rfl (by decide) rfl) rfl (by omega)) rfl (by decide) rfl
              refine callV_Ev C S_31 (c_X1_become_d l D G (eR H_31 (fR D H_31 5 a0 1) x2_31.toInt.toNat) (eR H_31 (fR D H_31 5 a1 1) x2_31.toInt.toNat) g22 g24) kV_X5_71 g22 (trivial) (by decide +kernel) dX5_become_49 hl.1 rfl rfl (by decide) cd_X1_become ⟨Nat.le_of_ble_eq_true rfl, Nat.le_of_ble_eq_true rfl, Nat.le_of_ble_eq_true rfl, Nat.le_of_ble_eq_true rfl, Nat.le_of_ble_eq_true rfl⟩ (fun H25 L25 S25 K25 q25 => ?_)
              have qq := q25
              obtain ⟨v26, ev26⟩ : ∃ y : Int32, y = x2_31 + (1) := ⟨_, rfl⟩
              have k_1 : (1 : Int32).toInt = 1 := by decide
              have f27 : v26.toInt = x2_31.toInt + (1) := by rw [ev26]; exact i_addc k_1 (by omega) (by omega)
              refine lv_iinc (v := v26) (lv' := [(2, .int v26), (0, .ref a0), (1, .ref a1)]) hx hb dX5_become_52 hl (k := 0) rfl (by rw [ev26]; rfl) (by decide) rfl (fun ls hl => ?_)
              refine lv_goto (tgt := 31) hx hb dX5_become_55 (by decide) ?_
              exact ih31 v26 H25 L25 ls S25 (by omega) (by have z9 := rows_step SQ.1 ga0 K25 (by decide) (by decide) (i := x2_31.toInt.toNat) (by omega) vq qq.1 qq.2.1 (fun j hj => u31_0 j (by omega)); intro j hj; exact z9 j (by omega)) (u31_1.hearth hO (Or.inr ga0) (Or.inl ga1) K25 qq.2.2.1 qq.2.2.2 (hs_keep hO (Or.inr ga0) S_31.2.1 (by decide +kernel) _) (hs_keep hO (Or.inl ga1) S_31.2.1 (by decide +kernel) _) (by omega) (by omega)) (u31_2.keep K25 (by decide +kernel)) (by omega) (lv_sub hl [0, 1, 2] rfl)
        have k_0 : (0 : Int32).toInt = 0 := by decide
        exact Lp31 13 (0 : Int32) H_2 L_2 ls S_2 (by omega) (fun j hj => by omega) (u2_0.cast (by omega) (by decide)) u2_1  (by omega) (lv_sub hl [0, 1, 2] rfl)
      · have b1 : ¬ (6 : Int32).toInt ≤ x2_2.toInt := fun z9 => c1 (i_le.mpr z9)
        refine lv_aload_n hx hb dX5_become_8 rfl (lv_at hl 1 rfl) ?_
        refine q_gr (T := TX5) C S_2.1 ga0 0 kF_X5_11 dX5_become_9 rfl rfl (by decide) rfl (by decide) rfl (fun g28 => ?_)
        refine lv_iload_n hx hb dX5_become_12 rfl (lv_at hl 0 rfl) ?_
        refine q_aald C S_2.1 g28 (by omega) (by omega) dX5_become_13 rfl (by decide) rfl rfl (fun g29 => ?_)
        refine lv_aload_n hx hb dX5_become_14 rfl (lv_at hl 2 rfl) ?_
        refine q_gr (T := TX5) C S_2.1 ga1 0 kF_X5_11 dX5_become_15 rfl rfl (by decide) rfl (by decide) rfl (fun g30 => ?_)
        refine lv_iload_n hx hb dX5_become_18 rfl (lv_at hl 0 rfl) ?_
        refine q_aald C S_2.1 g30 (by omega) (by omega) dX5_become_19 rfl (by decide) rfl rfl (fun g31 => ?_)
        refine callV_Ev C S_2 (c_X2_become l D G (eR H_2 (fR D H_2 5 a0 0) x2_2.toInt.toNat) (eR H_2 (fR D H_2 5 a1 0) x2_2.toInt.toNat) g29 g31) kV_X5_67 g29 (trivial) (by decide +kernel) dX5_become_20 hl.1 rfl rfl (by decide) cd_X2_become ⟨Nat.le_of_ble_eq_true rfl, Nat.le_of_ble_eq_true rfl, Nat.le_of_ble_eq_true rfl, Nat.le_of_ble_eq_true rfl, Nat.le_of_ble_eq_true rfl⟩ (fun H32 L32 S32 K32 q32 => ?_)
        have bq := q32
        obtain ⟨v33, ev33⟩ : ∃ y : Int32, y = x2_2 + (1) := ⟨_, rfl⟩
        have k_1 : (1 : Int32).toInt = 1 := by decide
        have f34 : v33.toInt = x2_2.toInt + (1) := by rw [ev33]; exact i_addc k_1 (by omega) (by omega)
        refine lv_iinc (v := v33) (lv' := [(2, .int v33), (0, .ref a0), (1, .ref a1)]) hx hb dX5_become_23 hl (k := 0) rfl (by rw [ev33]; rfl) (by decide) rfl (fun ls hl => ?_)
        refine lv_goto (tgt := 2) hx hb dX5_become_26 (by decide) ?_
        exact ih2 v33 H32 L32 ls S32 (by omega) (u2_0.house hO (Or.inr ga0) (Or.inl ga1) K32 bq.1 bq.2 (ho_keep hO (Or.inr ga0) S_2.2.1 (by decide +kernel) _) (ho_keep hO (Or.inl ga1) S_2.2.1 (by decide +kernel) _) (by omega) (by omega)) (u2_1.keep K32 (by decide +kernel)) (by omega) (lv_sub hl [0, 1, 2] rfl)
  have k_0 : (0 : Int32).toInt = 0 := by decide
  exact Lp2 7 (0 : Int32) s.heap [] ls S (by omega) (BI.start.cast (by decide) rfl) BF.start  (by omega) (lv_sub hl [0, 1, 2] rfl)


theorem BC.dn {D : DD} {G : Nat → Nat} {H H1 : Heap} {p q : Nat} (h : BC D (rt G) H H1 p q) : BC D G H H1 p q := ⟨h.1, fun o ho => h.2 o (Or.inl (by show rtn (G o) = 4; rcases ho with ho | ho <;> rw [ho] <;> rfl))⟩

theorem c_X5_passQuarter_d (l : Launch) (D : DD) (G : Nat → Nat) (a0 : Nat) (x1 : Int32) (ga0 : G a0 = 23) (ix1 : 0 ≤ x1.toInt ∧ x1.toInt ≤ 1) : CE l D G yX5_passQuarter cX5_passQuarter 7 (some .int) 5 [.ref a0, .int x1] (fun H => Gd D G H) [(14, 0), (15, 0), (7, 0), (8, 5), (4, 10), (4, 11), (4, 12), (11, 0), (9, 1), (9, 2), (25, 5), (23, 10), (23, 11), (23, 12)] (xI (fun H r H1 => Gd D G H1)) :=
  CE.weak (CE.re (c_X5_passQuarter l D (rt G) a0 x1 (by show rtn (G a0) = 4; rw [ga0]; rfl) ix1) (by decide +kernel) (by decide +kernel)) (fun H hO hg => ⟨hO.up hg, trivial⟩) (fun H v H1 _ _ _ _ hq => by obtain ⟨h1, r, e, -⟩ := hq; exact ⟨r, e, h1.dn⟩)
theorem c_X5_become_r (l : Launch) (D : DD) (G : Nat → Nat) (a0 a1 : Nat) (ga0 : G a0 = 4) (ga1 : G a1 = 23) : CE l D G yX5_become cX5_become 3 none 1 [.ref a0, .ref a1] (fun H => Gd D G H) [(7, 0), (7, 1), (7, 2), (7, 3), (7, 4), (8, 0), (8, 1), (8, 2), (8, 3), (8, 4), (8, 5), (11, 0), (9, 1), (9, 2), (4, 3), (4, 4), (4, 5), (4, 6), (4, 7), (4, 8), (4, 9), (4, 10), (4, 11), (4, 12), (4, 13), (25, 0), (25, 1), (25, 2), (25, 3), (25, 4), (25, 5), (23, 3), (23, 4), (23, 5), (23, 6), (23, 7), (23, 8), (23, 9), (23, 10), (23, 11), (23, 12), (23, 13)] (xV (fun H H1 => Gd D G H1 ∧ BC D G H H1 a0 a1)) :=
  CE.weak (CE.re (c_X5_become l D (rt G) a0 a1 (by show rtn (G a0) = 4; rw [ga0]; rfl) (by show rtn (G a1) = 4; rw [ga1]; rfl)) (by decide +kernel) (by decide +kernel)) (fun H hO hg => ⟨hO.up hg, trivial⟩) (fun H v H1 _ _ _ _ hq => by obtain ⟨h1, e, hb⟩ := hq; exact ⟨e, h1.dn, hb.dn⟩)



set_option maxRecDepth 100000 in
set_option maxHeartbeats 4000000 in
theorem c_X11_broke (l : Launch) (D : DD) (G : Nat → Nat) (a0 : Nat) (x1 : Int32) (ga0 : G a0 = 1) : CX l D G yX11_broke cX11_broke 3 (some .int) 6 1 6 [.ref a0, .int x1] (fun H => Dr D G H (fR D H 10 a0 2)) [(7, 0), (7, 1), (7, 2), (7, 3), (7, 4), (25, 0), (25, 1), (25, 2), (25, 3), (25, 4), (25, 5), (11, 0), (9, 1), (9, 2), (23, 3), (23, 4), (23, 5), (23, 6), (23, 7), (23, 8), (23, 9), (23, 10), (23, 11), (23, 12), (23, 13), (14, 0), (15, 0), (8, 5), (4, 10), (4, 11), (4, 12)] (xI (fun H r H1 => (True) ∧ (∀ Vv Kv : Sg, CI D H a0 Vv Kv → CI D H1 a0 Vv Kv))) (fun H En H1 => (En = "java/lang/IndexOutOfBoundsException") ∧ (∀ Vv Kv : Sg, CI D H a0 Vv Kv → CI D H1 a0 Vv Kv)) := by
  refine enterX (by decide) (Nat.le_of_ble_eq_true rfl) ?_
  intro hl0 p e s m args below meth c ls Q hA hQ ht C hr hO hpre hl
  have hx := C.1
  have hb := C.2.1
  have S : Sd D G [(7, 0), (7, 1), (7, 2), (7, 3), (7, 4), (25, 0), (25, 1), (25, 2), (25, 3), (25, 4), (25, 5), (11, 0), (9, 1), (9, 2), (23, 3), (23, 4), (23, 5), (23, 6), (23, 7), (23, 8), (23, 9), (23, 10), (23, 11), (23, 12), (23, 13), (14, 0), (15, 0), (8, 5), (4, 10), (4, 11), (4, 12)] s.heap s.heap [] := Sd.start hO
  have hl : lv_has ls 3 [(0, .ref a0), (1, .int x1)] := hl
  have rk0 : ∀ Vv Kv : Sg, CI D s.heap a0 Vv Kv → CI D s.heap a0 Vv Kv := fun Vv Kv hv => hv
  refine lv_aload_n hx hb dX11_broke_0 rfl (lv_at hl 0 rfl) ?_
  refine lv_iload_n hx hb dX11_broke_1 rfl (lv_at hl 1 rfl) ?_
  refine callV_Xv hl0 C S (c_X11_needHouse l D G a0 x1 ga0) kV_X11_125 ga0 (trivial) (by decide +kernel) dX11_broke_2 hl.1 rfl rfl (by decide) cd_X11_needHouse ⟨Nat.le_of_ble_eq_true rfl, Nat.le_of_ble_eq_true rfl, Nat.le_of_ble_eq_true rfl, Nat.le_of_ble_eq_true rfl, Nat.le_of_ble_eq_true rfl⟩ (fun H1 L1 S1 K1 q1 => ?_) (fun En H1 L1 q9 ce S1 K1 X1 h7 h8 h9 => outX hQ C ht S1 h7 h8 h9 (by decide) (by decide) ⟨(by rcases X1 with rfl <;> simp), fun Vv Kv hv => (rk0 Vv Kv hv).keep S.1 ga0 K1 (by decide +kernel)⟩)
  have rk1 : ∀ Vv Kv : Sg, CI D s.heap a0 Vv Kv → CI D H1 a0 Vv Kv := fun Vv Kv hv => (rk0 Vv Kv hv).keep S.1 ga0 K1 (by decide +kernel)
  refine lv_aload_n hx hb dX11_broke_5 rfl (lv_at hl 0 rfl) ?_
  refine q_grD (T := TX11) C S1.1 ga0 2 kF_X11_23 dX11_broke_6 rfl rfl (by decide) rfl (by decide) rfl (fun g2 => ?_)
  replace g2 : G (fR D H1 10 a0 2) = 23 := by rw [S1.2.1.fR ga0 rfl (by decide) (by decide +kernel)]; exact hpre.1
  refine lv_aload_n hx hb dX11_broke_9 rfl (lv_at hl 0 rfl) ?_
  refine q_gr (T := TX11) C S1.1 ga0 1 kF_X11_19 dX11_broke_10 rfl rfl (by decide) rfl (by decide) rfl (fun g3 => ?_)
  refine callV_Ev C S1 (c_X5_become_d l D G (fR D H1 10 a0 2) (fR D H1 10 a0 1) g2 g3) kV_X11_78 g2 (by rw [S1.2.1.fR ga0 rfl (by decide) (by decide +kernel)]; exact Dr.keep hO hpre S1.2.1 (by decide +kernel) (by decide +kernel)) (by decide +kernel) dX11_broke_13 hl.1 rfl rfl (by decide) cd_X5_become ⟨Nat.le_of_ble_eq_true rfl, Nat.le_of_ble_eq_true rfl, Nat.le_of_ble_eq_true rfl, Nat.le_of_ble_eq_true rfl, Nat.le_of_ble_eq_true rfl⟩ (fun H4 L4 S4 K4 q4 => ?_)
  have rk4 : ∀ Vv Kv : Sg, CI D s.heap a0 Vv Kv → CI D H4 a0 Vv Kv := fun Vv Kv hv => (rk1 Vv Kv hv).dr S1.1 ga0 K4 q4.2.2
  have gd := q4.1
  refine lv_iconst (v := 0) hx hb dX11_broke_16 (by decide) ?_
  refine lv_istore_n (lv' := [(2, .int (0 : Int32)), (0, .ref a0), (1, .int x1)]) hx hb dX11_broke_17 rfl hl (by decide) rfl (fun ls hl => ?_)
  have Lp18 : ∀ (n : Nat) (x2_18 : Int32) (H_18 : Heap) (L_18 : List Loc) (ls : Array Slot), (Sd D G [(7, 0), (7, 1), (7, 2), (7, 3), (7, 4), (25, 0), (25, 1), (25, 2), (25, 3), (25, 4), (25, 5), (11, 0), (9, 1), (9, 2), (23, 3), (23, 4), (23, 5), (23, 6), (23, 7), (23, 8), (23, 9), (23, 10), (23, 11), (23, 12), (23, 13), (14, 0), (15, 0), (8, 5), (4, 10), (4, 11), (4, 12)] s.heap H_18 L_18) → (0 ≤ x2_18.toInt ∧ x2_18.toInt ≤ 2147483647) → (Gd D G H_18) → (∀ Vv Kv : Sg, CI D s.heap a0 Vv Kv → CI D H_18 a0 Vv Kv) → 2147483648 - x2_18.toInt ≤ (n : Int) → lv_has ls 3 [(2, .int x2_18), (0, .ref a0), (1, .int x1)] → W p l e (rmU 6 1 6) s m args below meth c H_18 L_18 1 6 Q (F0 m 18 ls []) := by
    intro n
    induction n with
    | zero =>
      intro x2_18 H_18 L_18 ls S_18 j18_0 u18_0 u18_1 hn hl
      exact absurd hn (by omega)
    | succ n ih18 =>
      intro x2_18 H_18 L_18 ls S_18 j18_0 u18_0 u18_1 hn hl
      refine lv_iload_n hx hb dX11_broke_18 rfl (lv_at hl 0 rfl) ?_
      refine lv_bipush (v := 100) hx hb dX11_broke_19 (by decide) ?_
      have k_100 : (100 : Int32).toInt = 100 := by decide
      refine lv_icmp_gt (tgt := 56) hx hb dX11_broke_21 (by decide) (fun c5 => ?_) (fun c5 => ?_)
      · have b5 : (100 : Int32).toInt < x2_18.toInt := i_lt.mp c5
        refine lv_iconst (v := -1) hx hb dX11_broke_56 (by decide) ?_
        have k_m1 : (-1 : Int32).toInt = -1 := by decide
        exact retX_i hQ C S_18 hr dX11_broke_57 (by decide) (by decide) (⟨trivial, u18_1⟩)
      · have b5 : ¬ (100 : Int32).toInt < x2_18.toInt := fun z9 => c5 (i_lt.mpr z9)
        refine lv_aload_n hx hb dX11_broke_24 rfl (lv_at hl 1 rfl) ?_
        refine q_grD (T := TX11) C S_18.1 ga0 2 kF_X11_23 dX11_broke_25 rfl rfl (by decide) rfl (by decide) rfl (fun g6 => ?_)
        replace g6 : G (fR D H_18 10 a0 2) = 23 := by rw [S_18.2.1.fR ga0 rfl (by decide) (by decide +kernel)]; exact hpre.1
        refine q_gr (T := TX5) C S_18.1 g6 0 kF_X11_128 dX11_broke_28 rfl rfl (by decide) rfl (by decide) rfl (fun g7 => ?_)
        refine lv_iload_n hx hb dX11_broke_31 rfl (lv_at hl 2 rfl) ?_
        refine q_aald C S_18.1 g7 (by omega) (by omega) dX11_broke_32 rfl (by decide) rfl rfl (fun g8 => ?_)
        refine q_gi (T := TX2) C S_18.1 g8 0 kF_X11_132 dX11_broke_33 rfl rfl (by decide) rfl (by decide) rfl ?_
        have k_0 : (0 : Int32).toInt = 0 := by decide
        refine lv_if_ne (tgt := 41) hx hb dX11_broke_36 (by decide) (fun c9 => ?_) (fun c9 => ?_)
        · have b9 : ¬ (fI D H_18 2 (eR H_18 (fR D H_18 5 (fR D H_18 10 a0 2) 0) x1.toInt.toNat) 0).toInt = (0 : Int32).toInt := fun z9 => c9 (i_eq.mpr z9)
          refine lv_aload_n hx hb dX11_broke_41 rfl (lv_at hl 1 rfl) ?_
          refine q_grD (T := TX11) C S_18.1 ga0 2 kF_X11_23 dX11_broke_42 rfl rfl (by decide) rfl (by decide) rfl (fun g10 => ?_)
          replace g10 : G (fR D H_18 10 a0 2) = 23 := by rw [S_18.2.1.fR ga0 rfl (by decide) (by decide +kernel)]; exact hpre.1
          refine lv_iconst (v := 0) hx hb dX11_broke_45 (by decide) ?_
          refine callV_Ei C S_18 (c_X5_passQuarter_d l D G (fR D H_18 10 a0 2) (0 : Int32) g10 (by omega)) kV_X11_241 g10 (u18_0) (by decide +kernel) dX11_broke_46 hl.1 rfl rfl (by decide) cd_X5_passQuarter ⟨Nat.le_of_ble_eq_true rfl, Nat.le_of_ble_eq_true rfl, Nat.le_of_ble_eq_true rfl, Nat.le_of_ble_eq_true rfl, Nat.le_of_ble_eq_true rfl⟩ (fun v11 H11 L11 S11 K11 q11 => ?_)
          have rk11 : ∀ Vv Kv : Sg, CI D s.heap a0 Vv Kv → CI D H11 a0 Vv Kv := fun Vv Kv hv => (u18_1 Vv Kv hv).keep S_18.1 ga0 K11 (by decide +kernel)
          have gd := q11
          refine lv_pop hx hb dX11_broke_49 rfl ?_
          obtain ⟨v12, ev12⟩ : ∃ y : Int32, y = x2_18 + (1) := ⟨_, rfl⟩
          have k_1 : (1 : Int32).toInt = 1 := by decide
          have f13 : v12.toInt = x2_18.toInt + (1) := by rw [ev12]; exact i_addc k_1 (by omega) (by omega)
          refine lv_iinc (v := v12) (lv' := [(2, .int v12), (0, .ref a0), (1, .int x1)]) hx hb dX11_broke_50 hl (k := 0) rfl (by rw [ev12]; rfl) (by decide) rfl (fun ls hl => ?_)
          refine lv_goto (tgt := 18) hx hb dX11_broke_53 (by decide) ?_
          exact ih18 v12 H11 L11 ls S11 (by omega) gd rk11 (by omega) (lv_sub hl [0, 1, 2] rfl)
        · have b9 : (fI D H_18 2 (eR H_18 (fR D H_18 5 (fR D H_18 10 a0 2) 0) x1.toInt.toNat) 0).toInt = (0 : Int32).toInt := i_eq.mp c9
          refine lv_iload_n hx hb dX11_broke_39 rfl (lv_at hl 0 rfl) ?_
          exact retX_i hQ C S_18 hr dX11_broke_40 (by decide) (by decide) (⟨trivial, u18_1⟩)
  have k_0 : (0 : Int32).toInt = 0 := by decide
  exact Lp18 2147483648 (0 : Int32) H4 L4 ls S4 (by omega) gd rk4  (by omega) (lv_sub hl [0, 1, 2] rfl)

set_option maxRecDepth 100000 in
set_option maxHeartbeats 4000000 in
theorem c_X11_first (l : Launch) (D : DD) (G : Nat → Nat) (a0 : Nat) (x1 : Int32) (ga0 : G a0 = 1) : CX l D G yX11_first cX11_first 3 (some .int) 6 1 6 [.ref a0, .int x1] (fun H => Dr D G H (fR D H 10 a0 2)) [(7, 0), (7, 1), (7, 2), (7, 3), (7, 4), (25, 0), (25, 1), (25, 2), (25, 3), (25, 4), (25, 5), (11, 0), (9, 1), (9, 2), (23, 3), (23, 4), (23, 5), (23, 6), (23, 7), (23, 8), (23, 9), (23, 10), (23, 11), (23, 12), (23, 13), (14, 0), (15, 0), (8, 5), (4, 10), (4, 11), (4, 12)] (xI (fun H r H1 => (True) ∧ (∀ Vv Kv : Sg, CI D H a0 Vv Kv → CI D H1 a0 Vv Kv))) (fun H En H1 => (En = "java/lang/IllegalArgumentException") ∧ (∀ Vv Kv : Sg, CI D H a0 Vv Kv → CI D H1 a0 Vv Kv)) := by
  refine enterX (by decide) (Nat.le_of_ble_eq_true rfl) ?_
  intro hl0 p e s m args below meth c ls Q hA hQ ht C hr hO hpre hl
  have hx := C.1
  have hb := C.2.1
  have S : Sd D G [(7, 0), (7, 1), (7, 2), (7, 3), (7, 4), (25, 0), (25, 1), (25, 2), (25, 3), (25, 4), (25, 5), (11, 0), (9, 1), (9, 2), (23, 3), (23, 4), (23, 5), (23, 6), (23, 7), (23, 8), (23, 9), (23, 10), (23, 11), (23, 12), (23, 13), (14, 0), (15, 0), (8, 5), (4, 10), (4, 11), (4, 12)] s.heap s.heap [] := Sd.start hO
  have hl : lv_has ls 3 [(0, .ref a0), (1, .int x1)] := hl
  have rk0 : ∀ Vv Kv : Sg, CI D s.heap a0 Vv Kv → CI D s.heap a0 Vv Kv := fun Vv Kv hv => hv
  refine lv_aload_n hx hb dX11_first_0 rfl (lv_at hl 0 rfl) ?_
  refine lv_iload_n hx hb dX11_first_1 rfl (lv_at hl 1 rfl) ?_
  refine lv_iconst (v := 1) hx hb dX11_first_2 (by decide) ?_
  refine lv_sipush (v := 9999) hx hb dX11_first_3 (by decide) ?_
  have k_1 : (1 : Int32).toInt = 1 := by decide
  have k_9999 : (9999 : Int32).toInt = 9999 := by decide
  refine callV_Xv hl0 C S (c_X11_needNumber l D G a0 x1 (1 : Int32) (9999 : Int32) ga0) kV_X11_228 ga0 (trivial) (by decide +kernel) dX11_first_6 hl.1 rfl rfl (by decide) cd_X11_needNumber ⟨Nat.le_of_ble_eq_true rfl, Nat.le_of_ble_eq_true rfl, Nat.le_of_ble_eq_true rfl, Nat.le_of_ble_eq_true rfl, Nat.le_of_ble_eq_true rfl⟩ (fun H1 L1 S1 K1 q1 => ?_) (fun En H1 L1 q9 ce S1 K1 X1 h7 h8 h9 => outX hQ C ht S1 h7 h8 h9 (by decide) (by decide) ⟨(by rcases X1 with rfl <;> simp), fun Vv Kv hv => (rk0 Vv Kv hv).keep S.1 ga0 K1 (by decide +kernel)⟩)
  have rk1 : ∀ Vv Kv : Sg, CI D s.heap a0 Vv Kv → CI D H1 a0 Vv Kv := fun Vv Kv hv => (rk0 Vv Kv hv).keep S.1 ga0 K1 (by decide +kernel)
  refine lv_aload_n hx hb dX11_first_9 rfl (lv_at hl 0 rfl) ?_
  refine q_grD (T := TX11) C S1.1 ga0 2 kF_X11_23 dX11_first_10 rfl rfl (by decide) rfl (by decide) rfl (fun g2 => ?_)
  replace g2 : G (fR D H1 10 a0 2) = 23 := by rw [S1.2.1.fR ga0 rfl (by decide) (by decide +kernel)]; exact hpre.1
  refine lv_aload_n hx hb dX11_first_13 rfl (lv_at hl 0 rfl) ?_
  refine q_gr (T := TX11) C S1.1 ga0 1 kF_X11_19 dX11_first_14 rfl rfl (by decide) rfl (by decide) rfl (fun g3 => ?_)
  refine callV_Ev C S1 (c_X5_become_d l D G (fR D H1 10 a0 2) (fR D H1 10 a0 1) g2 g3) kV_X11_78 g2 (by rw [S1.2.1.fR ga0 rfl (by decide) (by decide +kernel)]; exact Dr.keep hO hpre S1.2.1 (by decide +kernel) (by decide +kernel)) (by decide +kernel) dX11_first_17 hl.1 rfl rfl (by decide) cd_X5_become ⟨Nat.le_of_ble_eq_true rfl, Nat.le_of_ble_eq_true rfl, Nat.le_of_ble_eq_true rfl, Nat.le_of_ble_eq_true rfl, Nat.le_of_ble_eq_true rfl⟩ (fun H4 L4 S4 K4 q4 => ?_)
  have rk4 : ∀ Vv Kv : Sg, CI D s.heap a0 Vv Kv → CI D H4 a0 Vv Kv := fun Vv Kv hv => (rk1 Vv Kv hv).dr S1.1 ga0 K4 q4.2.2
  have gd := q4.1
  refine lv_iconst (v := 0) hx hb dX11_first_20 (by decide) ?_
  refine lv_istore_n (lv' := [(2, .int (0 : Int32)), (0, .ref a0), (1, .int x1)]) hx hb dX11_first_21 rfl hl (by decide) rfl (fun ls hl => ?_)
  have Lp22 : ∀ (n : Nat) (x2_22 : Int32) (H_22 : Heap) (L_22 : List Loc) (ls : Array Slot), (Sd D G [(7, 0), (7, 1), (7, 2), (7, 3), (7, 4), (25, 0), (25, 1), (25, 2), (25, 3), (25, 4), (25, 5), (11, 0), (9, 1), (9, 2), (23, 3), (23, 4), (23, 5), (23, 6), (23, 7), (23, 8), (23, 9), (23, 10), (23, 11), (23, 12), (23, 13), (14, 0), (15, 0), (8, 5), (4, 10), (4, 11), (4, 12)] s.heap H_22 L_22) → (0 ≤ x2_22.toInt ∧ x2_22.toInt ≤ 2147483647) → (Gd D G H_22) → (∀ Vv Kv : Sg, CI D s.heap a0 Vv Kv → CI D H_22 a0 Vv Kv) → 2147483648 - x2_22.toInt ≤ (n : Int) → lv_has ls 3 [(2, .int x2_22), (0, .ref a0), (1, .int x1)] → W p l e (rmU 6 1 6) s m args below meth c H_22 L_22 1 6 Q (F0 m 22 ls []) := by
    intro n
    induction n with
    | zero =>
      intro x2_22 H_22 L_22 ls S_22 j22_0 u22_0 u22_1 hn hl
      exact absurd hn (by omega)
    | succ n ih22 =>
      intro x2_22 H_22 L_22 ls S_22 j22_0 u22_0 u22_1 hn hl
      refine lv_iload_n hx hb dX11_first_22 rfl (lv_at hl 0 rfl) ?_
      refine lv_bipush (v := 100) hx hb dX11_first_23 (by decide) ?_
      have k_100 : (100 : Int32).toInt = 100 := by decide
      refine lv_icmp_gt (tgt := 56) hx hb dX11_first_25 (by decide) (fun c5 => ?_) (fun c5 => ?_)
      · have b5 : (100 : Int32).toInt < x2_22.toInt := i_lt.mp c5
        refine lv_iconst (v := -1) hx hb dX11_first_56 (by decide) ?_
        have k_m1 : (-1 : Int32).toInt = -1 := by decide
        exact retX_i hQ C S_22 hr dX11_first_57 (by decide) (by decide) (⟨trivial, u22_1⟩)
      · have b5 : ¬ (100 : Int32).toInt < x2_22.toInt := fun z9 => c5 (i_lt.mpr z9)
        refine lv_aload_n hx hb dX11_first_28 rfl (lv_at hl 1 rfl) ?_
        refine q_grD (T := TX11) C S_22.1 ga0 2 kF_X11_23 dX11_first_29 rfl rfl (by decide) rfl (by decide) rfl (fun g6 => ?_)
        replace g6 : G (fR D H_22 10 a0 2) = 23 := by rw [S_22.2.1.fR ga0 rfl (by decide) (by decide +kernel)]; exact hpre.1
        refine q_gi (T := TX5) C S_22.1 g6 11 kF_X11_301 dX11_first_32 rfl rfl (by decide) rfl (by decide) rfl ?_
        refine lv_iload_n hx hb dX11_first_35 rfl (lv_at hl 2 rfl) ?_
        have r8 := i_rng (fI D H_22 5 (fR D H_22 10 a0 2) 11)
        refine lv_icmp_lt (tgt := 41) hx hb dX11_first_36 (by decide) (fun c7 => ?_) (fun c7 => ?_)
        · have b7 : (fI D H_22 5 (fR D H_22 10 a0 2) 11).toInt < x1.toInt := i_lt.mp c7
          refine lv_aload_n hx hb dX11_first_41 rfl (lv_at hl 1 rfl) ?_
          refine q_grD (T := TX11) C S_22.1 ga0 2 kF_X11_23 dX11_first_42 rfl rfl (by decide) rfl (by decide) rfl (fun g9 => ?_)
          replace g9 : G (fR D H_22 10 a0 2) = 23 := by rw [S_22.2.1.fR ga0 rfl (by decide) (by decide +kernel)]; exact hpre.1
          refine lv_iconst (v := 0) hx hb dX11_first_45 (by decide) ?_
          have k_0 : (0 : Int32).toInt = 0 := by decide
          refine callV_Ei C S_22 (c_X5_passQuarter_d l D G (fR D H_22 10 a0 2) (0 : Int32) g9 (by omega)) kV_X11_241 g9 (u22_0) (by decide +kernel) dX11_first_46 hl.1 rfl rfl (by decide) cd_X5_passQuarter ⟨Nat.le_of_ble_eq_true rfl, Nat.le_of_ble_eq_true rfl, Nat.le_of_ble_eq_true rfl, Nat.le_of_ble_eq_true rfl, Nat.le_of_ble_eq_true rfl⟩ (fun v10 H10 L10 S10 K10 q10 => ?_)
          have rk10 : ∀ Vv Kv : Sg, CI D s.heap a0 Vv Kv → CI D H10 a0 Vv Kv := fun Vv Kv hv => (u22_1 Vv Kv hv).keep S_22.1 ga0 K10 (by decide +kernel)
          have gd := q10
          refine lv_pop hx hb dX11_first_49 rfl ?_
          obtain ⟨v11, ev11⟩ : ∃ y : Int32, y = x2_22 + (1) := ⟨_, rfl⟩
          have f12 : v11.toInt = x2_22.toInt + (1) := by rw [ev11]; exact i_addc k_1 (by omega) (by omega)
          refine lv_iinc (v := v11) (lv' := [(2, .int v11), (0, .ref a0), (1, .int x1)]) hx hb dX11_first_50 hl (k := 0) rfl (by rw [ev11]; rfl) (by decide) rfl (fun ls hl => ?_)
          refine lv_goto (tgt := 22) hx hb dX11_first_53 (by decide) ?_
          exact ih22 v11 H10 L10 ls S10 (by omega) gd rk10 (by omega) (lv_sub hl [0, 1, 2] rfl)
        · have b7 : ¬ (fI D H_22 5 (fR D H_22 10 a0 2) 11).toInt < x1.toInt := fun z9 => c7 (i_lt.mpr z9)
          refine lv_iload_n hx hb dX11_first_39 rfl (lv_at hl 0 rfl) ?_
          exact retX_i hQ C S_22 hr dX11_first_40 (by decide) (by decide) (⟨trivial, u22_1⟩)
  have k_0 : (0 : Int32).toInt = 0 := by decide
  exact Lp22 2147483648 (0 : Int32) H4 L4 ls S4 (by omega) gd rk4  (by omega) (lv_sub hl [0, 1, 2] rfl)

set_option maxRecDepth 100000 in
set_option maxHeartbeats 4000000 in
theorem c_X11_ahead (l : Launch) (D : DD) (G : Nat → Nat) (a0 : Nat) (x1 : Int32) (x2 : Int32) (ga0 : G a0 = 1) : CX l D G yX11_ahead cX11_ahead 4 (some .int) 6 2 12 [.ref a0, .int x1, .int x2] (fun H => Dr D G H (fR D H 10 a0 2)) [(7, 0), (7, 1), (7, 2), (7, 3), (7, 4), (25, 0), (25, 1), (25, 2), (25, 3), (25, 4), (25, 5), (11, 0), (9, 1), (9, 2), (23, 3), (23, 4), (23, 5), (23, 6), (23, 7), (23, 8), (23, 9), (23, 10), (23, 11), (23, 12), (23, 13), (14, 0), (15, 0), (8, 5), (4, 10), (4, 11), (4, 12)] (xI (fun H r H1 => (True) ∧ (∀ Vv Kv : Sg, CI D H a0 Vv Kv → CI D H1 a0 Vv Kv))) (fun H En H1 => (En = "java/lang/IndexOutOfBoundsException" ∨ En = "java/lang/IllegalArgumentException") ∧ (∀ Vv Kv : Sg, CI D H a0 Vv Kv → CI D H1 a0 Vv Kv)) := by
  refine enterX (by decide) (Nat.le_of_ble_eq_true rfl) ?_
  intro hl0 p e s m args below meth c ls Q hA hQ ht C hr hO hpre hl
  have hx := C.1
  have hb := C.2.1
  have S : Sd D G [(7, 0), (7, 1), (7, 2), (7, 3), (7, 4), (25, 0), (25, 1), (25, 2), (25, 3), (25, 4), (25, 5), (11, 0), (9, 1), (9, 2), (23, 3), (23, 4), (23, 5), (23, 6), (23, 7), (23, 8), (23, 9), (23, 10), (23, 11), (23, 12), (23, 13), (14, 0), (15, 0), (8, 5), (4, 10), (4, 11), (4, 12)] s.heap s.heap [] := Sd.start hO
  have hl : lv_has ls 4 [(0, .ref a0), (1, .int x1), (2, .int x2)] := hl
  have rk0 : ∀ Vv Kv : Sg, CI D s.heap a0 Vv Kv → CI D s.heap a0 Vv Kv := fun Vv Kv hv => hv
  refine lv_aload_n hx hb dX11_ahead_0 rfl (lv_at hl 0 rfl) ?_
  refine lv_iload_n hx hb dX11_ahead_1 rfl (lv_at hl 1 rfl) ?_
  refine callV_Xv hl0 C S (c_X11_needHouse l D G a0 x1 ga0) kV_X11_125 ga0 (trivial) (by decide +kernel) dX11_ahead_2 hl.1 rfl rfl (by decide) cd_X11_needHouse ⟨Nat.le_of_ble_eq_true rfl, Nat.le_of_ble_eq_true rfl, Nat.le_of_ble_eq_true rfl, Nat.le_of_ble_eq_true rfl, Nat.le_of_ble_eq_true rfl⟩ (fun H1 L1 S1 K1 q1 => ?_) (fun En H1 L1 q9 ce S1 K1 X1 h7 h8 h9 => outX hQ C ht S1 h7 h8 h9 (by decide) (by decide) ⟨(by rcases X1 with rfl <;> simp), fun Vv Kv hv => (rk0 Vv Kv hv).keep S.1 ga0 K1 (by decide +kernel)⟩)
  have rk1 : ∀ Vv Kv : Sg, CI D s.heap a0 Vv Kv → CI D H1 a0 Vv Kv := fun Vv Kv hv => (rk0 Vv Kv hv).keep S.1 ga0 K1 (by decide +kernel)
  refine lv_aload_n hx hb dX11_ahead_5 rfl (lv_at hl 0 rfl) ?_
  refine lv_iload_n hx hb dX11_ahead_6 rfl (lv_at hl 2 rfl) ?_
  refine lv_iconst (v := 0) hx hb dX11_ahead_7 (by decide) ?_
  refine lv_bipush (v := 100) hx hb dX11_ahead_8 (by decide) ?_
  have k_0 : (0 : Int32).toInt = 0 := by decide
  have k_100 : (100 : Int32).toInt = 100 := by decide
  refine callV_Xv hl0 C S1 (c_X11_needNumber l D G a0 x2 (0 : Int32) (100 : Int32) ga0) kV_X11_228 ga0 (trivial) (by decide +kernel) dX11_ahead_10 hl.1 rfl rfl (by decide) cd_X11_needNumber ⟨Nat.le_of_ble_eq_true rfl, Nat.le_of_ble_eq_true rfl, Nat.le_of_ble_eq_true rfl, Nat.le_of_ble_eq_true rfl, Nat.le_of_ble_eq_true rfl⟩ (fun H2 L2 S2 K2 q2 => ?_) (fun En H2 L2 q9 ce S2 K2 X2 h7 h8 h9 => outX hQ C ht S2 h7 h8 h9 (by decide) (by decide) ⟨(by rcases X2 with rfl <;> simp), fun Vv Kv hv => (rk1 Vv Kv hv).keep S1.1 ga0 K2 (by decide +kernel)⟩)
  have rk2 : ∀ Vv Kv : Sg, CI D s.heap a0 Vv Kv → CI D H2 a0 Vv Kv := fun Vv Kv hv => (rk1 Vv Kv hv).keep S1.1 ga0 K2 (by decide +kernel)
  refine lv_aload_n hx hb dX11_ahead_13 rfl (lv_at hl 0 rfl) ?_
  refine q_grD (T := TX11) C S2.1 ga0 2 kF_X11_23 dX11_ahead_14 rfl rfl (by decide) rfl (by decide) rfl (fun g3 => ?_)
  replace g3 : G (fR D H2 10 a0 2) = 23 := by rw [S2.2.1.fR ga0 rfl (by decide) (by decide +kernel)]; exact hpre.1
  refine lv_aload_n hx hb dX11_ahead_17 rfl (lv_at hl 0 rfl) ?_
  refine q_gr (T := TX11) C S2.1 ga0 1 kF_X11_19 dX11_ahead_18 rfl rfl (by decide) rfl (by decide) rfl (fun g4 => ?_)
  refine callV_Ev C S2 (c_X5_become_d l D G (fR D H2 10 a0 2) (fR D H2 10 a0 1) g3 g4) kV_X11_78 g3 (by rw [S2.2.1.fR ga0 rfl (by decide) (by decide +kernel)]; exact Dr.keep hO hpre S2.2.1 (by decide +kernel) (by decide +kernel)) (by decide +kernel) dX11_ahead_21 hl.1 rfl rfl (by decide) cd_X5_become ⟨Nat.le_of_ble_eq_true rfl, Nat.le_of_ble_eq_true rfl, Nat.le_of_ble_eq_true rfl, Nat.le_of_ble_eq_true rfl, Nat.le_of_ble_eq_true rfl⟩ (fun H5 L5 S5 K5 q5 => ?_)
  have rk5 : ∀ Vv Kv : Sg, CI D s.heap a0 Vv Kv → CI D H5 a0 Vv Kv := fun Vv Kv hv => (rk2 Vv Kv hv).dr S2.1 ga0 K5 q5.2.2
  have gd := q5.1
  refine lv_iconst (v := 0) hx hb dX11_ahead_24 (by decide) ?_
  refine lv_istore_n (lv' := [(3, .int (0 : Int32)), (0, .ref a0), (1, .int x1), (2, .int x2)]) hx hb dX11_ahead_25 rfl hl (by decide) rfl (fun ls hl => ?_)
  have Lp26 : ∀ (n : Nat) (x3_26 : Int32) (H_26 : Heap) (L_26 : List Loc) (ls : Array Slot), (Sd D G [(7, 0), (7, 1), (7, 2), (7, 3), (7, 4), (25, 0), (25, 1), (25, 2), (25, 3), (25, 4), (25, 5), (11, 0), (9, 1), (9, 2), (23, 3), (23, 4), (23, 5), (23, 6), (23, 7), (23, 8), (23, 9), (23, 10), (23, 11), (23, 12), (23, 13), (14, 0), (15, 0), (8, 5), (4, 10), (4, 11), (4, 12)] s.heap H_26 L_26) → (0 ≤ x3_26.toInt ∧ x3_26.toInt ≤ 2147483647) → (Gd D G H_26) → (∀ Vv Kv : Sg, CI D s.heap a0 Vv Kv → CI D H_26 a0 Vv Kv) → 2147483648 - x3_26.toInt ≤ (n : Int) → lv_has ls 4 [(3, .int x3_26), (0, .ref a0), (1, .int x1), (2, .int x2)] → W p l e (rmU 6 2 12) s m args below meth c H_26 L_26 2 12 Q (F0 m 26 ls []) := by
    intro n
    induction n with
    | zero =>
      intro x3_26 H_26 L_26 ls S_26 j26_0 u26_0 u26_1 hn hl
      exact absurd hn (by omega)
    | succ n ih26 =>
      intro x3_26 H_26 L_26 ls S_26 j26_0 u26_0 u26_1 hn hl
      refine lv_iload_n hx hb dX11_ahead_26 rfl (lv_at hl 0 rfl) ?_
      refine lv_iload_n hx hb dX11_ahead_27 rfl (lv_at hl 3 rfl) ?_
      have r7 := i_rng x3_26
      refine lv_icmp_ge (tgt := 46) hx hb dX11_ahead_28 (by decide) (fun c6 => ?_) (fun c6 => ?_)
      · have b6 : x2.toInt ≤ x3_26.toInt := i_le.mp c6
        refine lv_aload_n hx hb dX11_ahead_46 rfl (lv_at hl 1 rfl) ?_
        refine q_grD (T := TX11) C S_26.1 ga0 2 kF_X11_23 dX11_ahead_47 rfl rfl (by decide) rfl (by decide) rfl (fun g8 => ?_)
        replace g8 : G (fR D H_26 10 a0 2) = 23 := by rw [S_26.2.1.fR ga0 rfl (by decide) (by decide +kernel)]; exact hpre.1
        refine q_gr (T := TX5) C S_26.1 g8 0 kF_X11_128 dX11_ahead_50 rfl rfl (by decide) rfl (by decide) rfl (fun g9 => ?_)
        refine lv_iload_n hx hb dX11_ahead_53 rfl (lv_at hl 2 rfl) ?_
        refine q_aald C S_26.1 g9 (by omega) (by omega) dX11_ahead_54 rfl (by decide) rfl rfl (fun g10 => ?_)
        refine q_gi (T := TX2) C S_26.1 g10 0 kF_X11_132 dX11_ahead_55 rfl rfl (by decide) rfl (by decide) rfl ?_
        exact retX_i hQ C S_26 hr dX11_ahead_58 (by decide) (by decide) (⟨trivial, u26_1⟩)
      · have b6 : ¬ x2.toInt ≤ x3_26.toInt := fun z9 => c6 (i_le.mpr z9)
        refine lv_aload_n hx hb dX11_ahead_31 rfl (lv_at hl 1 rfl) ?_
        refine q_grD (T := TX11) C S_26.1 ga0 2 kF_X11_23 dX11_ahead_32 rfl rfl (by decide) rfl (by decide) rfl (fun g11 => ?_)
        replace g11 : G (fR D H_26 10 a0 2) = 23 := by rw [S_26.2.1.fR ga0 rfl (by decide) (by decide +kernel)]; exact hpre.1
        refine lv_iconst (v := 0) hx hb dX11_ahead_35 (by decide) ?_
        refine callV_Ei C S_26 (c_X5_passQuarter_d l D G (fR D H_26 10 a0 2) (0 : Int32) g11 (by omega)) kV_X11_241 g11 (u26_0) (by decide +kernel) dX11_ahead_36 hl.1 rfl rfl (by decide) cd_X5_passQuarter ⟨Nat.le_of_ble_eq_true rfl, Nat.le_of_ble_eq_true rfl, Nat.le_of_ble_eq_true rfl, Nat.le_of_ble_eq_true rfl, Nat.le_of_ble_eq_true rfl⟩ (fun v12 H12 L12 S12 K12 q12 => ?_)
        have rk12 : ∀ Vv Kv : Sg, CI D s.heap a0 Vv Kv → CI D H12 a0 Vv Kv := fun Vv Kv hv => (u26_1 Vv Kv hv).keep S_26.1 ga0 K12 (by decide +kernel)
        have gd := q12
        refine lv_pop hx hb dX11_ahead_39 rfl ?_
        obtain ⟨v13, ev13⟩ : ∃ y : Int32, y = x3_26 + (1) := ⟨_, rfl⟩
        have k_1 : (1 : Int32).toInt = 1 := by decide
        have f14 : v13.toInt = x3_26.toInt + (1) := by rw [ev13]; exact i_addc k_1 (by omega) (by omega)
        refine lv_iinc (v := v13) (lv' := [(3, .int v13), (0, .ref a0), (1, .int x1), (2, .int x2)]) hx hb dX11_ahead_40 hl (k := 0) rfl (by rw [ev13]; rfl) (by decide) rfl (fun ls hl => ?_)
        refine lv_goto (tgt := 26) hx hb dX11_ahead_43 (by decide) ?_
        exact ih26 v13 H12 L12 ls S12 (by omega) gd rk12 (by omega) (lv_sub hl [0, 1, 2, 3] rfl)
  exact Lp26 2147483648 (0 : Int32) H5 L5 ls S5 (by omega) gd rk5  (by omega) (lv_sub hl [0, 1, 2, 3] rfl)

set_option maxRecDepth 100000 in
set_option maxHeartbeats 4000000 in
theorem c_X11_tryOut (l : Launch) (D : DD) (G : Nat → Nat) (a0 : Nat) (x1 : Int32) (x2 : Int32) (ga0 : G a0 = 1) : CE l D G yX11_tryOut cX11_tryOut 4 none 6 [.ref a0, .int x1, .int x2] (fun H => Dr D G H (fR D H 10 a0 2)) [(7, 0), (7, 1), (7, 2), (7, 3), (7, 4), (25, 0), (25, 1), (25, 2), (25, 3), (25, 4), (25, 5), (11, 0), (9, 1), (9, 2), (23, 3), (23, 4), (23, 5), (23, 6), (23, 7), (23, 8), (23, 9), (23, 10), (23, 11), (23, 12), (23, 13), (14, 0), (15, 0), (8, 5), (4, 10), (4, 11), (4, 12)] (xV (fun H H1 => (Gd D G H1) ∧ (∀ Vv Kv : Sg, CI D H a0 Vv Kv → CI D H1 a0 Vv Kv))) := by
  refine enter (by decide) (Nat.le_of_ble_eq_true rfl) ?_
  intro p e s m args below meth c ls Q hA hQ C hr hO hpre hl
  have hx := C.1
  have hb := C.2.1
  have S : Sd D G [(7, 0), (7, 1), (7, 2), (7, 3), (7, 4), (25, 0), (25, 1), (25, 2), (25, 3), (25, 4), (25, 5), (11, 0), (9, 1), (9, 2), (23, 3), (23, 4), (23, 5), (23, 6), (23, 7), (23, 8), (23, 9), (23, 10), (23, 11), (23, 12), (23, 13), (14, 0), (15, 0), (8, 5), (4, 10), (4, 11), (4, 12)] s.heap s.heap [] := Sd.start hO
  have hl : lv_has ls 4 [(0, .ref a0), (1, .int x1), (2, .int x2)] := hl
  have rk0 : ∀ Vv Kv : Sg, CI D s.heap a0 Vv Kv → CI D s.heap a0 Vv Kv := fun Vv Kv hv => hv
  refine lv_aload_n hx hb dX11_tryOut_0 rfl (lv_at hl 0 rfl) ?_
  refine q_grD (T := TX11) C S.1 ga0 2 kF_X11_23 dX11_tryOut_1 rfl rfl (by decide) rfl (by decide) rfl (fun g1 => ?_)
  replace g1 : G (fR D s.heap 10 a0 2) = 23 := by rw [S.2.1.fR ga0 rfl (by decide) (by decide +kernel)]; exact hpre.1
  refine lv_aload_n hx hb dX11_tryOut_4 rfl (lv_at hl 0 rfl) ?_
  refine q_gr (T := TX11) C S.1 ga0 1 kF_X11_19 dX11_tryOut_5 rfl rfl (by decide) rfl (by decide) rfl (fun g2 => ?_)
  refine callV_Ev C S (c_X5_become_d l D G (fR D s.heap 10 a0 2) (fR D s.heap 10 a0 1) g1 g2) kV_X11_78 g1 (by rw [S.2.1.fR ga0 rfl (by decide) (by decide +kernel)]; exact Dr.keep hO hpre S.2.1 (by decide +kernel) (by decide +kernel)) (by decide +kernel) dX11_tryOut_8 hl.1 rfl rfl (by decide) cd_X5_become ⟨Nat.le_of_ble_eq_true rfl, Nat.le_of_ble_eq_true rfl, Nat.le_of_ble_eq_true rfl, Nat.le_of_ble_eq_true rfl, Nat.le_of_ble_eq_true rfl⟩ (fun H3 L3 S3 K3 q3 => ?_)
  have rk3 : ∀ Vv Kv : Sg, CI D s.heap a0 Vv Kv → CI D H3 a0 Vv Kv := fun Vv Kv hv => (rk0 Vv Kv hv).dr S.1 ga0 K3 q3.2.2
  have gd := q3.1
  refine lv_aload_n hx hb dX11_tryOut_11 rfl (lv_at hl 0 rfl) ?_
  refine q_grD (T := TX11) C S3.1 ga0 2 kF_X11_23 dX11_tryOut_12 rfl rfl (by decide) rfl (by decide) rfl (fun g4 => ?_)
  replace g4 : G (fR D H3 10 a0 2) = 23 := by rw [S3.2.1.fR ga0 rfl (by decide) (by decide +kernel)]; exact hpre.1
  refine lv_iload_n hx hb dX11_tryOut_15 rfl (lv_at hl 2 rfl) ?_
  refine q_put (T := TX5) C S3 g4 12 kF_X11_310 dX11_tryOut_16 rfl rfl (by decide) (by decide) rfl rfl rfl rfl rfl (vok_a rfl) (by decide +kernel) (fun H5 L5 S5 P5 => ?_)
  have rk5 : ∀ Vv Kv : Sg, CI D s.heap a0 Vv Kv → CI D H5 a0 Vv Kv := fun Vv Kv hv => (rk3 Vv Kv hv).keep S3.1 ga0 (Pt.keep g4 rfl (by decide) P5) (by decide)
  have gd := gd.put g4 P5 (Or.inl (by decide))
  refine lv_iconst (v := 0) hx hb dX11_tryOut_19 (by decide) ?_
  refine lv_istore_n (lv' := [(3, .int (0 : Int32)), (0, .ref a0), (1, .int x1), (2, .int x2)]) hx hb dX11_tryOut_20 rfl hl (by decide) rfl (fun ls hl => ?_)
  have Lp21 : ∀ (n : Nat) (x3_21 : Int32) (H_21 : Heap) (L_21 : List Loc) (ls : Array Slot), (Sd D G [(7, 0), (7, 1), (7, 2), (7, 3), (7, 4), (25, 0), (25, 1), (25, 2), (25, 3), (25, 4), (25, 5), (11, 0), (9, 1), (9, 2), (23, 3), (23, 4), (23, 5), (23, 6), (23, 7), (23, 8), (23, 9), (23, 10), (23, 11), (23, 12), (23, 13), (14, 0), (15, 0), (8, 5), (4, 10), (4, 11), (4, 12)] s.heap H_21 L_21) → (0 ≤ x3_21.toInt ∧ x3_21.toInt ≤ 2147483647) → (Gd D G H_21) → (∀ Vv Kv : Sg, CI D s.heap a0 Vv Kv → CI D H_21 a0 Vv Kv) → 2147483648 - x3_21.toInt ≤ (n : Int) → lv_has ls 4 [(3, .int x3_21), (0, .ref a0), (1, .int x1)] → W p l e (rmU 6 0 0) s m args below meth c H_21 L_21 0 0 Q (F0 m 21 ls []) := by
    intro n
    induction n with
    | zero =>
      intro x3_21 H_21 L_21 ls S_21 j21_0 u21_0 u21_1 hn hl
      exact absurd hn (by omega)
    | succ n ih21 =>
      intro x3_21 H_21 L_21 ls S_21 j21_0 u21_0 u21_1 hn hl
      refine lv_iload_n hx hb dX11_tryOut_21 rfl (lv_at hl 0 rfl) ?_
      refine lv_iload_n hx hb dX11_tryOut_22 rfl (lv_at hl 2 rfl) ?_
      have r7 := i_rng x1
      refine lv_icmp_ge (tgt := 41) hx hb dX11_tryOut_23 (by decide) (fun c6 => ?_) (fun c6 => ?_)
      · have b6 : x1.toInt ≤ x3_21.toInt := i_le.mp c6
        exact retE_v hQ C S_21 hr dX11_tryOut_41 (⟨u21_0, u21_1⟩)
      · have b6 : ¬ x1.toInt ≤ x3_21.toInt := fun z9 => c6 (i_le.mpr z9)
        refine lv_aload_n hx hb dX11_tryOut_26 rfl (lv_at hl 1 rfl) ?_
        refine q_grD (T := TX11) C S_21.1 ga0 2 kF_X11_23 dX11_tryOut_27 rfl rfl (by decide) rfl (by decide) rfl (fun g8 => ?_)
        replace g8 : G (fR D H_21 10 a0 2) = 23 := by rw [S_21.2.1.fR ga0 rfl (by decide) (by decide +kernel)]; exact hpre.1
        refine lv_iconst (v := 1) hx hb dX11_tryOut_30 (by decide) ?_
        have k_1 : (1 : Int32).toInt = 1 := by decide
        refine callV_Ei C S_21 (c_X5_passQuarter_d l D G (fR D H_21 10 a0 2) (1 : Int32) g8 (by omega)) kV_X11_241 g8 (u21_0) (by decide +kernel) dX11_tryOut_31 hl.1 rfl rfl (by decide) cd_X5_passQuarter ⟨Nat.le_of_ble_eq_true rfl, Nat.le_of_ble_eq_true rfl, Nat.le_of_ble_eq_true rfl, Nat.le_of_ble_eq_true rfl, Nat.le_of_ble_eq_true rfl⟩ (fun v9 H9 L9 S9 K9 q9 => ?_)
        have rk9 : ∀ Vv Kv : Sg, CI D s.heap a0 Vv Kv → CI D H9 a0 Vv Kv := fun Vv Kv hv => (u21_1 Vv Kv hv).keep S_21.1 ga0 K9 (by decide +kernel)
        have gd := q9
        refine lv_pop hx hb dX11_tryOut_34 rfl ?_
        obtain ⟨v10, ev10⟩ : ∃ y : Int32, y = x3_21 + (1) := ⟨_, rfl⟩
        have f11 : v10.toInt = x3_21.toInt + (1) := by rw [ev10]; exact i_addc k_1 (by omega) (by omega)
        refine lv_iinc (v := v10) (lv' := [(3, .int v10), (0, .ref a0), (1, .int x1)]) hx hb dX11_tryOut_35 hl (k := 0) rfl (by rw [ev10]; rfl) (by decide) rfl (fun ls hl => ?_)
        refine lv_goto (tgt := 21) hx hb dX11_tryOut_38 (by decide) ?_
        exact ih21 v10 H9 L9 ls S9 (by omega) gd rk9 (by omega) (lv_sub hl [0, 1, 2] rfl)
  have k_0 : (0 : Int32).toInt = 0 := by decide
  exact Lp21 2147483648 (0 : Int32) H5 L5 ls S5 (by omega) gd rk5  (by omega) (lv_sub hl [0, 1, 2] rfl)

set_option maxRecDepth 100000 in
set_option maxHeartbeats 4000000 in
theorem c_X11_trial (l : Launch) (D : DD) (G : Nat → Nat) (a0 : Nat) (x1 : Int32) (x2 : Int32) (ga0 : G a0 = 1) (ix2 : 0 ≤ x2.toInt ∧ x2.toInt ≤ 1) : CX l D G yX11_trial cX11_trial 3 (some .int) 7 1 6 [.ref a0, .int x1, .int x2] (fun H => Dr D G H (fR D H 10 a0 2)) [(7, 0), (7, 1), (7, 2), (7, 3), (7, 4), (25, 0), (25, 1), (25, 2), (25, 3), (25, 4), (25, 5), (11, 0), (9, 1), (9, 2), (23, 3), (23, 4), (23, 5), (23, 6), (23, 7), (23, 8), (23, 9), (23, 10), (23, 11), (23, 12), (23, 13), (14, 0), (15, 0), (8, 5), (4, 10), (4, 11), (4, 12)] (xI (fun H r H1 => (True) ∧ (∀ Vv Kv : Sg, CI D H a0 Vv Kv → CI D H1 a0 Vv Kv))) (fun H En H1 => (En = "java/lang/IllegalArgumentException") ∧ (∀ Vv Kv : Sg, CI D H a0 Vv Kv → CI D H1 a0 Vv Kv)) := by
  refine enterX (by decide) (Nat.le_of_ble_eq_true rfl) ?_
  intro hl0 p e s m args below meth c ls Q hA hQ ht C hr hO hpre hl
  have hx := C.1
  have hb := C.2.1
  have S : Sd D G [(7, 0), (7, 1), (7, 2), (7, 3), (7, 4), (25, 0), (25, 1), (25, 2), (25, 3), (25, 4), (25, 5), (11, 0), (9, 1), (9, 2), (23, 3), (23, 4), (23, 5), (23, 6), (23, 7), (23, 8), (23, 9), (23, 10), (23, 11), (23, 12), (23, 13), (14, 0), (15, 0), (8, 5), (4, 10), (4, 11), (4, 12)] s.heap s.heap [] := Sd.start hO
  have hl : lv_has ls 3 [(0, .ref a0), (1, .int x1), (2, .int x2)] := hl
  have rk0 : ∀ Vv Kv : Sg, CI D s.heap a0 Vv Kv → CI D s.heap a0 Vv Kv := fun Vv Kv hv => hv
  refine lv_aload_n hx hb dX11_trial_0 rfl (lv_at hl 0 rfl) ?_
  refine lv_iload_n hx hb dX11_trial_1 rfl (lv_at hl 1 rfl) ?_
  refine lv_iconst (v := 0) hx hb dX11_trial_2 (by decide) ?_
  refine lv_bipush (v := 100) hx hb dX11_trial_3 (by decide) ?_
  have k_0 : (0 : Int32).toInt = 0 := by decide
  have k_100 : (100 : Int32).toInt = 100 := by decide
  refine callV_Xv hl0 C S (c_X11_needNumber l D G a0 x1 (0 : Int32) (100 : Int32) ga0) kV_X11_228 ga0 (trivial) (by decide +kernel) dX11_trial_5 hl.1 rfl rfl (by decide) cd_X11_needNumber ⟨Nat.le_of_ble_eq_true rfl, Nat.le_of_ble_eq_true rfl, Nat.le_of_ble_eq_true rfl, Nat.le_of_ble_eq_true rfl, Nat.le_of_ble_eq_true rfl⟩ (fun H1 L1 S1 K1 q1 => ?_) (fun En H1 L1 q9 ce S1 K1 X1 h7 h8 h9 => outX hQ C ht S1 h7 h8 h9 (by decide) (by decide) ⟨(by rcases X1 with rfl <;> simp), fun Vv Kv hv => (rk0 Vv Kv hv).keep S.1 ga0 K1 (by decide +kernel)⟩)
  have rk1 : ∀ Vv Kv : Sg, CI D s.heap a0 Vv Kv → CI D H1 a0 Vv Kv := fun Vv Kv hv => (rk0 Vv Kv hv).keep S.1 ga0 K1 (by decide +kernel)
  refine lv_aload_n hx hb dX11_trial_8 rfl (lv_at hl 0 rfl) ?_
  refine lv_iload_n hx hb dX11_trial_9 rfl (lv_at hl 1 rfl) ?_
  refine lv_aload_n hx hb dX11_trial_10 rfl (lv_at hl 0 rfl) ?_
  refine q_gr (T := TX11) C S1.1 ga0 1 kF_X11_19 dX11_trial_11 rfl rfl (by decide) rfl (by decide) rfl (fun g2 => ?_)
  refine q_gi (T := TX5) C S1.1 g2 12 kF_X11_310 dX11_trial_14 rfl rfl (by decide) rfl (by decide) rfl ?_
  refine callV_Ev C S1 (c_X11_tryOut l D G a0 x1 (fI D H1 5 (fR D H1 10 a0 1) 12) ga0) kV_X11_313 ga0 (by rw [S1.2.1.fR ga0 rfl (by decide) (by decide +kernel)]; exact Dr.keep hO hpre S1.2.1 (by decide +kernel) (by decide +kernel)) (by decide +kernel) dX11_trial_17 hl.1 rfl rfl (by decide) cd_X11_tryOut ⟨Nat.le_of_ble_eq_true rfl, Nat.le_of_ble_eq_true rfl, Nat.le_of_ble_eq_true rfl, Nat.le_of_ble_eq_true rfl, Nat.le_of_ble_eq_true rfl⟩ (fun H3 L3 S3 K3 q3 => ?_)
  obtain ⟨q3, rq3⟩ := q3
  have rk3 : ∀ Vv Kv : Sg, CI D s.heap a0 Vv Kv → CI D H3 a0 Vv Kv := fun Vv Kv hv => rq3 Vv Kv (rk1 Vv Kv hv)
  refine lv_iload_n hx hb dX11_trial_20 rfl (lv_at hl 2 rfl) ?_
  refine lv_if_eq (tgt := 35) hx hb dX11_trial_21 (by decide) (fun c4 => ?_) (fun c4 => ?_)
  · have b4 : x2.toInt = (0 : Int32).toInt := i_eq.mp c4
    refine lv_aload_n hx hb dX11_trial_35 rfl (lv_at hl 0 rfl) ?_
    refine q_grD (T := TX11) C S3.1 ga0 2 kF_X11_23 dX11_trial_36 rfl rfl (by decide) rfl (by decide) rfl (fun g5 => ?_)
    replace g5 : G (fR D H3 10 a0 2) = 23 := by rw [S3.2.1.fR ga0 rfl (by decide) (by decide +kernel)]; exact hpre.1
    refine q_gi (T := TX5) C S3.1 g5 11 kF_X11_301 dX11_trial_39 rfl rfl (by decide) rfl (by decide) rfl ?_
    exact retX_i hQ C S3 hr dX11_trial_42 (by decide) (by decide) (⟨trivial, rk3⟩)
  · have b4 : ¬ x2.toInt = (0 : Int32).toInt := fun z9 => c4 (i_eq.mpr z9)
    refine lv_aload_n hx hb dX11_trial_24 rfl (lv_at hl 0 rfl) ?_
    refine q_grD (T := TX11) C S3.1 ga0 2 kF_X11_23 dX11_trial_25 rfl rfl (by decide) rfl (by decide) rfl (fun g6 => ?_)
    replace g6 : G (fR D H3 10 a0 2) = 23 := by rw [S3.2.1.fR ga0 rfl (by decide) (by decide +kernel)]; exact hpre.1
    refine lv_iconst (v := 2) hx hb dX11_trial_28 (by decide) ?_
    have k_2 : (2 : Int32).toInt = 2 := by decide
    refine callV_Pi C S3.1 S3.2.1.2.1 (c_X5_bitsIn_d l D G (fR D H3 10 a0 2) (2 : Int32) g6) kV_X11_304 g6 (trivial) dX11_trial_29 hl.1 rfl rfl (by decide) cd_X5_bitsIn ⟨Nat.le_of_ble_eq_true rfl, Nat.le_of_ble_eq_true rfl, Nat.le_of_ble_eq_true rfl, Nat.le_of_ble_eq_true rfl, Nat.le_of_ble_eq_true rfl⟩ (fun v7 q7 => ?_)
    refine lv_goto (tgt := 42) hx hb dX11_trial_32 (by decide) ?_
    exact retX_i hQ C S3 hr dX11_trial_42 (by decide) (by decide) (⟨trivial, rk3⟩)

set_option maxRecDepth 100000 in
set_option maxHeartbeats 4000000 in
theorem c_X11_span (l : Launch) (D : DD) (G : Nat → Nat) (a0 : Nat) (x1 : Int32) (x2 : Int32) (ga0 : G a0 = 1) (ix2 : 0 ≤ x2.toInt ∧ x2.toInt ≤ 1) : CX l D G yX11_span cX11_span 5 (some .int) 7 1 6 [.ref a0, .int x1, .int x2] (fun H => Dr D G H (fR D H 10 a0 2)) [(7, 0), (7, 1), (7, 2), (7, 3), (7, 4), (25, 0), (25, 1), (25, 2), (25, 3), (25, 4), (25, 5), (11, 0), (9, 1), (9, 2), (23, 3), (23, 4), (23, 5), (23, 6), (23, 7), (23, 8), (23, 9), (23, 10), (23, 11), (23, 12), (23, 13), (14, 0), (15, 0), (8, 5), (4, 10), (4, 11), (4, 12)] (xI (fun H r H1 => (True) ∧ (∀ Vv Kv : Sg, CI D H a0 Vv Kv → CI D H1 a0 Vv Kv))) (fun H En H1 => (En = "java/lang/IllegalArgumentException") ∧ (∀ Vv Kv : Sg, CI D H a0 Vv Kv → CI D H1 a0 Vv Kv)) := by
  refine enterX (by decide) (Nat.le_of_ble_eq_true rfl) ?_
  intro hl0 p e s m args below meth c ls Q hA hQ ht C hr hO hpre hl
  have hx := C.1
  have hb := C.2.1
  have S : Sd D G [(7, 0), (7, 1), (7, 2), (7, 3), (7, 4), (25, 0), (25, 1), (25, 2), (25, 3), (25, 4), (25, 5), (11, 0), (9, 1), (9, 2), (23, 3), (23, 4), (23, 5), (23, 6), (23, 7), (23, 8), (23, 9), (23, 10), (23, 11), (23, 12), (23, 13), (14, 0), (15, 0), (8, 5), (4, 10), (4, 11), (4, 12)] s.heap s.heap [] := Sd.start hO
  have hl : lv_has ls 5 [(0, .ref a0), (1, .int x1), (2, .int x2)] := hl
  have rk0 : ∀ Vv Kv : Sg, CI D s.heap a0 Vv Kv → CI D s.heap a0 Vv Kv := fun Vv Kv hv => hv
  refine lv_aload_n hx hb dX11_span_0 rfl (lv_at hl 0 rfl) ?_
  refine lv_iload_n hx hb dX11_span_1 rfl (lv_at hl 1 rfl) ?_
  refine lv_iconst (v := 0) hx hb dX11_span_2 (by decide) ?_
  refine lv_bipush (v := 100) hx hb dX11_span_3 (by decide) ?_
  have k_0 : (0 : Int32).toInt = 0 := by decide
  have k_100 : (100 : Int32).toInt = 100 := by decide
  refine callV_Xv hl0 C S (c_X11_needNumber l D G a0 x1 (0 : Int32) (100 : Int32) ga0) kV_X11_228 ga0 (trivial) (by decide +kernel) dX11_span_5 hl.1 rfl rfl (by decide) cd_X11_needNumber ⟨Nat.le_of_ble_eq_true rfl, Nat.le_of_ble_eq_true rfl, Nat.le_of_ble_eq_true rfl, Nat.le_of_ble_eq_true rfl, Nat.le_of_ble_eq_true rfl⟩ (fun H1 L1 S1 K1 q1 => ?_) (fun En H1 L1 q9 ce S1 K1 X1 h7 h8 h9 => outX hQ C ht S1 h7 h8 h9 (by decide) (by decide) ⟨(by rcases X1 with rfl <;> simp), fun Vv Kv hv => (rk0 Vv Kv hv).keep S.1 ga0 K1 (by decide +kernel)⟩)
  have rk1 : ∀ Vv Kv : Sg, CI D s.heap a0 Vv Kv → CI D H1 a0 Vv Kv := fun Vv Kv hv => (rk0 Vv Kv hv).keep S.1 ga0 K1 (by decide +kernel)
  refine lv_iconst (v := -1) hx hb dX11_span_8 (by decide) ?_
  refine lv_istore_n (lv' := [(3, .int (-1 : Int32)), (0, .ref a0), (1, .int x1), (2, .int x2)]) hx hb dX11_span_9 rfl hl (by decide) rfl (fun ls hl => ?_)
  refine lv_iconst (v := 1) hx hb dX11_span_10 (by decide) ?_
  refine lv_istore (lv' := [(4, .int (1 : Int32)), (3, .int (-1 : Int32)), (0, .ref a0), (1, .int x1), (2, .int x2)]) hx hb dX11_span_11 hl (by decide) rfl (fun ls hl => ?_)
  have Lp13 : ∀ (n : Nat) (x4_13 : Int32) (x3_13 : Int32) (H_13 : Heap) (L_13 : List Loc) (ls : Array Slot), (Sd D G [(7, 0), (7, 1), (7, 2), (7, 3), (7, 4), (25, 0), (25, 1), (25, 2), (25, 3), (25, 4), (25, 5), (11, 0), (9, 1), (9, 2), (23, 3), (23, 4), (23, 5), (23, 6), (23, 7), (23, 8), (23, 9), (23, 10), (23, 11), (23, 12), (23, 13), (14, 0), (15, 0), (8, 5), (4, 10), (4, 11), (4, 12)] s.heap H_13 L_13) → (1 ≤ x4_13.toInt ∧ x4_13.toInt ≤ 2147483647) → (∀ Vv Kv : Sg, CI D s.heap a0 Vv Kv → CI D H_13 a0 Vv Kv) → 2147483648 - x4_13.toInt ≤ (n : Int) → lv_has ls 5 [(4, .int x4_13), (3, .int x3_13), (0, .ref a0), (1, .int x1), (2, .int x2)] → W p l e (rmU 7 1 6) s m args below meth c H_13 L_13 1 6 Q (F0 m 13 ls []) := by
    intro n
    induction n with
    | zero =>
      intro x4_13 x3_13 H_13 L_13 ls S_13 j13_0 u13_0 hn hl
      exact absurd hn (by omega)
    | succ n ih13 =>
      intro x4_13 x3_13 H_13 L_13 ls S_13 j13_0 u13_0 hn hl
      refine lv_iload hx hb dX11_span_13 (lv_at hl 0 rfl) ?_
      refine lv_bipush (v := 6) hx hb dX11_span_15 (by decide) ?_
      have k_6 : (6 : Int32).toInt = 6 := by decide
      refine lv_icmp_gt (tgt := 75) hx hb dX11_span_17 (by decide) (fun c2 => ?_) (fun c2 => ?_)
      · have b2 : (6 : Int32).toInt < x4_13.toInt := i_lt.mp c2
        refine lv_iload_n hx hb dX11_span_75 rfl (lv_at hl 1 rfl) ?_
        exact retX_i hQ C S_13 hr dX11_span_76 (by decide) (by decide) (⟨trivial, u13_0⟩)
      · have b2 : ¬ (6 : Int32).toInt < x4_13.toInt := fun z9 => c2 (i_lt.mpr z9)
        refine lv_aload_n hx hb dX11_span_20 rfl (lv_at hl 2 rfl) ?_
        refine lv_iload_n hx hb dX11_span_21 rfl (lv_at hl 3 rfl) ?_
        refine lv_iload hx hb dX11_span_22 (lv_at hl 0 rfl) ?_
        refine callV_Ev C S_13 (c_X11_tryOut l D G a0 x1 x4_13 ga0) kV_X11_313 ga0 (by rw [S_13.2.1.fR ga0 rfl (by decide) (by decide +kernel)]; exact Dr.keep hO hpre S_13.2.1 (by decide +kernel) (by decide +kernel)) (by decide +kernel) dX11_span_24 hl.1 rfl rfl (by decide) cd_X11_tryOut ⟨Nat.le_of_ble_eq_true rfl, Nat.le_of_ble_eq_true rfl, Nat.le_of_ble_eq_true rfl, Nat.le_of_ble_eq_true rfl, Nat.le_of_ble_eq_true rfl⟩ (fun H3 L3 S3 K3 q3 => ?_)
        obtain ⟨q3, rq3⟩ := q3
        have rk3 : ∀ Vv Kv : Sg, CI D s.heap a0 Vv Kv → CI D H3 a0 Vv Kv := fun Vv Kv hv => rq3 Vv Kv (u13_0 Vv Kv hv)
        refine lv_iload_n hx hb dX11_span_27 rfl (lv_at hl 1 rfl) ?_
        refine lv_iconst (v := -1) hx hb dX11_span_28 (by decide) ?_
        have k_m1 : (-1 : Int32).toInt = -1 := by decide
        refine lv_icmp_eq (tgt := 61) hx hb dX11_span_29 (by decide) (fun c4 => ?_) (fun c4 => ?_)
        · have b4 : x3_13.toInt = (-1 : Int32).toInt := i_eq.mp c4
          refine lv_aload_n hx hb dX11_span_61 rfl (lv_at hl 2 rfl) ?_
          refine q_grD (T := TX11) C S3.1 ga0 2 kF_X11_23 dX11_span_62 rfl rfl (by decide) rfl (by decide) rfl (fun g5 => ?_)
          replace g5 : G (fR D H3 10 a0 2) = 23 := by rw [S3.2.1.fR ga0 rfl (by decide) (by decide +kernel)]; exact hpre.1
          refine q_gi (T := TX5) C S3.1 g5 11 kF_X11_301 dX11_span_65 rfl rfl (by decide) rfl (by decide) rfl ?_
          refine lv_istore_n (lv' := [(3, .int (fI D H3 5 (fR D H3 10 a0 2) 11)), (4, .int x4_13), (0, .ref a0), (1, .int x1), (2, .int x2)]) hx hb dX11_span_68 rfl hl (by decide) rfl (fun ls hl => ?_)
          obtain ⟨v6, ev6⟩ : ∃ y : Int32, y = x4_13 + (1) := ⟨_, rfl⟩
          have k_1 : (1 : Int32).toInt = 1 := by decide
          have f7 : v6.toInt = x4_13.toInt + (1) := by rw [ev6]; exact i_addc k_1 (by omega) (by omega)
          refine lv_iinc (v := v6) (lv' := [(4, .int v6), (3, .int (fI D H3 5 (fR D H3 10 a0 2) 11)), (0, .ref a0), (1, .int x1), (2, .int x2)]) hx hb dX11_span_69 hl (k := 1) rfl (by rw [ev6]; rfl) (by decide) rfl (fun ls hl => ?_)
          refine lv_goto (tgt := 13) hx hb dX11_span_72 (by decide) ?_
          exact ih13 v6 (fI D H3 5 (fR D H3 10 a0 2) 11) H3 L3 ls S3 (by omega) rk3 (by omega) (lv_sub hl [0, 1, 2, 3, 4] rfl)
        · have b4 : ¬ x3_13.toInt = (-1 : Int32).toInt := fun z9 => c4 (i_eq.mpr z9)
          refine lv_iload_n hx hb dX11_span_32 rfl (lv_at hl 4 rfl) ?_
          refine lv_if_eq (tgt := 50) hx hb dX11_span_33 (by decide) (fun c8 => ?_) (fun c8 => ?_)
          · have b8 : x2.toInt = (0 : Int32).toInt := i_eq.mp c8
            refine lv_aload_n hx hb dX11_span_50 rfl (lv_at hl 2 rfl) ?_
            refine q_grD (T := TX11) C S3.1 ga0 2 kF_X11_23 dX11_span_51 rfl rfl (by decide) rfl (by decide) rfl (fun g9 => ?_)
            replace g9 : G (fR D H3 10 a0 2) = 23 := by rw [S3.2.1.fR ga0 rfl (by decide) (by decide +kernel)]; exact hpre.1
            refine q_gi (T := TX5) C S3.1 g9 11 kF_X11_301 dX11_span_54 rfl rfl (by decide) rfl (by decide) rfl ?_
            refine lv_iload_n hx hb dX11_span_57 rfl (lv_at hl 1 rfl) ?_
            refine lv_icmp_ge (tgt := 69) hx hb dX11_span_58 (by decide) (fun c10 => ?_) (fun c10 => ?_)
            · have b10 : x3_13.toInt ≤ (fI D H3 5 (fR D H3 10 a0 2) 11).toInt := i_le.mp c10
              obtain ⟨v11, ev11⟩ : ∃ y : Int32, y = x4_13 + (1) := ⟨_, rfl⟩
              have k_1 : (1 : Int32).toInt = 1 := by decide
              have f12 : v11.toInt = x4_13.toInt + (1) := by rw [ev11]; exact i_addc k_1 (by omega) (by omega)
              refine lv_iinc (v := v11) (lv' := [(4, .int v11), (3, .int x3_13), (0, .ref a0), (1, .int x1), (2, .int x2)]) hx hb dX11_span_69 hl (k := 0) rfl (by rw [ev11]; rfl) (by decide) rfl (fun ls hl => ?_)
              refine lv_goto (tgt := 13) hx hb dX11_span_72 (by decide) ?_
              exact ih13 v11 x3_13 H3 L3 ls S3 (by omega) rk3 (by omega) (lv_sub hl [0, 1, 2, 3, 4] rfl)
            · have b10 : ¬ x3_13.toInt ≤ (fI D H3 5 (fR D H3 10 a0 2) 11).toInt := fun z9 => c10 (i_le.mpr z9)
              refine lv_aload_n hx hb dX11_span_61 rfl (lv_at hl 2 rfl) ?_
              refine q_grD (T := TX11) C S3.1 ga0 2 kF_X11_23 dX11_span_62 rfl rfl (by decide) rfl (by decide) rfl (fun g13 => ?_)
              replace g13 : G (fR D H3 10 a0 2) = 23 := by rw [S3.2.1.fR ga0 rfl (by decide) (by decide +kernel)]; exact hpre.1
              refine q_gi (T := TX5) C S3.1 g13 11 kF_X11_301 dX11_span_65 rfl rfl (by decide) rfl (by decide) rfl ?_
              refine lv_istore_n (lv' := [(3, .int (fI D H3 5 (fR D H3 10 a0 2) 11)), (4, .int x4_13), (0, .ref a0), (1, .int x1), (2, .int x2)]) hx hb dX11_span_68 rfl hl (by decide) rfl (fun ls hl => ?_)
              obtain ⟨v14, ev14⟩ : ∃ y : Int32, y = x4_13 + (1) := ⟨_, rfl⟩
              have k_1 : (1 : Int32).toInt = 1 := by decide
              have f15 : v14.toInt = x4_13.toInt + (1) := by rw [ev14]; exact i_addc k_1 (by omega) (by omega)
              refine lv_iinc (v := v14) (lv' := [(4, .int v14), (3, .int (fI D H3 5 (fR D H3 10 a0 2) 11)), (0, .ref a0), (1, .int x1), (2, .int x2)]) hx hb dX11_span_69 hl (k := 1) rfl (by rw [ev14]; rfl) (by decide) rfl (fun ls hl => ?_)
              refine lv_goto (tgt := 13) hx hb dX11_span_72 (by decide) ?_
              exact ih13 v14 (fI D H3 5 (fR D H3 10 a0 2) 11) H3 L3 ls S3 (by omega) rk3 (by omega) (lv_sub hl [0, 1, 2, 3, 4] rfl)
          · have b8 : ¬ x2.toInt = (0 : Int32).toInt := fun z9 => c8 (i_eq.mpr z9)
            refine lv_aload_n hx hb dX11_span_36 rfl (lv_at hl 2 rfl) ?_
            refine q_grD (T := TX11) C S3.1 ga0 2 kF_X11_23 dX11_span_37 rfl rfl (by decide) rfl (by decide) rfl (fun g16 => ?_)
            replace g16 : G (fR D H3 10 a0 2) = 23 := by rw [S3.2.1.fR ga0 rfl (by decide) (by decide +kernel)]; exact hpre.1
            refine q_gi (T := TX5) C S3.1 g16 11 kF_X11_301 dX11_span_40 rfl rfl (by decide) rfl (by decide) rfl ?_
            refine lv_iload_n hx hb dX11_span_43 rfl (lv_at hl 1 rfl) ?_
            refine lv_icmp_le (tgt := 69) hx hb dX11_span_44 (by decide) (fun c17 => ?_) (fun c17 => ?_)
            · have b17 : (fI D H3 5 (fR D H3 10 a0 2) 11).toInt ≤ x3_13.toInt := i_le.mp c17
              obtain ⟨v18, ev18⟩ : ∃ y : Int32, y = x4_13 + (1) := ⟨_, rfl⟩
              have k_1 : (1 : Int32).toInt = 1 := by decide
              have f19 : v18.toInt = x4_13.toInt + (1) := by rw [ev18]; exact i_addc k_1 (by omega) (by omega)
              refine lv_iinc (v := v18) (lv' := [(4, .int v18), (3, .int x3_13), (0, .ref a0), (1, .int x1), (2, .int x2)]) hx hb dX11_span_69 hl (k := 0) rfl (by rw [ev18]; rfl) (by decide) rfl (fun ls hl => ?_)
              refine lv_goto (tgt := 13) hx hb dX11_span_72 (by decide) ?_
              exact ih13 v18 x3_13 H3 L3 ls S3 (by omega) rk3 (by omega) (lv_sub hl [0, 1, 2, 3, 4] rfl)
            · have b17 : ¬ (fI D H3 5 (fR D H3 10 a0 2) 11).toInt ≤ x3_13.toInt := fun z9 => c17 (i_le.mpr z9)
              refine lv_goto (tgt := 61) hx hb dX11_span_47 (by decide) ?_
              refine lv_aload_n hx hb dX11_span_61 rfl (lv_at hl 2 rfl) ?_
              refine q_grD (T := TX11) C S3.1 ga0 2 kF_X11_23 dX11_span_62 rfl rfl (by decide) rfl (by decide) rfl (fun g20 => ?_)
              replace g20 : G (fR D H3 10 a0 2) = 23 := by rw [S3.2.1.fR ga0 rfl (by decide) (by decide +kernel)]; exact hpre.1
              refine q_gi (T := TX5) C S3.1 g20 11 kF_X11_301 dX11_span_65 rfl rfl (by decide) rfl (by decide) rfl ?_
              refine lv_istore_n (lv' := [(3, .int (fI D H3 5 (fR D H3 10 a0 2) 11)), (4, .int x4_13), (0, .ref a0), (1, .int x1), (2, .int x2)]) hx hb dX11_span_68 rfl hl (by decide) rfl (fun ls hl => ?_)
              obtain ⟨v21, ev21⟩ : ∃ y : Int32, y = x4_13 + (1) := ⟨_, rfl⟩
              have k_1 : (1 : Int32).toInt = 1 := by decide
              have f22 : v21.toInt = x4_13.toInt + (1) := by rw [ev21]; exact i_addc k_1 (by omega) (by omega)
              refine lv_iinc (v := v21) (lv' := [(4, .int v21), (3, .int (fI D H3 5 (fR D H3 10 a0 2) 11)), (0, .ref a0), (1, .int x1), (2, .int x2)]) hx hb dX11_span_69 hl (k := 1) rfl (by rw [ev21]; rfl) (by decide) rfl (fun ls hl => ?_)
              refine lv_goto (tgt := 13) hx hb dX11_span_72 (by decide) ?_
              exact ih13 v21 (fI D H3 5 (fR D H3 10 a0 2) 11) H3 L3 ls S3 (by omega) rk3 (by omega) (lv_sub hl [0, 1, 2, 3, 4] rfl)
  have k_1 : (1 : Int32).toInt = 1 := by decide
  have k_m1 : (-1 : Int32).toInt = -1 := by decide
  exact Lp13 2147483647 (1 : Int32) (-1 : Int32) H1 L1 ls S1 (by omega) rk1  (by omega) (lv_sub hl [0, 1, 2, 3, 4] rfl)
