
def linN (T : Tx) (n : Int) (b : Nat) : Rz := if n < 12 then linF T b else (false, b)
theorem lnsN_no {T : Tx} {z : Bool × Nat × Nat} {k b e : Nat} (h : z = lnsR T (linF T) (12 - k) b k) (hk : k ≤ 12) (hy : linN T k b = (false, e)) : z.1 = false ∧ z.2.1 = e := by
  unfold linN at hy
  by_cases h12 : k = 12
  · subst h12
    rw [if_neg (by omega)] at hy
    have e9 := (Prod.mk.inj hy).2
    rw [h]
    exact ⟨rfl, e9⟩
  · rw [if_pos (by omega)] at hy
    by_cases hk1 : kd T b = 1
    · rw [h, lns_no (m := 12 - (k + 1)) (by omega) hk1 hy]
      exact ⟨rfl, rfl⟩
    · rw [lin_k hk1] at hy
      have e9 := (Prod.mk.inj hy).2
      rw [h, lns_k (m := 12 - (k + 1)) (by omega) hk1]
      exact ⟨rfl, e9⟩
theorem linN_t {T : Tx} {k b c : Nat} (hy : linN T k b = (true, c)) : k < 12 ∧ kd T b = 1 ∧ linF T b = (true, c) := by
  unfold linN at hy
  by_cases h12 : (k : Int) < 12
  · rw [if_pos h12] at hy
    refine ⟨by omega, Classical.byContradiction (fun z => ?_), hy⟩
    rw [lin_k z] at hy
    exact absurd (Prod.mk.inj hy).1 Bool.false_ne_true
  · rw [if_neg h12] at hy
    exact absurd (Prod.mk.inj hy).1 Bool.false_ne_true
def tM (D : DD) (H : Heap) (a : Nat) : Tx := (fun i => nrm (eI H (fR D H 11 a 8) i).toInt, (fI D H 11 a 9).toInt.toNat)
theorem tM_le {D : DD} {G : Nat → Nat} {H : Heap} {a : Nat} (hO : Ok D G H) (ga : G a = 30) : (tM D H a).2 ≤ 400 := by
  have h : 0 ≤ (fI D H 11 a 9).toInt ∧ (fI D H 11 a 9).toInt ≤ 400 := hO.rng ga rfl (by decide) rfl
  show (fI D H 11 a 9).toInt.toNat ≤ 400
  omega
theorem mT_uses {D : DD} {G : Nat → Nat} {E : List (Nat × Nat)} {H H1 : Heap} {a : Nat} (hO : Ok D G H) (ga : G a = 30) (K : Keep D G E H H1) (h8 : (30, 8) ∉ E) (h36 : (36, 0) ∉ E) (he : fI D H1 11 a 11 = fI D H 11 a 9) : mT D H1 a = tM D H a := by
  have e0 : fR D H1 11 a 8 = fR D H 11 a 8 := K.fR ga rfl (by decide) h8
  have gb : G (fR D H 11 a 8) = 36 := hO.rol ga rfl (by decide) rfl
  unfold mT tM
  rw [e0, he]
  refine Prod.ext (funext fun i => ?_) rfl
  show nrm (eI H1 (fR D H 11 a 8) i).toInt = _
  rw [show eI H1 (fR D H 11 a 8) i = eI H (fR D H 11 a 8) i from congrArg vI (eV_of (K.c gb rfl h36) i)]

set_option maxRecDepth 100000 in
set_option maxHeartbeats 4000000 in
theorem c_X12_readLawLine (l : Launch) (D : DD) (G : Nat → Nat) (a0 : Nat) (x1 : Int32) (T : Tx) (b : Nat) (ga0 : G a0 = 30) (ix1 : 0 ≤ x1.toInt ∧ x1.toInt ≤ 11) : CE l D G yX12_readLawLine cX12_readLawLine 3 (some .boolean) 28 [.ref a0, .int x1] (fun H => ((fI D H 11 a0 16).toInt ≤ (fI D H 11 a0 12).toInt ∧ (fI D H 11 a0 12).toInt ≤ (fI D H 11 a0 10).toInt) ∧ (LB D H a0 T b)) [(30, 10), (30, 12), (30, 16), (31, 0), (30, 13)] (xI (fun H r H1 => ((0 ≤ r.toInt ∧ r.toInt ≤ 1) ∧ (r.toInt = 1 → (fI D H1 11 a0 16).toInt ≤ (fI D H1 11 a0 10).toInt) ∧ (r.toInt = 1 → Dl D H a0 x1.toInt.toNat → Dl D H1 a0 (x1.toInt.toNat + 1))) ∧ (RR D H1 a0 T (linF T b) r))) := by
  refine enter (by decide) (Nat.le_of_ble_eq_true rfl) ?_
  intro p e s m args below meth c ls Q hA hQ C hr hO hpre hl
  have hx := C.1
  have hb := C.2.1
  have S : Sd D G [(30, 10), (30, 12), (30, 16), (31, 0), (30, 13)] s.heap s.heap [] := Sd.start hO
  have hl : lv_has ls 3 [(0, .ref a0), (1, .int x1)] := hl
  have rs0 : 0 ≤ (fI D s.heap 11 a0 16).toInt ∧ (fI D s.heap 11 a0 16).toInt ≤ 400 := hO.rng ga0 rfl (by decide) rfl
  have rp0 : 0 ≤ (fI D s.heap 11 a0 10).toInt ∧ (fI D s.heap 11 a0 10).toInt ≤ 400 := hO.rng ga0 rfl (by decide) rfl
  obtain ⟨hpre, hf⟩ := hpre
  have ts0 := hf
  have hT : T.2 ≤ 400 := ts0.le hO ga0
  have tk0 : Lr D s.heap s.heap a0 x1.toInt.toNat := Lr.refl
  refine lv_sipush (v := 1204) hx hb dX12_readLawLine_0 (by decide) ?_
  refine lv_iconst (v := 4) hx hb dX12_readLawLine_3 (by decide) ?_
  refine lv_iload_n hx hb dX12_readLawLine_4 rfl (lv_at hl 1 rfl) ?_
  have k_4 : (4 : Int32).toInt = 4 := by decide
  refine lv_imul hx hb dX12_readLawLine_5 ?_
  refine lv_topi (fun v1 ev1 => ?_)
  have f2 : v1.toInt = (4) * x1.toInt := by rw [ev1]; exact i_cmul k_4 (by omega) (by omega)
  have k_1204 : (1204 : Int32).toInt = 1204 := by decide
  refine lv_iadd hx hb dX12_readLawLine_6 ?_
  refine lv_topi (fun v3 ev3 => ?_)
  have f4 : v3.toInt = (1204 : Int32).toInt + v1.toInt := by rw [ev3]; exact i_add (by omega) (by omega)
  refine lv_istore_n (lv' := [(2, .int v3), (0, .ref a0), (1, .int x1)]) hx hb dX12_readLawLine_7 rfl hl (by decide) rfl (fun ls hl => ?_)
  refine lv_aload_n hx hb dX12_readLawLine_8 rfl (lv_at hl 1 rfl) ?_
  refine q_gr (T := TX12) C S.1 ga0 1 kF_X12_13 dX12_readLawLine_9 rfl rfl (by decide) rfl (by decide) rfl (fun g5 => ?_)
  refine lv_iload_n hx hb dX12_readLawLine_12 rfl (lv_at hl 0 rfl) ?_
  refine lv_aload_n hx hb dX12_readLawLine_13 rfl (lv_at hl 1 rfl) ?_
  refine q_lds C ks_X12_221 dX12_readLawLine_14 (fun a6 ha6 wa6 => ?_)
  refine callV_Pi C S.1 S.2.1.2.1 (c_X12_isWord_f l D G a0 a6 3 w_tax T b ga0 ha6 (Wc.of wa6 kw_tax) (by decide)) kV_X12_105 ga0 (⟨trivial, ts0⟩) dX12_readLawLine_16 hl.1 rfl rfl (by decide) cd_X12_isWord ⟨Nat.le_of_ble_eq_true rfl, Nat.le_of_ble_eq_true rfl, Nat.le_of_ble_eq_true rfl, Nat.le_of_ble_eq_true rfl, Nat.le_of_ble_eq_true rfl⟩ (fun v7 q7 => ?_)
  obtain ⟨q7, fq7⟩ := q7
  rcases fq7 with ⟨z7, y7⟩ | ⟨z7, y7⟩
  · skip
    have J9 : ∀ z10 : Int32, (-1 ≤ z10.toInt ∧ z10.toInt ≤ 2) → ((0 ≤ z10.toInt → (fI D s.heap 11 a0 10).toInt - (fI D s.heap 11 a0 12).toInt ≥ 3) ∧ z10.toInt = srt T b) → W p l e (rmU 28 0 0) s m args below meth c s.heap [] 0 0 Q (F0 m 53 ls [.int z10, .int v3, .ref (fR D s.heap 11 a0 1)]) := by
      intro z10 jz10 jjz10
      have n11 : aN s.heap (fR D s.heap 11 a0 1) = 2052 := len_31 S.1 g5
      refine q_iast C S g5 (by omega) (by omega) dX12_readLawLine_53 rfl (by decide) (by decide +kernel) (fun _ _ h => wk_high _ _ (by omega) h) (fun H12 L12 S12 P12 => ?_) (hs := fun _ => Or.inr (vy_no (by omega) (by omega) (by omega) (by omega) (fun h9 hh9 => by omega) (fun j9 hj9 => by omega)))
      have y12_10 : (fI D H12 11 a0 10).toInt = (fI D s.heap 11 a0 10).toInt := congrArg Int32.toInt (Pa.f P12 (ne_role ga0 g5 (by decide)))
      have y12_12 : (fI D H12 11 a0 12).toInt = (fI D s.heap 11 a0 12).toInt := congrArg Int32.toInt (Pa.f P12 (ne_role ga0 g5 (by decide)))
      have y12_13 : (fI D H12 11 a0 13).toInt = (fI D s.heap 11 a0 13).toInt := congrArg Int32.toInt (Pa.f P12 (ne_role ga0 g5 (by decide)))
      have y12_16 : (fI D H12 11 a0 16).toInt = (fI D s.heap 11 a0 16).toInt := congrArg Int32.toInt (Pa.f P12 (ne_role ga0 g5 (by decide)))
      have rs12 : 0 ≤ (fI D s.heap 11 a0 16).toInt ∧ (fI D s.heap 11 a0 16).toInt ≤ 400 := S.1.rng ga0 rfl (by decide) rfl
      have tk12 : Lr D s.heap H12 a0 x1.toInt.toNat := tk0.trans (Lr.ast S.1 ga0 P12 rfl ⟨by omega, by omega⟩ (by omega))
      have lb12 := ts0.cells S.1 ga0 g5 (by decide) (by decide) P12.2.2.1
      have ew : eI H12 (fR D H12 11 a0 1) v3.toInt.toNat = _ := eS S.1 ga0 P12 rfl rfl (by omega)
      refine lv_aload_n hx hb dX12_readLawLine_54 rfl (lv_at hl 1 rfl) ?_
      refine q_gr (T := TX12) C S12.1 ga0 1 kF_X12_13 dX12_readLawLine_55 rfl rfl (by decide) rfl (by decide) rfl (fun g13 => ?_)
      refine lv_iload_n hx hb dX12_readLawLine_58 rfl (lv_at hl 0 rfl) ?_
      have n14 : aN H12 (fR D H12 11 a0 1) = 2052 := len_31 S12.1 g13
      refine q_iald C S12.1 g13 (by omega) (by omega) dX12_readLawLine_59 rfl (by decide) ?_
      refine lv_topi (fun v15 ev15 => ?_)
      have ev59 := ev15
      have ez : v15.toInt = _ := congrArg Int32.toInt (ev59.trans ew)
      have kzm1 : ((-1) : Int32).toInt = -1 := by decide
      have kz0 : ((0) : Int32).toInt = 0 := by decide
      have kz1 : ((1) : Int32).toInt = 1 := by decide
      have kz2 : ((2) : Int32).toInt = 2 := by decide
      have k_0 : (0 : Int32).toInt = 0 := by decide
      refine lv_if_ge (tgt := 65) hx hb dX12_readLawLine_60 (by decide) (fun c16 => ?_) (fun c16 => ?_)
      · have b16 : (0 : Int32).toInt ≤ v15.toInt := i_le.mp c16
        have ys65 : ¬ srt T b = -1 := by omega
        have rb65 := lb12.rb1 (srt_k ys65)
        refine lv_aload_n hx hb dX12_readLawLine_65 rfl (lv_at hl 1 rfl) ?_
        refine q_gr (T := TX12) C S12.1 ga0 1 kF_X12_13 dX12_readLawLine_66 rfl rfl (by decide) rfl (by decide) rfl (fun g17 => ?_)
        refine lv_iload_n hx hb dX12_readLawLine_69 rfl (lv_at hl 0 rfl) ?_
        refine lv_iconst (v := 1) hx hb dX12_readLawLine_70 (by decide) ?_
        have k_1 : (1 : Int32).toInt = 1 := by decide
        refine lv_iadd hx hb dX12_readLawLine_71 ?_
        refine lv_topi (fun v18 ev18 => ?_)
        have f19 : v18.toInt = v3.toInt + (1 : Int32).toInt := by rw [ev18]; exact i_add (by omega) (by omega)
        refine lv_aload_n hx hb dX12_readLawLine_72 rfl (lv_at hl 1 rfl) ?_
        refine q_gr (T := TX12) C S12.1 ga0 1 kF_X12_13 dX12_readLawLine_73 rfl rfl (by decide) rfl (by decide) rfl (fun g20 => ?_)
        refine lv_iload_n hx hb dX12_readLawLine_76 rfl (lv_at hl 0 rfl) ?_
        refine q_iald C S12.1 g20 (by omega) (by omega) dX12_readLawLine_77 rfl (by decide) ?_
        refine lv_topi (fun v21 ev21 => ?_)
        have ev77 := ev21
        have ez7 : v21.toInt = _ := congrArg Int32.toInt (ev77.trans ew)
        refine lv_iconst (v := 1) hx hb dX12_readLawLine_78 (by decide) ?_
        refine lv_icmp_ne (tgt := 86) hx hb dX12_readLawLine_79 (by decide) (fun c22 => ?_) (fun c22 => ?_)
        · have b22 : ¬ v21.toInt = (1 : Int32).toInt := fun z9 => c22 (i_eq.mpr z9)
          have yf23 : ¬ srt T b = 1 := by omega
          refine lv_aload_n hx hb dX12_readLawLine_86 rfl (lv_at hl 1 rfl) ?_
          refine lv_iconst (v := 0) hx hb dX12_readLawLine_87 (by decide) ?_
          refine lv_bipush (v := 99) hx hb dX12_readLawLine_88 (by decide) ?_
          have k_99 : (99 : Int32).toInt = 99 := by decide
          refine callV_Ei C S12 (c_X12_number_f l D G a0 (0 : Int32) (99 : Int32) 0 99 T (nx T b) ga0 (by omega) (by omega) (by omega) (by omega)) kV_X12_109 ga0 (⟨trivial, rb65⟩) (by decide +kernel) dX12_readLawLine_90 hl.1 rfl rfl (by decide) cd_X12_number ⟨Nat.le_of_ble_eq_true rfl, Nat.le_of_ble_eq_true rfl, Nat.le_of_ble_eq_true rfl, Nat.le_of_ble_eq_true rfl, Nat.le_of_ble_eq_true rfl⟩ (fun v24 H24 L24 S24 K24 q24 => ?_)
          obtain ⟨q24, fq24⟩ := q24
          have y24_13 : (fI D H24 11 a0 13).toInt = (fI D H12 11 a0 13).toInt := congrArg Int32.toInt (K24.fI ga0 rfl (by decide) (by decide +kernel))
          have y24_16 : (fI D H24 11 a0 16).toInt = (fI D H12 11 a0 16).toInt := congrArg Int32.toInt (K24.fI ga0 rfl (by decide) (by decide +kernel))
          have lq24 : Lq D H12 H24 a0 := Lq.keep S12.1 ga0 K24 (by decide +kernel) (by decide +kernel) (by decide +kernel)
          have tk24 : Lr D s.heap H24 a0 x1.toInt.toNat := tk12.trans (Lr.of lq24)
          rcases fq24 with ⟨z24, y24, ts24, bg24⟩ | ⟨z24, y24, wr24⟩
          · skip
            have n25 : aN H24 (fR D H12 11 a0 1) = 2052 := len_31 S24.1 g17
            refine q_iast C S24 g17 (by omega) (by omega) dX12_readLawLine_93 rfl (by decide) (by decide +kernel) (fun _ _ h => wk_high _ _ (by omega) h) (fun H26 L26 S26 P26 => ?_) (hs := fun _ => Or.inr (vy_no (by omega) (by omega) (by omega) (by omega) (fun h9 hh9 => by omega) (fun j9 hj9 => by omega)))
            have y26_10 : (fI D H26 11 a0 10).toInt = (fI D H24 11 a0 10).toInt := congrArg Int32.toInt (Pa.f P26 (ne_role ga0 g17 (by decide)))
            have y26_12 : (fI D H26 11 a0 12).toInt = (fI D H24 11 a0 12).toInt := congrArg Int32.toInt (Pa.f P26 (ne_role ga0 g17 (by decide)))
            have y26_13 : (fI D H26 11 a0 13).toInt = (fI D H24 11 a0 13).toInt := congrArg Int32.toInt (Pa.f P26 (ne_role ga0 g17 (by decide)))
            have y26_16 : (fI D H26 11 a0 16).toInt = (fI D H24 11 a0 16).toInt := congrArg Int32.toInt (Pa.f P26 (ne_role ga0 g17 (by decide)))
            have rs26 : 0 ≤ (fI D H24 11 a0 16).toInt ∧ (fI D H24 11 a0 16).toInt ≤ 400 := S24.1.rng ga0 rfl (by decide) rfl
            have tk26 : Lr D s.heap H26 a0 x1.toInt.toNat := tk24.trans (Lr.ast S24.1 ga0 P26 ((S12.2.1.fR ga0 rfl (by decide) (by decide +kernel)).trans (S24.2.1.fR ga0 rfl (by decide) (by decide +kernel)).symm) ⟨by omega, by omega⟩ (by omega))
            have rb26 := ts24.cells S24.1 ga0 g17 (by decide) (by decide) P26.2.2.1
            have ew2 := eS S24.1 ga0 P26 ((S12.2.1.fR ga0 rfl (by decide) (by decide +kernel)).trans (S24.2.1.fR ga0 rfl (by decide) (by decide +kernel)).symm) rfl (by omega)
            refine lv_aload_n hx hb dX12_readLawLine_94 rfl (lv_at hl 1 rfl) ?_
            refine q_gr (T := TX12) C S26.1 ga0 1 kF_X12_13 dX12_readLawLine_95 rfl rfl (by decide) rfl (by decide) rfl (fun g27 => ?_)
            refine lv_iload_n hx hb dX12_readLawLine_98 rfl (lv_at hl 0 rfl) ?_
            refine lv_iconst (v := 1) hx hb dX12_readLawLine_99 (by decide) ?_
            refine lv_iadd hx hb dX12_readLawLine_100 ?_
            refine lv_topi (fun v28 ev28 => ?_)
            have f29 : v28.toInt = v3.toInt + (1 : Int32).toInt := by rw [ev28]; exact i_add (by omega) (by omega)
            have n30 : aN H26 (fR D H26 11 a0 1) = 2052 := len_31 S26.1 g27
            refine q_iald C S26.1 g27 (by omega) (by omega) dX12_readLawLine_101 rfl (by decide) ?_
            refine lv_topi (fun v31 ev31 => ?_)
            have ev101 := ev31
            have ez2 : v31.toInt = v24.toInt := congrArg Int32.toInt (ev101.trans ((congrArg (fun i9 => eI H26 (fR D H26 11 a0 1) i9) (show v28.toInt.toNat = v18.toInt.toNat by omega)).trans ew2))
            refine lv_if_ge (tgt := 107) hx hb dX12_readLawLine_102 (by decide) (fun c32 => ?_) (fun c32 => ?_)
            · have b32 : (0 : Int32).toInt ≤ v31.toInt := i_le.mp c32
              refine lv_aload_n hx hb dX12_readLawLine_107 rfl (lv_at hl 1 rfl) ?_
              refine q_gr (T := TX12) C S26.1 ga0 1 kF_X12_13 dX12_readLawLine_108 rfl rfl (by decide) rfl (by decide) rfl (fun g33 => ?_)
              refine lv_iload_n hx hb dX12_readLawLine_111 rfl (lv_at hl 0 rfl) ?_
              refine lv_iconst (v := 2) hx hb dX12_readLawLine_112 (by decide) ?_
              have k_2 : (2 : Int32).toInt = 2 := by decide
              refine lv_iadd hx hb dX12_readLawLine_113 ?_
              refine lv_topi (fun v34 ev34 => ?_)
              have f35 : v34.toInt = v3.toInt + (2 : Int32).toInt := by rw [ev34]; exact i_add (by omega) (by omega)
              refine lv_aload_n hx hb dX12_readLawLine_114 rfl (lv_at hl 1 rfl) ?_
              refine q_gi (T := TX12) C S26.1 ga0 16 kF_X12_182 dX12_readLawLine_115 rfl rfl (by decide) rfl (by decide) rfl ?_
              have r36 : 0 ≤ (fI D H26 11 a0 16).toInt ∧ (fI D H26 11 a0 16).toInt ≤ 400 := S26.1.rng ga0 rfl (by decide) rfl
              refine q_iast C S26 g33 (by omega) (by omega) dX12_readLawLine_118 rfl (by decide) (by decide +kernel) (fun _ _ h => wk_high _ _ (by omega) h) (fun H37 L37 S37 P37 => ?_) (hs := fun _ => Or.inr (vy_no (by omega) (by omega) (by omega) (by omega) (fun h9 hh9 => by omega) (fun j9 hj9 => by omega)))
              have y37_10 : (fI D H37 11 a0 10).toInt = (fI D H26 11 a0 10).toInt := congrArg Int32.toInt (Pa.f P37 (ne_role ga0 g33 (by decide)))
              have y37_12 : (fI D H37 11 a0 12).toInt = (fI D H26 11 a0 12).toInt := congrArg Int32.toInt (Pa.f P37 (ne_role ga0 g33 (by decide)))
              have y37_13 : (fI D H37 11 a0 13).toInt = (fI D H26 11 a0 13).toInt := congrArg Int32.toInt (Pa.f P37 (ne_role ga0 g33 (by decide)))
              have y37_16 : (fI D H37 11 a0 16).toInt = (fI D H26 11 a0 16).toInt := congrArg Int32.toInt (Pa.f P37 (ne_role ga0 g33 (by decide)))
              have rs37 : 0 ≤ (fI D H26 11 a0 16).toInt ∧ (fI D H26 11 a0 16).toInt ≤ 400 := S26.1.rng ga0 rfl (by decide) rfl
              have tk37 : Lr D s.heap H37 a0 x1.toInt.toNat := tk26.trans (Lr.ast S26.1 ga0 P37 rfl ⟨by omega, by omega⟩ (by omega))
              have rb37 := rb26.cells S26.1 ga0 g33 (by decide) (by decide) P37.2.2.1
              have zb37 : (eI H37 (fR D H37 11 a0 1) (1206 + 4 * x1.toInt.toNat)).toInt = (fI D H26 11 a0 16).toInt := congrArg Int32.toInt (eS S26.1 ga0 P37 rfl (by omega) (by omega))
              refine lv_aload_n hx hb dX12_readLawLine_119 rfl (lv_at hl 1 rfl) ?_
              refine lv_iconst (v := 0) hx hb dX12_readLawLine_120 (by decide) ?_
              refine q_put (T := TX12) C S37 ga0 13 kF_X12_197 dX12_readLawLine_121 rfl rfl (by decide) (by decide) rfl rfl rfl rfl rfl (vok_i rfl (by omega) (by omega)) (by decide +kernel) (fun H38 L38 S38 P38 => ?_)
              have y38_10 : (fI D H38 11 a0 10).toInt = (fI D H37 11 a0 10).toInt := congrArg Int32.toInt (Pt.o P38 (by decide) (by decide))
              have y38_12 : (fI D H38 11 a0 12).toInt = (fI D H37 11 a0 12).toInt := congrArg Int32.toInt (Pt.o P38 (by decide) (by decide))
              have y38_13 : (fI D H38 11 a0 13).toInt = (0 : Int32).toInt := congrArg Int32.toInt (Pt.i P38)
              have y38_16 : (fI D H38 11 a0 16).toInt = (fI D H37 11 a0 16).toInt := congrArg Int32.toInt (Pt.o P38 (by decide) (by decide))
              have lq38 : Lq D H37 H38 a0 := Lq.put S37.1 ga0 P38 (by decide) (by decide)
              have tk38 : Lr D s.heap H38 a0 x1.toInt.toNat := tk37.trans (Lr.of lq38)
              have rb38 := rb37.put S37.1 ga0 P38 (by decide) (by decide) (by decide)
              refine lv_aload_n hx hb dX12_readLawLine_124 rfl (lv_at hl 1 rfl) ?_
              refine q_lds C ks_X12_227 dX12_readLawLine_125 (fun a39 ha39 wa39 => ?_)
              refine callV_Ei C S38 (c_X12_passes_f l D G a0 a39 2 w_if T (nx T (nx T b)) ga0 ha39 (Wc.of wa39 kw_if) (by decide)) kV_X12_120 ga0 (⟨trivial, rb38⟩) (by decide +kernel) dX12_readLawLine_127 hl.1 rfl rfl (by decide) cd_X12_passes ⟨Nat.le_of_ble_eq_true rfl, Nat.le_of_ble_eq_true rfl, Nat.le_of_ble_eq_true rfl, Nat.le_of_ble_eq_true rfl, Nat.le_of_ble_eq_true rfl⟩ (fun v40 H40 L40 S40 K40 q40 => ?_)
              obtain ⟨q40, fq40⟩ := q40
              have y40_13 : (fI D H40 11 a0 13).toInt = (fI D H38 11 a0 13).toInt := congrArg Int32.toInt (K40.fI ga0 rfl (by decide) (by decide +kernel))
              have y40_16 : (fI D H40 11 a0 16).toInt = (fI D H38 11 a0 16).toInt := congrArg Int32.toInt (K40.fI ga0 rfl (by decide) (by decide +kernel))
              have lq40 : Lq D H38 H40 a0 := Lq.keep S38.1 ga0 K40 (by decide +kernel) (by decide +kernel) (by decide +kernel)
              have tk40 : Lr D s.heap H40 a0 x1.toInt.toNat := tk38.trans (Lr.of lq40)
              rcases fq40 with ⟨z40, y40, ts40, wr40⟩ | ⟨z40, y40, ts40, wr40⟩
              · skip
                refine lv_if_eq (tgt := 142) hx hb dX12_readLawLine_130 (by decide) (fun c41 => ?_) (fun c41 => ?_)
                · have b41 : v40.toInt = (0 : Int32).toInt := i_eq.mp c41
                  exact absurd b41 (by omega)
                · have b41 : ¬ v40.toInt = (0 : Int32).toInt := fun z9 => c41 (i_eq.mpr z9)
                  refine lv_aload_n hx hb dX12_readLawLine_133 rfl (lv_at hl 1 rfl) ?_
                  have rs9 : 0 ≤ (fI D H40 11 a0 16).toInt ∧ (fI D H40 11 a0 16).toInt ≤ 400 := S40.1.rng ga0 rfl (by decide) rfl
                  have rp9 : 0 ≤ (fI D H40 11 a0 10).toInt ∧ (fI D H40 11 a0 10).toInt ≤ 400 := S40.1.rng ga0 rfl (by decide) rfl
                  refine callV_Ei C S40 (c_X12_readCond_d0 l D G a0 T (nx T (nx T (nx T b))) ga0) kV_X12_200 ga0 (⟨⟨by omega, by omega⟩, ts40⟩) (by decide +kernel) dX12_readLawLine_134 hl.1 rfl rfl (by decide) cd_X12_readCond ⟨Nat.le_of_ble_eq_true rfl, Nat.le_of_ble_eq_true rfl, Nat.le_of_ble_eq_true rfl, Nat.le_of_ble_eq_true rfl, Nat.le_of_ble_eq_true rfl⟩ (fun v42 H42 L42 S42 K42 q42 => ?_)
                  obtain ⟨q42, fq42⟩ := q42
                  obtain ⟨q42, sa42, sx42, tq42⟩ := q42
                  have lq42 : Lq D H40 H42 a0 := tq42
                  have tk42 : Lr D s.heap H42 a0 x1.toInt.toNat := tk40.trans (Lr.of lq42)
                  rcases fq42 with ⟨c42, y42, z42, ts42⟩ | ⟨e42, y42, z42, wr42⟩
                  · skip
                    refine lv_if_ne (tgt := 142) hx hb dX12_readLawLine_137 (by decide) (fun c43 => ?_) (fun c43 => ?_)
                    · have b43 : ¬ v42.toInt = (0 : Int32).toInt := fun z9 => c43 (i_eq.mpr z9)
                      have rs9 : 0 ≤ (fI D H42 11 a0 16).toInt ∧ (fI D H42 11 a0 16).toInt ≤ 400 := S42.1.rng ga0 rfl (by decide) rfl
                      have rp9 : 0 ≤ (fI D H42 11 a0 10).toInt ∧ (fI D H42 11 a0 10).toInt ≤ 400 := S42.1.rng ga0 rfl (by decide) rfl
                      refine lv_aload_n hx hb dX12_readLawLine_142 rfl (lv_at hl 1 rfl) ?_
                      refine q_gr (T := TX12) C S42.1 ga0 1 kF_X12_13 dX12_readLawLine_143 rfl rfl (by decide) rfl (by decide) rfl (fun g44 => ?_)
                      refine lv_iload_n hx hb dX12_readLawLine_146 rfl (lv_at hl 0 rfl) ?_
                      refine lv_iconst (v := 3) hx hb dX12_readLawLine_147 (by decide) ?_
                      have k_3 : (3 : Int32).toInt = 3 := by decide
                      refine lv_iadd hx hb dX12_readLawLine_148 ?_
                      refine lv_topi (fun v45 ev45 => ?_)
                      have f46 : v45.toInt = v3.toInt + (3 : Int32).toInt := by rw [ev45]; exact i_add (by omega) (by omega)
                      refine lv_aload_n hx hb dX12_readLawLine_149 rfl (lv_at hl 1 rfl) ?_
                      refine q_gi (T := TX12) C S42.1 ga0 16 kF_X12_182 dX12_readLawLine_150 rfl rfl (by decide) rfl (by decide) rfl ?_
                      have r47 : 0 ≤ (fI D H42 11 a0 16).toInt ∧ (fI D H42 11 a0 16).toInt ≤ 400 := S42.1.rng ga0 rfl (by decide) rfl
                      have n48 : aN H42 (fR D H42 11 a0 1) = 2052 := len_31 S42.1 g44
                      refine q_iast C S42 g44 (by omega) (by omega) dX12_readLawLine_153 rfl (by decide) (by decide +kernel) (fun _ _ h => wk_high _ _ (by omega) h) (fun H49 L49 S49 P49 => ?_) (hs := fun _ => Or.inr (vy_no (by omega) (by omega) (by omega) (by omega) (fun h9 hh9 => by omega) (fun j9 hj9 => by omega)))
                      have y49_10 : (fI D H49 11 a0 10).toInt = (fI D H42 11 a0 10).toInt := congrArg Int32.toInt (Pa.f P49 (ne_role ga0 g44 (by decide)))
                      have y49_12 : (fI D H49 11 a0 12).toInt = (fI D H42 11 a0 12).toInt := congrArg Int32.toInt (Pa.f P49 (ne_role ga0 g44 (by decide)))
                      have y49_13 : (fI D H49 11 a0 13).toInt = (fI D H42 11 a0 13).toInt := congrArg Int32.toInt (Pa.f P49 (ne_role ga0 g44 (by decide)))
                      have y49_16 : (fI D H49 11 a0 16).toInt = (fI D H42 11 a0 16).toInt := congrArg Int32.toInt (Pa.f P49 (ne_role ga0 g44 (by decide)))
                      have rs49 : 0 ≤ (fI D H42 11 a0 16).toInt ∧ (fI D H42 11 a0 16).toInt ≤ 400 := S42.1.rng ga0 rfl (by decide) rfl
                      have tk49 : Lr D s.heap H49 a0 x1.toInt.toNat := tk42.trans (Lr.ast S42.1 ga0 P49 rfl ⟨by omega, by omega⟩ (by omega))
                      have rb49 := ts42.cells S42.1 ga0 g44 (by decide) (by decide) P49.2.2.1
                      refine lv_iconst (v := 1) hx hb dX12_readLawLine_154 (by decide) ?_
                      exact retE_z hQ C S49 hr dX12_readLawLine_155 (z01 (by omega) (by omega)) (⟨⟨by omega, fun _ => by omega, fun _ h9 => Dl.line (b := (fI D H26 11 a0 16).toInt.toNat) (e := (fI D H42 11 a0 16).toInt.toNat) h9 tk49 (by omega) rs0.1 (by show (eI H49 (fR D H49 11 a0 1) _).toInt = _; rw [eA S42.1 ga0 P49 (by omega) (by omega), show eI H42 (fR D H42 11 a0 1) (1206 + 4 * x1.toInt.toNat) = _ from ((lq38.trans lq40).trans lq42).2 _ (by omega)]; rw [zb37]; omega) (by show (eI H49 (fR D H49 11 a0 1) _).toInt = _; rw [eS S42.1 ga0 P49 rfl (by omega) (by omega)]; omega) (by have z9 := ((lq38.trans lq40).trans lq42).1; omega) (by show _ ≤ (fI D H49 11 a0 16).toInt; omega) (by have e9 : Ex (Cs D H42 a0) (fI D H26 11 a0 16).toInt.toNat (fI D H42 11 a0 16).toInt.toNat := (sx42 (by omega)).at (by omega) (by omega); exact e9.sk (fun k9 h9 => csA S42.1 ga0 P49 rfl (by omega) (by omega)))⟩, RR.ok (by simp [linF, numE, ys65, yf23, y24, y40, y42]) (by omega) rb49⟩)
                    · have b43 : v42.toInt = (0 : Int32).toInt := i_eq.mp c43
                      exact absurd b43 (by omega)
                  · skip
                    refine lv_if_ne (tgt := 142) hx hb dX12_readLawLine_137 (by decide) (fun c50 => ?_) (fun c50 => ?_)
                    · have b50 : ¬ v42.toInt = (0 : Int32).toInt := fun z9 => c50 (i_eq.mpr z9)
                      exact absurd b50 (by omega)
                    · have b50 : v42.toInt = (0 : Int32).toInt := i_eq.mp c50
                      refine lv_iconst (v := 0) hx hb dX12_readLawLine_140 (by decide) ?_
                      exact retE_z hQ C S42 hr dX12_readLawLine_141 (z01 (by omega) (by omega)) (⟨⟨by omega, fun h9 => absurd h9 (by decide), fun h9 => absurd h9 (by decide)⟩, RR.no (by simp [linF, numE, ys65, yf23, y24, y40, y42]) (by omega) wr42⟩)
              · skip
                refine lv_if_eq (tgt := 142) hx hb dX12_readLawLine_130 (by decide) (fun c51 => ?_) (fun c51 => ?_)
                · have b51 : v40.toInt = (0 : Int32).toInt := i_eq.mp c51
                  have rs9 : 0 ≤ (fI D H40 11 a0 16).toInt ∧ (fI D H40 11 a0 16).toInt ≤ 400 := S40.1.rng ga0 rfl (by decide) rfl
                  have rp9 : 0 ≤ (fI D H40 11 a0 10).toInt ∧ (fI D H40 11 a0 10).toInt ≤ 400 := S40.1.rng ga0 rfl (by decide) rfl
                  refine lv_aload_n hx hb dX12_readLawLine_142 rfl (lv_at hl 1 rfl) ?_
                  refine q_gr (T := TX12) C S40.1 ga0 1 kF_X12_13 dX12_readLawLine_143 rfl rfl (by decide) rfl (by decide) rfl (fun g52 => ?_)
                  refine lv_iload_n hx hb dX12_readLawLine_146 rfl (lv_at hl 0 rfl) ?_
                  refine lv_iconst (v := 3) hx hb dX12_readLawLine_147 (by decide) ?_
                  have k_3 : (3 : Int32).toInt = 3 := by decide
                  refine lv_iadd hx hb dX12_readLawLine_148 ?_
                  refine lv_topi (fun v53 ev53 => ?_)
                  have f54 : v53.toInt = v3.toInt + (3 : Int32).toInt := by rw [ev53]; exact i_add (by omega) (by omega)
                  refine lv_aload_n hx hb dX12_readLawLine_149 rfl (lv_at hl 1 rfl) ?_
                  refine q_gi (T := TX12) C S40.1 ga0 16 kF_X12_182 dX12_readLawLine_150 rfl rfl (by decide) rfl (by decide) rfl ?_
                  have r55 : 0 ≤ (fI D H40 11 a0 16).toInt ∧ (fI D H40 11 a0 16).toInt ≤ 400 := S40.1.rng ga0 rfl (by decide) rfl
                  have n56 : aN H40 (fR D H40 11 a0 1) = 2052 := len_31 S40.1 g52
                  refine q_iast C S40 g52 (by omega) (by omega) dX12_readLawLine_153 rfl (by decide) (by decide +kernel) (fun _ _ h => wk_high _ _ (by omega) h) (fun H57 L57 S57 P57 => ?_) (hs := fun _ => Or.inr (vy_no (by omega) (by omega) (by omega) (by omega) (fun h9 hh9 => by omega) (fun j9 hj9 => by omega)))
                  have y57_10 : (fI D H57 11 a0 10).toInt = (fI D H40 11 a0 10).toInt := congrArg Int32.toInt (Pa.f P57 (ne_role ga0 g52 (by decide)))
                  have y57_12 : (fI D H57 11 a0 12).toInt = (fI D H40 11 a0 12).toInt := congrArg Int32.toInt (Pa.f P57 (ne_role ga0 g52 (by decide)))
                  have y57_13 : (fI D H57 11 a0 13).toInt = (fI D H40 11 a0 13).toInt := congrArg Int32.toInt (Pa.f P57 (ne_role ga0 g52 (by decide)))
                  have y57_16 : (fI D H57 11 a0 16).toInt = (fI D H40 11 a0 16).toInt := congrArg Int32.toInt (Pa.f P57 (ne_role ga0 g52 (by decide)))
                  have rs57 : 0 ≤ (fI D H40 11 a0 16).toInt ∧ (fI D H40 11 a0 16).toInt ≤ 400 := S40.1.rng ga0 rfl (by decide) rfl
                  have tk57 : Lr D s.heap H57 a0 x1.toInt.toNat := tk40.trans (Lr.ast S40.1 ga0 P57 rfl ⟨by omega, by omega⟩ (by omega))
                  have rb57 := ts40.cells S40.1 ga0 g52 (by decide) (by decide) P57.2.2.1
                  have bg57 : (fI D H57 11 a0 12).toInt = (((nx T (nx T b)) : Nat) : Int) := by rw [Pa.f P57 (ne_role ga0 g52 (by decide))]; exact wr40
                  refine lv_iconst (v := 1) hx hb dX12_readLawLine_154 (by decide) ?_
                  exact retE_z hQ C S57 hr dX12_readLawLine_155 (z01 (by omega) (by omega)) (⟨⟨by omega, fun _ => by omega, fun _ h9 => Dl.line (b := (fI D H26 11 a0 16).toInt.toNat) (e := (fI D H40 11 a0 16).toInt.toNat) h9 tk57 (by omega) rs0.1 (by show (eI H57 (fR D H57 11 a0 1) _).toInt = _; rw [eA S40.1 ga0 P57 (by omega) (by omega), show eI H40 (fR D H40 11 a0 1) (1206 + 4 * x1.toInt.toNat) = _ from (lq38.trans lq40).2 _ (by omega)]; rw [zb37]; omega) (by show (eI H57 (fR D H57 11 a0 1) _).toInt = _; rw [eS S40.1 ga0 P57 rfl (by omega) (by omega)]; omega) (by have z9 := (lq38.trans lq40).1; omega) (by show _ ≤ (fI D H57 11 a0 16).toInt; omega) (by rw [show (fI D H40 11 a0 16).toInt.toNat - (fI D H26 11 a0 16).toInt.toNat = 0 by omega]; exact True.intro)⟩, RR.ok (by simp [linF, numE, ys65, yf23, y24, y40]) (by omega) rb57⟩)
                · have b51 : ¬ v40.toInt = (0 : Int32).toInt := fun z9 => c51 (i_eq.mpr z9)
                  exact absurd b51 (by omega)
            · have b32 : ¬ (0 : Int32).toInt ≤ v31.toInt := fun z9 => c32 (i_le.mpr z9)
              exact absurd b32 (by omega)
          · skip
            have n58 : aN H24 (fR D H12 11 a0 1) = 2052 := len_31 S24.1 g17
            refine q_iast C S24 g17 (by omega) (by omega) dX12_readLawLine_93 rfl (by decide) (by decide +kernel) (fun _ _ h => wk_high _ _ (by omega) h) (fun H59 L59 S59 P59 => ?_) (hs := fun _ => Or.inr (vy_no (by omega) (by omega) (by omega) (by omega) (fun h9 hh9 => by omega) (fun j9 hj9 => by omega)))
            have y59_10 : (fI D H59 11 a0 10).toInt = (fI D H24 11 a0 10).toInt := congrArg Int32.toInt (Pa.f P59 (ne_role ga0 g17 (by decide)))
            have y59_12 : (fI D H59 11 a0 12).toInt = (fI D H24 11 a0 12).toInt := congrArg Int32.toInt (Pa.f P59 (ne_role ga0 g17 (by decide)))
            have y59_13 : (fI D H59 11 a0 13).toInt = (fI D H24 11 a0 13).toInt := congrArg Int32.toInt (Pa.f P59 (ne_role ga0 g17 (by decide)))
            have y59_16 : (fI D H59 11 a0 16).toInt = (fI D H24 11 a0 16).toInt := congrArg Int32.toInt (Pa.f P59 (ne_role ga0 g17 (by decide)))
            have rs59 : 0 ≤ (fI D H24 11 a0 16).toInt ∧ (fI D H24 11 a0 16).toInt ≤ 400 := S24.1.rng ga0 rfl (by decide) rfl
            have tk59 : Lr D s.heap H59 a0 x1.toInt.toNat := tk24.trans (Lr.ast S24.1 ga0 P59 ((S12.2.1.fR ga0 rfl (by decide) (by decide +kernel)).trans (S24.2.1.fR ga0 rfl (by decide) (by decide +kernel)).symm) ⟨by omega, by omega⟩ (by omega))
            have bg59 : (fI D H59 11 a0 12).toInt = (((nx T b) : Nat) : Int) := by rw [Pa.f P59 (ne_role ga0 g17 (by decide))]; exact wr24
            have ew2 := eS S24.1 ga0 P59 ((S12.2.1.fR ga0 rfl (by decide) (by decide +kernel)).trans (S24.2.1.fR ga0 rfl (by decide) (by decide +kernel)).symm) rfl (by omega)
            refine lv_aload_n hx hb dX12_readLawLine_94 rfl (lv_at hl 1 rfl) ?_
            refine q_gr (T := TX12) C S59.1 ga0 1 kF_X12_13 dX12_readLawLine_95 rfl rfl (by decide) rfl (by decide) rfl (fun g60 => ?_)
            refine lv_iload_n hx hb dX12_readLawLine_98 rfl (lv_at hl 0 rfl) ?_
            refine lv_iconst (v := 1) hx hb dX12_readLawLine_99 (by decide) ?_
            refine lv_iadd hx hb dX12_readLawLine_100 ?_
            refine lv_topi (fun v61 ev61 => ?_)
            have f62 : v61.toInt = v3.toInt + (1 : Int32).toInt := by rw [ev61]; exact i_add (by omega) (by omega)
            have n63 : aN H59 (fR D H59 11 a0 1) = 2052 := len_31 S59.1 g60
            refine q_iald C S59.1 g60 (by omega) (by omega) dX12_readLawLine_101 rfl (by decide) ?_
            refine lv_topi (fun v64 ev64 => ?_)
            have ev101 := ev64
            have ez2 : v64.toInt = v24.toInt := congrArg Int32.toInt (ev101.trans ((congrArg (fun i9 => eI H59 (fR D H59 11 a0 1) i9) (show v61.toInt.toNat = v18.toInt.toNat by omega)).trans ew2))
            refine lv_if_ge (tgt := 107) hx hb dX12_readLawLine_102 (by decide) (fun c65 => ?_) (fun c65 => ?_)
            · have b65 : (0 : Int32).toInt ≤ v64.toInt := i_le.mp c65
              exact absurd b65 (by omega)
            · have b65 : ¬ (0 : Int32).toInt ≤ v64.toInt := fun z9 => c65 (i_le.mpr z9)
              refine lv_iconst (v := 0) hx hb dX12_readLawLine_105 (by decide) ?_
              exact retE_z hQ C S59 hr dX12_readLawLine_106 (z01 (by omega) (by omega)) (⟨⟨by omega, fun h9 => absurd h9 (by decide), fun h9 => absurd h9 (by decide)⟩, RR.no (by simp [linF, numE, ys65, yf23, y24]) (by omega) bg59⟩)
        · have b22 : v21.toInt = (1 : Int32).toInt := i_eq.mp c22
          have yf66 : srt T b = 1 := by omega
          refine lv_iconst (v := 1) hx hb dX12_readLawLine_82 (by decide) ?_
          refine lv_goto (tgt := 93) hx hb dX12_readLawLine_83 (by decide) ?_
          refine q_iast C S12 g17 (by omega) (by omega) dX12_readLawLine_93 rfl (by decide) (by decide +kernel) (fun _ _ h => wk_high _ _ (by omega) h) (fun H67 L67 S67 P67 => ?_) (hs := fun _ => Or.inr (vy_no (by omega) (by omega) (by omega) (by omega) (fun h9 hh9 => by omega) (fun j9 hj9 => by omega)))
          have y67_10 : (fI D H67 11 a0 10).toInt = (fI D H12 11 a0 10).toInt := congrArg Int32.toInt (Pa.f P67 (ne_role ga0 g17 (by decide)))
          have y67_12 : (fI D H67 11 a0 12).toInt = (fI D H12 11 a0 12).toInt := congrArg Int32.toInt (Pa.f P67 (ne_role ga0 g17 (by decide)))
          have y67_13 : (fI D H67 11 a0 13).toInt = (fI D H12 11 a0 13).toInt := congrArg Int32.toInt (Pa.f P67 (ne_role ga0 g17 (by decide)))
          have y67_16 : (fI D H67 11 a0 16).toInt = (fI D H12 11 a0 16).toInt := congrArg Int32.toInt (Pa.f P67 (ne_role ga0 g17 (by decide)))
          have rs67 : 0 ≤ (fI D H12 11 a0 16).toInt ∧ (fI D H12 11 a0 16).toInt ≤ 400 := S12.1.rng ga0 rfl (by decide) rfl
          have tk67 : Lr D s.heap H67 a0 x1.toInt.toNat := tk12.trans (Lr.ast S12.1 ga0 P67 rfl ⟨by omega, by omega⟩ (by omega))
          have rb67 := rb65.cells S12.1 ga0 g17 (by decide) (by decide) P67.2.2.1
          have ew2 := eS S12.1 ga0 P67 rfl rfl (by omega)
          refine lv_aload_n hx hb dX12_readLawLine_94 rfl (lv_at hl 1 rfl) ?_
          refine q_gr (T := TX12) C S67.1 ga0 1 kF_X12_13 dX12_readLawLine_95 rfl rfl (by decide) rfl (by decide) rfl (fun g68 => ?_)
          refine lv_iload_n hx hb dX12_readLawLine_98 rfl (lv_at hl 0 rfl) ?_
          refine lv_iconst (v := 1) hx hb dX12_readLawLine_99 (by decide) ?_
          refine lv_iadd hx hb dX12_readLawLine_100 ?_
          refine lv_topi (fun v69 ev69 => ?_)
          have f70 : v69.toInt = v3.toInt + (1 : Int32).toInt := by rw [ev69]; exact i_add (by omega) (by omega)
          have n71 : aN H67 (fR D H67 11 a0 1) = 2052 := len_31 S67.1 g68
          refine q_iald C S67.1 g68 (by omega) (by omega) dX12_readLawLine_101 rfl (by decide) ?_
          refine lv_topi (fun v72 ev72 => ?_)
          have ev101 := ev72
          have ez2 : v72.toInt = (1 : Int32).toInt := congrArg Int32.toInt (ev101.trans ((congrArg (fun i9 => eI H67 (fR D H67 11 a0 1) i9) (show v69.toInt.toNat = v18.toInt.toNat by omega)).trans ew2))
          refine lv_if_ge (tgt := 107) hx hb dX12_readLawLine_102 (by decide) (fun c73 => ?_) (fun c73 => ?_)
          · have b73 : (0 : Int32).toInt ≤ v72.toInt := i_le.mp c73
            refine lv_aload_n hx hb dX12_readLawLine_107 rfl (lv_at hl 1 rfl) ?_
            refine q_gr (T := TX12) C S67.1 ga0 1 kF_X12_13 dX12_readLawLine_108 rfl rfl (by decide) rfl (by decide) rfl (fun g74 => ?_)
            refine lv_iload_n hx hb dX12_readLawLine_111 rfl (lv_at hl 0 rfl) ?_
            refine lv_iconst (v := 2) hx hb dX12_readLawLine_112 (by decide) ?_
            have k_2 : (2 : Int32).toInt = 2 := by decide
            refine lv_iadd hx hb dX12_readLawLine_113 ?_
            refine lv_topi (fun v75 ev75 => ?_)
            have f76 : v75.toInt = v3.toInt + (2 : Int32).toInt := by rw [ev75]; exact i_add (by omega) (by omega)
            refine lv_aload_n hx hb dX12_readLawLine_114 rfl (lv_at hl 1 rfl) ?_
            refine q_gi (T := TX12) C S67.1 ga0 16 kF_X12_182 dX12_readLawLine_115 rfl rfl (by decide) rfl (by decide) rfl ?_
            have r77 : 0 ≤ (fI D H67 11 a0 16).toInt ∧ (fI D H67 11 a0 16).toInt ≤ 400 := S67.1.rng ga0 rfl (by decide) rfl
            refine q_iast C S67 g74 (by omega) (by omega) dX12_readLawLine_118 rfl (by decide) (by decide +kernel) (fun _ _ h => wk_high _ _ (by omega) h) (fun H78 L78 S78 P78 => ?_) (hs := fun _ => Or.inr (vy_no (by omega) (by omega) (by omega) (by omega) (fun h9 hh9 => by omega) (fun j9 hj9 => by omega)))
            have y78_10 : (fI D H78 11 a0 10).toInt = (fI D H67 11 a0 10).toInt := congrArg Int32.toInt (Pa.f P78 (ne_role ga0 g74 (by decide)))
            have y78_12 : (fI D H78 11 a0 12).toInt = (fI D H67 11 a0 12).toInt := congrArg Int32.toInt (Pa.f P78 (ne_role ga0 g74 (by decide)))
            have y78_13 : (fI D H78 11 a0 13).toInt = (fI D H67 11 a0 13).toInt := congrArg Int32.toInt (Pa.f P78 (ne_role ga0 g74 (by decide)))
            have y78_16 : (fI D H78 11 a0 16).toInt = (fI D H67 11 a0 16).toInt := congrArg Int32.toInt (Pa.f P78 (ne_role ga0 g74 (by decide)))
            have rs78 : 0 ≤ (fI D H67 11 a0 16).toInt ∧ (fI D H67 11 a0 16).toInt ≤ 400 := S67.1.rng ga0 rfl (by decide) rfl
            have tk78 : Lr D s.heap H78 a0 x1.toInt.toNat := tk67.trans (Lr.ast S67.1 ga0 P78 rfl ⟨by omega, by omega⟩ (by omega))
            have rb78 := rb67.cells S67.1 ga0 g74 (by decide) (by decide) P78.2.2.1
            have zb78 : (eI H78 (fR D H78 11 a0 1) (1206 + 4 * x1.toInt.toNat)).toInt = (fI D H67 11 a0 16).toInt := congrArg Int32.toInt (eS S67.1 ga0 P78 rfl (by omega) (by omega))
            refine lv_aload_n hx hb dX12_readLawLine_119 rfl (lv_at hl 1 rfl) ?_
            refine lv_iconst (v := 0) hx hb dX12_readLawLine_120 (by decide) ?_
            refine q_put (T := TX12) C S78 ga0 13 kF_X12_197 dX12_readLawLine_121 rfl rfl (by decide) (by decide) rfl rfl rfl rfl rfl (vok_i rfl (by omega) (by omega)) (by decide +kernel) (fun H79 L79 S79 P79 => ?_)
            have y79_10 : (fI D H79 11 a0 10).toInt = (fI D H78 11 a0 10).toInt := congrArg Int32.toInt (Pt.o P79 (by decide) (by decide))
            have y79_12 : (fI D H79 11 a0 12).toInt = (fI D H78 11 a0 12).toInt := congrArg Int32.toInt (Pt.o P79 (by decide) (by decide))
            have y79_13 : (fI D H79 11 a0 13).toInt = (0 : Int32).toInt := congrArg Int32.toInt (Pt.i P79)
            have y79_16 : (fI D H79 11 a0 16).toInt = (fI D H78 11 a0 16).toInt := congrArg Int32.toInt (Pt.o P79 (by decide) (by decide))
            have lq79 : Lq D H78 H79 a0 := Lq.put S78.1 ga0 P79 (by decide) (by decide)
            have tk79 : Lr D s.heap H79 a0 x1.toInt.toNat := tk78.trans (Lr.of lq79)
            have rb79 := rb78.put S78.1 ga0 P79 (by decide) (by decide) (by decide)
            refine lv_aload_n hx hb dX12_readLawLine_124 rfl (lv_at hl 1 rfl) ?_
            refine q_lds C ks_X12_227 dX12_readLawLine_125 (fun a80 ha80 wa80 => ?_)
            refine callV_Ei C S79 (c_X12_passes_f l D G a0 a80 2 w_if T (nx T b) ga0 ha80 (Wc.of wa80 kw_if) (by decide)) kV_X12_120 ga0 (⟨trivial, rb79⟩) (by decide +kernel) dX12_readLawLine_127 hl.1 rfl rfl (by decide) cd_X12_passes ⟨Nat.le_of_ble_eq_true rfl, Nat.le_of_ble_eq_true rfl, Nat.le_of_ble_eq_true rfl, Nat.le_of_ble_eq_true rfl, Nat.le_of_ble_eq_true rfl⟩ (fun v81 H81 L81 S81 K81 q81 => ?_)
            obtain ⟨q81, fq81⟩ := q81
            have y81_13 : (fI D H81 11 a0 13).toInt = (fI D H79 11 a0 13).toInt := congrArg Int32.toInt (K81.fI ga0 rfl (by decide) (by decide +kernel))
            have y81_16 : (fI D H81 11 a0 16).toInt = (fI D H79 11 a0 16).toInt := congrArg Int32.toInt (K81.fI ga0 rfl (by decide) (by decide +kernel))
            have lq81 : Lq D H79 H81 a0 := Lq.keep S79.1 ga0 K81 (by decide +kernel) (by decide +kernel) (by decide +kernel)
            have tk81 : Lr D s.heap H81 a0 x1.toInt.toNat := tk79.trans (Lr.of lq81)
            rcases fq81 with ⟨z81, y81, ts81, wr81⟩ | ⟨z81, y81, ts81, wr81⟩
            · skip
              refine lv_if_eq (tgt := 142) hx hb dX12_readLawLine_130 (by decide) (fun c82 => ?_) (fun c82 => ?_)
              · have b82 : v81.toInt = (0 : Int32).toInt := i_eq.mp c82
                exact absurd b82 (by omega)
              · have b82 : ¬ v81.toInt = (0 : Int32).toInt := fun z9 => c82 (i_eq.mpr z9)
                refine lv_aload_n hx hb dX12_readLawLine_133 rfl (lv_at hl 1 rfl) ?_
                have rs9 : 0 ≤ (fI D H81 11 a0 16).toInt ∧ (fI D H81 11 a0 16).toInt ≤ 400 := S81.1.rng ga0 rfl (by decide) rfl
                have rp9 : 0 ≤ (fI D H81 11 a0 10).toInt ∧ (fI D H81 11 a0 10).toInt ≤ 400 := S81.1.rng ga0 rfl (by decide) rfl
                refine callV_Ei C S81 (c_X12_readCond_d0 l D G a0 T (nx T (nx T b)) ga0) kV_X12_200 ga0 (⟨⟨by omega, by omega⟩, ts81⟩) (by decide +kernel) dX12_readLawLine_134 hl.1 rfl rfl (by decide) cd_X12_readCond ⟨Nat.le_of_ble_eq_true rfl, Nat.le_of_ble_eq_true rfl, Nat.le_of_ble_eq_true rfl, Nat.le_of_ble_eq_true rfl, Nat.le_of_ble_eq_true rfl⟩ (fun v83 H83 L83 S83 K83 q83 => ?_)
                obtain ⟨q83, fq83⟩ := q83
                obtain ⟨q83, sa83, sx83, tq83⟩ := q83
                have lq83 : Lq D H81 H83 a0 := tq83
                have tk83 : Lr D s.heap H83 a0 x1.toInt.toNat := tk81.trans (Lr.of lq83)
                rcases fq83 with ⟨c83, y83, z83, ts83⟩ | ⟨e83, y83, z83, wr83⟩
                · skip
                  refine lv_if_ne (tgt := 142) hx hb dX12_readLawLine_137 (by decide) (fun c84 => ?_) (fun c84 => ?_)
                  · have b84 : ¬ v83.toInt = (0 : Int32).toInt := fun z9 => c84 (i_eq.mpr z9)
                    have rs9 : 0 ≤ (fI D H83 11 a0 16).toInt ∧ (fI D H83 11 a0 16).toInt ≤ 400 := S83.1.rng ga0 rfl (by decide) rfl
                    have rp9 : 0 ≤ (fI D H83 11 a0 10).toInt ∧ (fI D H83 11 a0 10).toInt ≤ 400 := S83.1.rng ga0 rfl (by decide) rfl
                    refine lv_aload_n hx hb dX12_readLawLine_142 rfl (lv_at hl 1 rfl) ?_
                    refine q_gr (T := TX12) C S83.1 ga0 1 kF_X12_13 dX12_readLawLine_143 rfl rfl (by decide) rfl (by decide) rfl (fun g85 => ?_)
                    refine lv_iload_n hx hb dX12_readLawLine_146 rfl (lv_at hl 0 rfl) ?_
                    refine lv_iconst (v := 3) hx hb dX12_readLawLine_147 (by decide) ?_
                    have k_3 : (3 : Int32).toInt = 3 := by decide
                    refine lv_iadd hx hb dX12_readLawLine_148 ?_
                    refine lv_topi (fun v86 ev86 => ?_)
                    have f87 : v86.toInt = v3.toInt + (3 : Int32).toInt := by rw [ev86]; exact i_add (by omega) (by omega)
                    refine lv_aload_n hx hb dX12_readLawLine_149 rfl (lv_at hl 1 rfl) ?_
                    refine q_gi (T := TX12) C S83.1 ga0 16 kF_X12_182 dX12_readLawLine_150 rfl rfl (by decide) rfl (by decide) rfl ?_
                    have r88 : 0 ≤ (fI D H83 11 a0 16).toInt ∧ (fI D H83 11 a0 16).toInt ≤ 400 := S83.1.rng ga0 rfl (by decide) rfl
                    have n89 : aN H83 (fR D H83 11 a0 1) = 2052 := len_31 S83.1 g85
                    refine q_iast C S83 g85 (by omega) (by omega) dX12_readLawLine_153 rfl (by decide) (by decide +kernel) (fun _ _ h => wk_high _ _ (by omega) h) (fun H90 L90 S90 P90 => ?_) (hs := fun _ => Or.inr (vy_no (by omega) (by omega) (by omega) (by omega) (fun h9 hh9 => by omega) (fun j9 hj9 => by omega)))
                    have y90_10 : (fI D H90 11 a0 10).toInt = (fI D H83 11 a0 10).toInt := congrArg Int32.toInt (Pa.f P90 (ne_role ga0 g85 (by decide)))
                    have y90_12 : (fI D H90 11 a0 12).toInt = (fI D H83 11 a0 12).toInt := congrArg Int32.toInt (Pa.f P90 (ne_role ga0 g85 (by decide)))
                    have y90_13 : (fI D H90 11 a0 13).toInt = (fI D H83 11 a0 13).toInt := congrArg Int32.toInt (Pa.f P90 (ne_role ga0 g85 (by decide)))
                    have y90_16 : (fI D H90 11 a0 16).toInt = (fI D H83 11 a0 16).toInt := congrArg Int32.toInt (Pa.f P90 (ne_role ga0 g85 (by decide)))
                    have rs90 : 0 ≤ (fI D H83 11 a0 16).toInt ∧ (fI D H83 11 a0 16).toInt ≤ 400 := S83.1.rng ga0 rfl (by decide) rfl
                    have tk90 : Lr D s.heap H90 a0 x1.toInt.toNat := tk83.trans (Lr.ast S83.1 ga0 P90 rfl ⟨by omega, by omega⟩ (by omega))
                    have rb90 := ts83.cells S83.1 ga0 g85 (by decide) (by decide) P90.2.2.1
                    refine lv_iconst (v := 1) hx hb dX12_readLawLine_154 (by decide) ?_
                    exact retE_z hQ C S90 hr dX12_readLawLine_155 (z01 (by omega) (by omega)) (⟨⟨by omega, fun _ => by omega, fun _ h9 => Dl.line (b := (fI D H67 11 a0 16).toInt.toNat) (e := (fI D H83 11 a0 16).toInt.toNat) h9 tk90 (by omega) rs0.1 (by show (eI H90 (fR D H90 11 a0 1) _).toInt = _; rw [eA S83.1 ga0 P90 (by omega) (by omega), show eI H83 (fR D H83 11 a0 1) (1206 + 4 * x1.toInt.toNat) = _ from ((lq79.trans lq81).trans lq83).2 _ (by omega)]; rw [zb78]; omega) (by show (eI H90 (fR D H90 11 a0 1) _).toInt = _; rw [eS S83.1 ga0 P90 rfl (by omega) (by omega)]; omega) (by have z9 := ((lq79.trans lq81).trans lq83).1; omega) (by show _ ≤ (fI D H90 11 a0 16).toInt; omega) (by have e9 : Ex (Cs D H83 a0) (fI D H67 11 a0 16).toInt.toNat (fI D H83 11 a0 16).toInt.toNat := (sx83 (by omega)).at (by omega) (by omega); exact e9.sk (fun k9 h9 => csA S83.1 ga0 P90 rfl (by omega) (by omega)))⟩, RR.ok (by simp [linF, numE, ys65, yf66, y81, y83]) (by omega) rb90⟩)
                  · have b84 : v83.toInt = (0 : Int32).toInt := i_eq.mp c84
                    exact absurd b84 (by omega)
                · skip
                  refine lv_if_ne (tgt := 142) hx hb dX12_readLawLine_137 (by decide) (fun c91 => ?_) (fun c91 => ?_)
                  · have b91 : ¬ v83.toInt = (0 : Int32).toInt := fun z9 => c91 (i_eq.mpr z9)
                    exact absurd b91 (by omega)
                  · have b91 : v83.toInt = (0 : Int32).toInt := i_eq.mp c91
                    refine lv_iconst (v := 0) hx hb dX12_readLawLine_140 (by decide) ?_
                    exact retE_z hQ C S83 hr dX12_readLawLine_141 (z01 (by omega) (by omega)) (⟨⟨by omega, fun h9 => absurd h9 (by decide), fun h9 => absurd h9 (by decide)⟩, RR.no (by simp [linF, numE, ys65, yf66, y81, y83]) (by omega) wr83⟩)
            · skip
              refine lv_if_eq (tgt := 142) hx hb dX12_readLawLine_130 (by decide) (fun c92 => ?_) (fun c92 => ?_)
              · have b92 : v81.toInt = (0 : Int32).toInt := i_eq.mp c92
                have rs9 : 0 ≤ (fI D H81 11 a0 16).toInt ∧ (fI D H81 11 a0 16).toInt ≤ 400 := S81.1.rng ga0 rfl (by decide) rfl
                have rp9 : 0 ≤ (fI D H81 11 a0 10).toInt ∧ (fI D H81 11 a0 10).toInt ≤ 400 := S81.1.rng ga0 rfl (by decide) rfl
                refine lv_aload_n hx hb dX12_readLawLine_142 rfl (lv_at hl 1 rfl) ?_
                refine q_gr (T := TX12) C S81.1 ga0 1 kF_X12_13 dX12_readLawLine_143 rfl rfl (by decide) rfl (by decide) rfl (fun g93 => ?_)
                refine lv_iload_n hx hb dX12_readLawLine_146 rfl (lv_at hl 0 rfl) ?_
                refine lv_iconst (v := 3) hx hb dX12_readLawLine_147 (by decide) ?_
                have k_3 : (3 : Int32).toInt = 3 := by decide
                refine lv_iadd hx hb dX12_readLawLine_148 ?_
                refine lv_topi (fun v94 ev94 => ?_)
                have f95 : v94.toInt = v3.toInt + (3 : Int32).toInt := by rw [ev94]; exact i_add (by omega) (by omega)
                refine lv_aload_n hx hb dX12_readLawLine_149 rfl (lv_at hl 1 rfl) ?_
                refine q_gi (T := TX12) C S81.1 ga0 16 kF_X12_182 dX12_readLawLine_150 rfl rfl (by decide) rfl (by decide) rfl ?_
                have r96 : 0 ≤ (fI D H81 11 a0 16).toInt ∧ (fI D H81 11 a0 16).toInt ≤ 400 := S81.1.rng ga0 rfl (by decide) rfl
                have n97 : aN H81 (fR D H81 11 a0 1) = 2052 := len_31 S81.1 g93
                refine q_iast C S81 g93 (by omega) (by omega) dX12_readLawLine_153 rfl (by decide) (by decide +kernel) (fun _ _ h => wk_high _ _ (by omega) h) (fun H98 L98 S98 P98 => ?_) (hs := fun _ => Or.inr (vy_no (by omega) (by omega) (by omega) (by omega) (fun h9 hh9 => by omega) (fun j9 hj9 => by omega)))
                have y98_10 : (fI D H98 11 a0 10).toInt = (fI D H81 11 a0 10).toInt := congrArg Int32.toInt (Pa.f P98 (ne_role ga0 g93 (by decide)))
                have y98_12 : (fI D H98 11 a0 12).toInt = (fI D H81 11 a0 12).toInt := congrArg Int32.toInt (Pa.f P98 (ne_role ga0 g93 (by decide)))
                have y98_13 : (fI D H98 11 a0 13).toInt = (fI D H81 11 a0 13).toInt := congrArg Int32.toInt (Pa.f P98 (ne_role ga0 g93 (by decide)))
                have y98_16 : (fI D H98 11 a0 16).toInt = (fI D H81 11 a0 16).toInt := congrArg Int32.toInt (Pa.f P98 (ne_role ga0 g93 (by decide)))
                have rs98 : 0 ≤ (fI D H81 11 a0 16).toInt ∧ (fI D H81 11 a0 16).toInt ≤ 400 := S81.1.rng ga0 rfl (by decide) rfl
                have tk98 : Lr D s.heap H98 a0 x1.toInt.toNat := tk81.trans (Lr.ast S81.1 ga0 P98 rfl ⟨by omega, by omega⟩ (by omega))
                have rb98 := ts81.cells S81.1 ga0 g93 (by decide) (by decide) P98.2.2.1
                have bg98 : (fI D H98 11 a0 12).toInt = (((nx T b) : Nat) : Int) := by rw [Pa.f P98 (ne_role ga0 g93 (by decide))]; exact wr81
                refine lv_iconst (v := 1) hx hb dX12_readLawLine_154 (by decide) ?_
                exact retE_z hQ C S98 hr dX12_readLawLine_155 (z01 (by omega) (by omega)) (⟨⟨by omega, fun _ => by omega, fun _ h9 => Dl.line (b := (fI D H67 11 a0 16).toInt.toNat) (e := (fI D H81 11 a0 16).toInt.toNat) h9 tk98 (by omega) rs0.1 (by show (eI H98 (fR D H98 11 a0 1) _).toInt = _; rw [eA S81.1 ga0 P98 (by omega) (by omega), show eI H81 (fR D H81 11 a0 1) (1206 + 4 * x1.toInt.toNat) = _ from (lq79.trans lq81).2 _ (by omega)]; rw [zb78]; omega) (by show (eI H98 (fR D H98 11 a0 1) _).toInt = _; rw [eS S81.1 ga0 P98 rfl (by omega) (by omega)]; omega) (by have z9 := (lq79.trans lq81).1; omega) (by show _ ≤ (fI D H98 11 a0 16).toInt; omega) (by rw [show (fI D H81 11 a0 16).toInt.toNat - (fI D H67 11 a0 16).toInt.toNat = 0 by omega]; exact True.intro)⟩, RR.ok (by simp [linF, numE, ys65, yf66, y81]) (by omega) rb98⟩)
              · have b92 : ¬ v81.toInt = (0 : Int32).toInt := fun z9 => c92 (i_eq.mpr z9)
                exact absurd b92 (by omega)
          · have b73 : ¬ (0 : Int32).toInt ≤ v72.toInt := fun z9 => c73 (i_le.mpr z9)
            exact absurd b73 (by omega)
      · have b16 : ¬ (0 : Int32).toInt ≤ v15.toInt := fun z9 => c16 (i_le.mpr z9)
        have ys63 : srt T b = -1 := by omega
        have bg63 := lb12.2.2.1
        refine lv_iconst (v := 0) hx hb dX12_readLawLine_63 (by decide) ?_
        exact retE_z hQ C S12 hr dX12_readLawLine_64 (z01 (by omega) (by omega)) (⟨⟨by omega, fun h9 => absurd h9 (by decide), fun h9 => absurd h9 (by decide)⟩, RR.no (by simp [linF, numE, ys63]) (by omega) bg63⟩)
    have k_0 : (0 : Int32).toInt = 0 := by decide
    refine lv_if_eq (tgt := 26) hx hb dX12_readLawLine_19 (by decide) (fun c8 => ?_) (fun c8 => ?_)
    · have b8 : v7.toInt = (0 : Int32).toInt := i_eq.mp c8
      exact absurd b8 (by omega)
    · have b8 : ¬ v7.toInt = (0 : Int32).toInt := fun z9 => c8 (i_eq.mpr z9)
      refine lv_iconst (v := 0) hx hb dX12_readLawLine_22 (by decide) ?_
      refine lv_goto (tgt := 53) hx hb dX12_readLawLine_23 (by decide) ?_
      exact J9 (0 : Int32) (by omega) ⟨by omega, by rw [show srt T b = 0 by simp [srt, y7]]; omega⟩
  · skip
    have J100 : ∀ z101 : Int32, (-1 ≤ z101.toInt ∧ z101.toInt ≤ 2) → ((0 ≤ z101.toInt → (fI D s.heap 11 a0 10).toInt - (fI D s.heap 11 a0 12).toInt ≥ 3) ∧ z101.toInt = srt T b) → W p l e (rmU 28 0 0) s m args below meth c s.heap [] 0 0 Q (F0 m 53 ls [.int z101, .int v3, .ref (fR D s.heap 11 a0 1)]) := by
      intro z101 jz101 jjz101
      have n102 : aN s.heap (fR D s.heap 11 a0 1) = 2052 := len_31 S.1 g5
      refine q_iast C S g5 (by omega) (by omega) dX12_readLawLine_53 rfl (by decide) (by decide +kernel) (fun _ _ h => wk_high _ _ (by omega) h) (fun H103 L103 S103 P103 => ?_) (hs := fun _ => Or.inr (vy_no (by omega) (by omega) (by omega) (by omega) (fun h9 hh9 => by omega) (fun j9 hj9 => by omega)))
      have y103_10 : (fI D H103 11 a0 10).toInt = (fI D s.heap 11 a0 10).toInt := congrArg Int32.toInt (Pa.f P103 (ne_role ga0 g5 (by decide)))
      have y103_12 : (fI D H103 11 a0 12).toInt = (fI D s.heap 11 a0 12).toInt := congrArg Int32.toInt (Pa.f P103 (ne_role ga0 g5 (by decide)))
      have y103_13 : (fI D H103 11 a0 13).toInt = (fI D s.heap 11 a0 13).toInt := congrArg Int32.toInt (Pa.f P103 (ne_role ga0 g5 (by decide)))
      have y103_16 : (fI D H103 11 a0 16).toInt = (fI D s.heap 11 a0 16).toInt := congrArg Int32.toInt (Pa.f P103 (ne_role ga0 g5 (by decide)))
      have rs103 : 0 ≤ (fI D s.heap 11 a0 16).toInt ∧ (fI D s.heap 11 a0 16).toInt ≤ 400 := S.1.rng ga0 rfl (by decide) rfl
      have tk103 : Lr D s.heap H103 a0 x1.toInt.toNat := tk0.trans (Lr.ast S.1 ga0 P103 rfl ⟨by omega, by omega⟩ (by omega))
      have lb103 := ts0.cells S.1 ga0 g5 (by decide) (by decide) P103.2.2.1
      have ew : eI H103 (fR D H103 11 a0 1) v3.toInt.toNat = _ := eS S.1 ga0 P103 rfl rfl (by omega)
      refine lv_aload_n hx hb dX12_readLawLine_54 rfl (lv_at hl 1 rfl) ?_
      refine q_gr (T := TX12) C S103.1 ga0 1 kF_X12_13 dX12_readLawLine_55 rfl rfl (by decide) rfl (by decide) rfl (fun g104 => ?_)
      refine lv_iload_n hx hb dX12_readLawLine_58 rfl (lv_at hl 0 rfl) ?_
      have n105 : aN H103 (fR D H103 11 a0 1) = 2052 := len_31 S103.1 g104
      refine q_iald C S103.1 g104 (by omega) (by omega) dX12_readLawLine_59 rfl (by decide) ?_
      refine lv_topi (fun v106 ev106 => ?_)
      have ev59 := ev106
      have ez : v106.toInt = _ := congrArg Int32.toInt (ev59.trans ew)
      have kzm1 : ((-1) : Int32).toInt = -1 := by decide
      have kz0 : ((0) : Int32).toInt = 0 := by decide
      have kz1 : ((1) : Int32).toInt = 1 := by decide
      have kz2 : ((2) : Int32).toInt = 2 := by decide
      have k_0 : (0 : Int32).toInt = 0 := by decide
      refine lv_if_ge (tgt := 65) hx hb dX12_readLawLine_60 (by decide) (fun c107 => ?_) (fun c107 => ?_)
      · have b107 : (0 : Int32).toInt ≤ v106.toInt := i_le.mp c107
        have ys65 : ¬ srt T b = -1 := by omega
        have rb65 := lb103.rb1 (srt_k ys65)
        refine lv_aload_n hx hb dX12_readLawLine_65 rfl (lv_at hl 1 rfl) ?_
        refine q_gr (T := TX12) C S103.1 ga0 1 kF_X12_13 dX12_readLawLine_66 rfl rfl (by decide) rfl (by decide) rfl (fun g108 => ?_)
        refine lv_iload_n hx hb dX12_readLawLine_69 rfl (lv_at hl 0 rfl) ?_
        refine lv_iconst (v := 1) hx hb dX12_readLawLine_70 (by decide) ?_
        have k_1 : (1 : Int32).toInt = 1 := by decide
        refine lv_iadd hx hb dX12_readLawLine_71 ?_
        refine lv_topi (fun v109 ev109 => ?_)
        have f110 : v109.toInt = v3.toInt + (1 : Int32).toInt := by rw [ev109]; exact i_add (by omega) (by omega)
        refine lv_aload_n hx hb dX12_readLawLine_72 rfl (lv_at hl 1 rfl) ?_
        refine q_gr (T := TX12) C S103.1 ga0 1 kF_X12_13 dX12_readLawLine_73 rfl rfl (by decide) rfl (by decide) rfl (fun g111 => ?_)
        refine lv_iload_n hx hb dX12_readLawLine_76 rfl (lv_at hl 0 rfl) ?_
        refine q_iald C S103.1 g111 (by omega) (by omega) dX12_readLawLine_77 rfl (by decide) ?_
        refine lv_topi (fun v112 ev112 => ?_)
        have ev77 := ev112
        have ez7 : v112.toInt = _ := congrArg Int32.toInt (ev77.trans ew)
        refine lv_iconst (v := 1) hx hb dX12_readLawLine_78 (by decide) ?_
        refine lv_icmp_ne (tgt := 86) hx hb dX12_readLawLine_79 (by decide) (fun c113 => ?_) (fun c113 => ?_)
        · have b113 : ¬ v112.toInt = (1 : Int32).toInt := fun z9 => c113 (i_eq.mpr z9)
          have yf114 : ¬ srt T b = 1 := by omega
          refine lv_aload_n hx hb dX12_readLawLine_86 rfl (lv_at hl 1 rfl) ?_
          refine lv_iconst (v := 0) hx hb dX12_readLawLine_87 (by decide) ?_
          refine lv_bipush (v := 99) hx hb dX12_readLawLine_88 (by decide) ?_
          have k_99 : (99 : Int32).toInt = 99 := by decide
          refine callV_Ei C S103 (c_X12_number_f l D G a0 (0 : Int32) (99 : Int32) 0 99 T (nx T b) ga0 (by omega) (by omega) (by omega) (by omega)) kV_X12_109 ga0 (⟨trivial, rb65⟩) (by decide +kernel) dX12_readLawLine_90 hl.1 rfl rfl (by decide) cd_X12_number ⟨Nat.le_of_ble_eq_true rfl, Nat.le_of_ble_eq_true rfl, Nat.le_of_ble_eq_true rfl, Nat.le_of_ble_eq_true rfl, Nat.le_of_ble_eq_true rfl⟩ (fun v115 H115 L115 S115 K115 q115 => ?_)
          obtain ⟨q115, fq115⟩ := q115
          have y115_13 : (fI D H115 11 a0 13).toInt = (fI D H103 11 a0 13).toInt := congrArg Int32.toInt (K115.fI ga0 rfl (by decide) (by decide +kernel))
          have y115_16 : (fI D H115 11 a0 16).toInt = (fI D H103 11 a0 16).toInt := congrArg Int32.toInt (K115.fI ga0 rfl (by decide) (by decide +kernel))
          have lq115 : Lq D H103 H115 a0 := Lq.keep S103.1 ga0 K115 (by decide +kernel) (by decide +kernel) (by decide +kernel)
          have tk115 : Lr D s.heap H115 a0 x1.toInt.toNat := tk103.trans (Lr.of lq115)
          rcases fq115 with ⟨z115, y115, ts115, bg115⟩ | ⟨z115, y115, wr115⟩
          · skip
            have n116 : aN H115 (fR D H103 11 a0 1) = 2052 := len_31 S115.1 g108
            refine q_iast C S115 g108 (by omega) (by omega) dX12_readLawLine_93 rfl (by decide) (by decide +kernel) (fun _ _ h => wk_high _ _ (by omega) h) (fun H117 L117 S117 P117 => ?_) (hs := fun _ => Or.inr (vy_no (by omega) (by omega) (by omega) (by omega) (fun h9 hh9 => by omega) (fun j9 hj9 => by omega)))
            have y117_10 : (fI D H117 11 a0 10).toInt = (fI D H115 11 a0 10).toInt := congrArg Int32.toInt (Pa.f P117 (ne_role ga0 g108 (by decide)))
            have y117_12 : (fI D H117 11 a0 12).toInt = (fI D H115 11 a0 12).toInt := congrArg Int32.toInt (Pa.f P117 (ne_role ga0 g108 (by decide)))
            have y117_13 : (fI D H117 11 a0 13).toInt = (fI D H115 11 a0 13).toInt := congrArg Int32.toInt (Pa.f P117 (ne_role ga0 g108 (by decide)))
            have y117_16 : (fI D H117 11 a0 16).toInt = (fI D H115 11 a0 16).toInt := congrArg Int32.toInt (Pa.f P117 (ne_role ga0 g108 (by decide)))
            have rs117 : 0 ≤ (fI D H115 11 a0 16).toInt ∧ (fI D H115 11 a0 16).toInt ≤ 400 := S115.1.rng ga0 rfl (by decide) rfl
            have tk117 : Lr D s.heap H117 a0 x1.toInt.toNat := tk115.trans (Lr.ast S115.1 ga0 P117 ((S103.2.1.fR ga0 rfl (by decide) (by decide +kernel)).trans (S115.2.1.fR ga0 rfl (by decide) (by decide +kernel)).symm) ⟨by omega, by omega⟩ (by omega))
            have rb117 := ts115.cells S115.1 ga0 g108 (by decide) (by decide) P117.2.2.1
            have ew2 := eS S115.1 ga0 P117 ((S103.2.1.fR ga0 rfl (by decide) (by decide +kernel)).trans (S115.2.1.fR ga0 rfl (by decide) (by decide +kernel)).symm) rfl (by omega)
            refine lv_aload_n hx hb dX12_readLawLine_94 rfl (lv_at hl 1 rfl) ?_
            refine q_gr (T := TX12) C S117.1 ga0 1 kF_X12_13 dX12_readLawLine_95 rfl rfl (by decide) rfl (by decide) rfl (fun g118 => ?_)
            refine lv_iload_n hx hb dX12_readLawLine_98 rfl (lv_at hl 0 rfl) ?_
            refine lv_iconst (v := 1) hx hb dX12_readLawLine_99 (by decide) ?_
            refine lv_iadd hx hb dX12_readLawLine_100 ?_
            refine lv_topi (fun v119 ev119 => ?_)
            have f120 : v119.toInt = v3.toInt + (1 : Int32).toInt := by rw [ev119]; exact i_add (by omega) (by omega)
            have n121 : aN H117 (fR D H117 11 a0 1) = 2052 := len_31 S117.1 g118
            refine q_iald C S117.1 g118 (by omega) (by omega) dX12_readLawLine_101 rfl (by decide) ?_
            refine lv_topi (fun v122 ev122 => ?_)
            have ev101 := ev122
            have ez2 : v122.toInt = v115.toInt := congrArg Int32.toInt (ev101.trans ((congrArg (fun i9 => eI H117 (fR D H117 11 a0 1) i9) (show v119.toInt.toNat = v109.toInt.toNat by omega)).trans ew2))
            refine lv_if_ge (tgt := 107) hx hb dX12_readLawLine_102 (by decide) (fun c123 => ?_) (fun c123 => ?_)
            · have b123 : (0 : Int32).toInt ≤ v122.toInt := i_le.mp c123
              refine lv_aload_n hx hb dX12_readLawLine_107 rfl (lv_at hl 1 rfl) ?_
              refine q_gr (T := TX12) C S117.1 ga0 1 kF_X12_13 dX12_readLawLine_108 rfl rfl (by decide) rfl (by decide) rfl (fun g124 => ?_)
              refine lv_iload_n hx hb dX12_readLawLine_111 rfl (lv_at hl 0 rfl) ?_
              refine lv_iconst (v := 2) hx hb dX12_readLawLine_112 (by decide) ?_
              have k_2 : (2 : Int32).toInt = 2 := by decide
              refine lv_iadd hx hb dX12_readLawLine_113 ?_
              refine lv_topi (fun v125 ev125 => ?_)
              have f126 : v125.toInt = v3.toInt + (2 : Int32).toInt := by rw [ev125]; exact i_add (by omega) (by omega)
              refine lv_aload_n hx hb dX12_readLawLine_114 rfl (lv_at hl 1 rfl) ?_
              refine q_gi (T := TX12) C S117.1 ga0 16 kF_X12_182 dX12_readLawLine_115 rfl rfl (by decide) rfl (by decide) rfl ?_
              have r127 : 0 ≤ (fI D H117 11 a0 16).toInt ∧ (fI D H117 11 a0 16).toInt ≤ 400 := S117.1.rng ga0 rfl (by decide) rfl
              refine q_iast C S117 g124 (by omega) (by omega) dX12_readLawLine_118 rfl (by decide) (by decide +kernel) (fun _ _ h => wk_high _ _ (by omega) h) (fun H128 L128 S128 P128 => ?_) (hs := fun _ => Or.inr (vy_no (by omega) (by omega) (by omega) (by omega) (fun h9 hh9 => by omega) (fun j9 hj9 => by omega)))
              have y128_10 : (fI D H128 11 a0 10).toInt = (fI D H117 11 a0 10).toInt := congrArg Int32.toInt (Pa.f P128 (ne_role ga0 g124 (by decide)))
              have y128_12 : (fI D H128 11 a0 12).toInt = (fI D H117 11 a0 12).toInt := congrArg Int32.toInt (Pa.f P128 (ne_role ga0 g124 (by decide)))
              have y128_13 : (fI D H128 11 a0 13).toInt = (fI D H117 11 a0 13).toInt := congrArg Int32.toInt (Pa.f P128 (ne_role ga0 g124 (by decide)))
              have y128_16 : (fI D H128 11 a0 16).toInt = (fI D H117 11 a0 16).toInt := congrArg Int32.toInt (Pa.f P128 (ne_role ga0 g124 (by decide)))
              have rs128 : 0 ≤ (fI D H117 11 a0 16).toInt ∧ (fI D H117 11 a0 16).toInt ≤ 400 := S117.1.rng ga0 rfl (by decide) rfl
              have tk128 : Lr D s.heap H128 a0 x1.toInt.toNat := tk117.trans (Lr.ast S117.1 ga0 P128 rfl ⟨by omega, by omega⟩ (by omega))
              have rb128 := rb117.cells S117.1 ga0 g124 (by decide) (by decide) P128.2.2.1
              have zb128 : (eI H128 (fR D H128 11 a0 1) (1206 + 4 * x1.toInt.toNat)).toInt = (fI D H117 11 a0 16).toInt := congrArg Int32.toInt (eS S117.1 ga0 P128 rfl (by omega) (by omega))
              refine lv_aload_n hx hb dX12_readLawLine_119 rfl (lv_at hl 1 rfl) ?_
              refine lv_iconst (v := 0) hx hb dX12_readLawLine_120 (by decide) ?_
              refine q_put (T := TX12) C S128 ga0 13 kF_X12_197 dX12_readLawLine_121 rfl rfl (by decide) (by decide) rfl rfl rfl rfl rfl (vok_i rfl (by omega) (by omega)) (by decide +kernel) (fun H129 L129 S129 P129 => ?_)
              have y129_10 : (fI D H129 11 a0 10).toInt = (fI D H128 11 a0 10).toInt := congrArg Int32.toInt (Pt.o P129 (by decide) (by decide))
              have y129_12 : (fI D H129 11 a0 12).toInt = (fI D H128 11 a0 12).toInt := congrArg Int32.toInt (Pt.o P129 (by decide) (by decide))
              have y129_13 : (fI D H129 11 a0 13).toInt = (0 : Int32).toInt := congrArg Int32.toInt (Pt.i P129)
              have y129_16 : (fI D H129 11 a0 16).toInt = (fI D H128 11 a0 16).toInt := congrArg Int32.toInt (Pt.o P129 (by decide) (by decide))
              have lq129 : Lq D H128 H129 a0 := Lq.put S128.1 ga0 P129 (by decide) (by decide)
              have tk129 : Lr D s.heap H129 a0 x1.toInt.toNat := tk128.trans (Lr.of lq129)
              have rb129 := rb128.put S128.1 ga0 P129 (by decide) (by decide) (by decide)
              refine lv_aload_n hx hb dX12_readLawLine_124 rfl (lv_at hl 1 rfl) ?_
              refine q_lds C ks_X12_227 dX12_readLawLine_125 (fun a130 ha130 wa130 => ?_)
              refine callV_Ei C S129 (c_X12_passes_f l D G a0 a130 2 w_if T (nx T (nx T b)) ga0 ha130 (Wc.of wa130 kw_if) (by decide)) kV_X12_120 ga0 (⟨trivial, rb129⟩) (by decide +kernel) dX12_readLawLine_127 hl.1 rfl rfl (by decide) cd_X12_passes ⟨Nat.le_of_ble_eq_true rfl, Nat.le_of_ble_eq_true rfl, Nat.le_of_ble_eq_true rfl, Nat.le_of_ble_eq_true rfl, Nat.le_of_ble_eq_true rfl⟩ (fun v131 H131 L131 S131 K131 q131 => ?_)
              obtain ⟨q131, fq131⟩ := q131
              have y131_13 : (fI D H131 11 a0 13).toInt = (fI D H129 11 a0 13).toInt := congrArg Int32.toInt (K131.fI ga0 rfl (by decide) (by decide +kernel))
              have y131_16 : (fI D H131 11 a0 16).toInt = (fI D H129 11 a0 16).toInt := congrArg Int32.toInt (K131.fI ga0 rfl (by decide) (by decide +kernel))
              have lq131 : Lq D H129 H131 a0 := Lq.keep S129.1 ga0 K131 (by decide +kernel) (by decide +kernel) (by decide +kernel)
              have tk131 : Lr D s.heap H131 a0 x1.toInt.toNat := tk129.trans (Lr.of lq131)
              rcases fq131 with ⟨z131, y131, ts131, wr131⟩ | ⟨z131, y131, ts131, wr131⟩
              · skip
                refine lv_if_eq (tgt := 142) hx hb dX12_readLawLine_130 (by decide) (fun c132 => ?_) (fun c132 => ?_)
                · have b132 : v131.toInt = (0 : Int32).toInt := i_eq.mp c132
                  exact absurd b132 (by omega)
                · have b132 : ¬ v131.toInt = (0 : Int32).toInt := fun z9 => c132 (i_eq.mpr z9)
                  refine lv_aload_n hx hb dX12_readLawLine_133 rfl (lv_at hl 1 rfl) ?_
                  have rs9 : 0 ≤ (fI D H131 11 a0 16).toInt ∧ (fI D H131 11 a0 16).toInt ≤ 400 := S131.1.rng ga0 rfl (by decide) rfl
                  have rp9 : 0 ≤ (fI D H131 11 a0 10).toInt ∧ (fI D H131 11 a0 10).toInt ≤ 400 := S131.1.rng ga0 rfl (by decide) rfl
                  refine callV_Ei C S131 (c_X12_readCond_d0 l D G a0 T (nx T (nx T (nx T b))) ga0) kV_X12_200 ga0 (⟨⟨by omega, by omega⟩, ts131⟩) (by decide +kernel) dX12_readLawLine_134 hl.1 rfl rfl (by decide) cd_X12_readCond ⟨Nat.le_of_ble_eq_true rfl, Nat.le_of_ble_eq_true rfl, Nat.le_of_ble_eq_true rfl, Nat.le_of_ble_eq_true rfl, Nat.le_of_ble_eq_true rfl⟩ (fun v133 H133 L133 S133 K133 q133 => ?_)
                  obtain ⟨q133, fq133⟩ := q133
                  obtain ⟨q133, sa133, sx133, tq133⟩ := q133
                  have lq133 : Lq D H131 H133 a0 := tq133
                  have tk133 : Lr D s.heap H133 a0 x1.toInt.toNat := tk131.trans (Lr.of lq133)
                  rcases fq133 with ⟨c133, y133, z133, ts133⟩ | ⟨e133, y133, z133, wr133⟩
                  · skip
                    refine lv_if_ne (tgt := 142) hx hb dX12_readLawLine_137 (by decide) (fun c134 => ?_) (fun c134 => ?_)
                    · have b134 : ¬ v133.toInt = (0 : Int32).toInt := fun z9 => c134 (i_eq.mpr z9)
                      have rs9 : 0 ≤ (fI D H133 11 a0 16).toInt ∧ (fI D H133 11 a0 16).toInt ≤ 400 := S133.1.rng ga0 rfl (by decide) rfl
                      have rp9 : 0 ≤ (fI D H133 11 a0 10).toInt ∧ (fI D H133 11 a0 10).toInt ≤ 400 := S133.1.rng ga0 rfl (by decide) rfl
                      refine lv_aload_n hx hb dX12_readLawLine_142 rfl (lv_at hl 1 rfl) ?_
                      refine q_gr (T := TX12) C S133.1 ga0 1 kF_X12_13 dX12_readLawLine_143 rfl rfl (by decide) rfl (by decide) rfl (fun g135 => ?_)
                      refine lv_iload_n hx hb dX12_readLawLine_146 rfl (lv_at hl 0 rfl) ?_
                      refine lv_iconst (v := 3) hx hb dX12_readLawLine_147 (by decide) ?_
                      have k_3 : (3 : Int32).toInt = 3 := by decide
                      refine lv_iadd hx hb dX12_readLawLine_148 ?_
                      refine lv_topi (fun v136 ev136 => ?_)
                      have f137 : v136.toInt = v3.toInt + (3 : Int32).toInt := by rw [ev136]; exact i_add (by omega) (by omega)
                      refine lv_aload_n hx hb dX12_readLawLine_149 rfl (lv_at hl 1 rfl) ?_
                      refine q_gi (T := TX12) C S133.1 ga0 16 kF_X12_182 dX12_readLawLine_150 rfl rfl (by decide) rfl (by decide) rfl ?_
                      have r138 : 0 ≤ (fI D H133 11 a0 16).toInt ∧ (fI D H133 11 a0 16).toInt ≤ 400 := S133.1.rng ga0 rfl (by decide) rfl
                      have n139 : aN H133 (fR D H133 11 a0 1) = 2052 := len_31 S133.1 g135
                      refine q_iast C S133 g135 (by omega) (by omega) dX12_readLawLine_153 rfl (by decide) (by decide +kernel) (fun _ _ h => wk_high _ _ (by omega) h) (fun H140 L140 S140 P140 => ?_) (hs := fun _ => Or.inr (vy_no (by omega) (by omega) (by omega) (by omega) (fun h9 hh9 => by omega) (fun j9 hj9 => by omega)))
                      have y140_10 : (fI D H140 11 a0 10).toInt = (fI D H133 11 a0 10).toInt := congrArg Int32.toInt (Pa.f P140 (ne_role ga0 g135 (by decide)))
                      have y140_12 : (fI D H140 11 a0 12).toInt = (fI D H133 11 a0 12).toInt := congrArg Int32.toInt (Pa.f P140 (ne_role ga0 g135 (by decide)))
                      have y140_13 : (fI D H140 11 a0 13).toInt = (fI D H133 11 a0 13).toInt := congrArg Int32.toInt (Pa.f P140 (ne_role ga0 g135 (by decide)))
                      have y140_16 : (fI D H140 11 a0 16).toInt = (fI D H133 11 a0 16).toInt := congrArg Int32.toInt (Pa.f P140 (ne_role ga0 g135 (by decide)))
                      have rs140 : 0 ≤ (fI D H133 11 a0 16).toInt ∧ (fI D H133 11 a0 16).toInt ≤ 400 := S133.1.rng ga0 rfl (by decide) rfl
                      have tk140 : Lr D s.heap H140 a0 x1.toInt.toNat := tk133.trans (Lr.ast S133.1 ga0 P140 rfl ⟨by omega, by omega⟩ (by omega))
                      have rb140 := ts133.cells S133.1 ga0 g135 (by decide) (by decide) P140.2.2.1
                      refine lv_iconst (v := 1) hx hb dX12_readLawLine_154 (by decide) ?_
                      exact retE_z hQ C S140 hr dX12_readLawLine_155 (z01 (by omega) (by omega)) (⟨⟨by omega, fun _ => by omega, fun _ h9 => Dl.line (b := (fI D H117 11 a0 16).toInt.toNat) (e := (fI D H133 11 a0 16).toInt.toNat) h9 tk140 (by omega) rs0.1 (by show (eI H140 (fR D H140 11 a0 1) _).toInt = _; rw [eA S133.1 ga0 P140 (by omega) (by omega), show eI H133 (fR D H133 11 a0 1) (1206 + 4 * x1.toInt.toNat) = _ from ((lq129.trans lq131).trans lq133).2 _ (by omega)]; rw [zb128]; omega) (by show (eI H140 (fR D H140 11 a0 1) _).toInt = _; rw [eS S133.1 ga0 P140 rfl (by omega) (by omega)]; omega) (by have z9 := ((lq129.trans lq131).trans lq133).1; omega) (by show _ ≤ (fI D H140 11 a0 16).toInt; omega) (by have e9 : Ex (Cs D H133 a0) (fI D H117 11 a0 16).toInt.toNat (fI D H133 11 a0 16).toInt.toNat := (sx133 (by omega)).at (by omega) (by omega); exact e9.sk (fun k9 h9 => csA S133.1 ga0 P140 rfl (by omega) (by omega)))⟩, RR.ok (by simp [linF, numE, ys65, yf114, y115, y131, y133]) (by omega) rb140⟩)
                    · have b134 : v133.toInt = (0 : Int32).toInt := i_eq.mp c134
                      exact absurd b134 (by omega)
                  · skip
                    refine lv_if_ne (tgt := 142) hx hb dX12_readLawLine_137 (by decide) (fun c141 => ?_) (fun c141 => ?_)
                    · have b141 : ¬ v133.toInt = (0 : Int32).toInt := fun z9 => c141 (i_eq.mpr z9)
                      exact absurd b141 (by omega)
                    · have b141 : v133.toInt = (0 : Int32).toInt := i_eq.mp c141
                      refine lv_iconst (v := 0) hx hb dX12_readLawLine_140 (by decide) ?_
                      exact retE_z hQ C S133 hr dX12_readLawLine_141 (z01 (by omega) (by omega)) (⟨⟨by omega, fun h9 => absurd h9 (by decide), fun h9 => absurd h9 (by decide)⟩, RR.no (by simp [linF, numE, ys65, yf114, y115, y131, y133]) (by omega) wr133⟩)
              · skip
                refine lv_if_eq (tgt := 142) hx hb dX12_readLawLine_130 (by decide) (fun c142 => ?_) (fun c142 => ?_)
                · have b142 : v131.toInt = (0 : Int32).toInt := i_eq.mp c142
                  have rs9 : 0 ≤ (fI D H131 11 a0 16).toInt ∧ (fI D H131 11 a0 16).toInt ≤ 400 := S131.1.rng ga0 rfl (by decide) rfl
                  have rp9 : 0 ≤ (fI D H131 11 a0 10).toInt ∧ (fI D H131 11 a0 10).toInt ≤ 400 := S131.1.rng ga0 rfl (by decide) rfl
                  refine lv_aload_n hx hb dX12_readLawLine_142 rfl (lv_at hl 1 rfl) ?_
                  refine q_gr (T := TX12) C S131.1 ga0 1 kF_X12_13 dX12_readLawLine_143 rfl rfl (by decide) rfl (by decide) rfl (fun g143 => ?_)
                  refine lv_iload_n hx hb dX12_readLawLine_146 rfl (lv_at hl 0 rfl) ?_
                  refine lv_iconst (v := 3) hx hb dX12_readLawLine_147 (by decide) ?_
                  have k_3 : (3 : Int32).toInt = 3 := by decide
                  refine lv_iadd hx hb dX12_readLawLine_148 ?_
                  refine lv_topi (fun v144 ev144 => ?_)
                  have f145 : v144.toInt = v3.toInt + (3 : Int32).toInt := by rw [ev144]; exact i_add (by omega) (by omega)
                  refine lv_aload_n hx hb dX12_readLawLine_149 rfl (lv_at hl 1 rfl) ?_
                  refine q_gi (T := TX12) C S131.1 ga0 16 kF_X12_182 dX12_readLawLine_150 rfl rfl (by decide) rfl (by decide) rfl ?_
                  have r146 : 0 ≤ (fI D H131 11 a0 16).toInt ∧ (fI D H131 11 a0 16).toInt ≤ 400 := S131.1.rng ga0 rfl (by decide) rfl
                  have n147 : aN H131 (fR D H131 11 a0 1) = 2052 := len_31 S131.1 g143
                  refine q_iast C S131 g143 (by omega) (by omega) dX12_readLawLine_153 rfl (by decide) (by decide +kernel) (fun _ _ h => wk_high _ _ (by omega) h) (fun H148 L148 S148 P148 => ?_) (hs := fun _ => Or.inr (vy_no (by omega) (by omega) (by omega) (by omega) (fun h9 hh9 => by omega) (fun j9 hj9 => by omega)))
                  have y148_10 : (fI D H148 11 a0 10).toInt = (fI D H131 11 a0 10).toInt := congrArg Int32.toInt (Pa.f P148 (ne_role ga0 g143 (by decide)))
                  have y148_12 : (fI D H148 11 a0 12).toInt = (fI D H131 11 a0 12).toInt := congrArg Int32.toInt (Pa.f P148 (ne_role ga0 g143 (by decide)))
                  have y148_13 : (fI D H148 11 a0 13).toInt = (fI D H131 11 a0 13).toInt := congrArg Int32.toInt (Pa.f P148 (ne_role ga0 g143 (by decide)))
                  have y148_16 : (fI D H148 11 a0 16).toInt = (fI D H131 11 a0 16).toInt := congrArg Int32.toInt (Pa.f P148 (ne_role ga0 g143 (by decide)))
                  have rs148 : 0 ≤ (fI D H131 11 a0 16).toInt ∧ (fI D H131 11 a0 16).toInt ≤ 400 := S131.1.rng ga0 rfl (by decide) rfl
                  have tk148 : Lr D s.heap H148 a0 x1.toInt.toNat := tk131.trans (Lr.ast S131.1 ga0 P148 rfl ⟨by omega, by omega⟩ (by omega))
                  have rb148 := ts131.cells S131.1 ga0 g143 (by decide) (by decide) P148.2.2.1
                  have bg148 : (fI D H148 11 a0 12).toInt = (((nx T (nx T b)) : Nat) : Int) := by rw [Pa.f P148 (ne_role ga0 g143 (by decide))]; exact wr131
                  refine lv_iconst (v := 1) hx hb dX12_readLawLine_154 (by decide) ?_
                  exact retE_z hQ C S148 hr dX12_readLawLine_155 (z01 (by omega) (by omega)) (⟨⟨by omega, fun _ => by omega, fun _ h9 => Dl.line (b := (fI D H117 11 a0 16).toInt.toNat) (e := (fI D H131 11 a0 16).toInt.toNat) h9 tk148 (by omega) rs0.1 (by show (eI H148 (fR D H148 11 a0 1) _).toInt = _; rw [eA S131.1 ga0 P148 (by omega) (by omega), show eI H131 (fR D H131 11 a0 1) (1206 + 4 * x1.toInt.toNat) = _ from (lq129.trans lq131).2 _ (by omega)]; rw [zb128]; omega) (by show (eI H148 (fR D H148 11 a0 1) _).toInt = _; rw [eS S131.1 ga0 P148 rfl (by omega) (by omega)]; omega) (by have z9 := (lq129.trans lq131).1; omega) (by show _ ≤ (fI D H148 11 a0 16).toInt; omega) (by rw [show (fI D H131 11 a0 16).toInt.toNat - (fI D H117 11 a0 16).toInt.toNat = 0 by omega]; exact True.intro)⟩, RR.ok (by simp [linF, numE, ys65, yf114, y115, y131]) (by omega) rb148⟩)
                · have b142 : ¬ v131.toInt = (0 : Int32).toInt := fun z9 => c142 (i_eq.mpr z9)
                  exact absurd b142 (by omega)
            · have b123 : ¬ (0 : Int32).toInt ≤ v122.toInt := fun z9 => c123 (i_le.mpr z9)
              exact absurd b123 (by omega)
          · skip
            have n149 : aN H115 (fR D H103 11 a0 1) = 2052 := len_31 S115.1 g108
            refine q_iast C S115 g108 (by omega) (by omega) dX12_readLawLine_93 rfl (by decide) (by decide +kernel) (fun _ _ h => wk_high _ _ (by omega) h) (fun H150 L150 S150 P150 => ?_) (hs := fun _ => Or.inr (vy_no (by omega) (by omega) (by omega) (by omega) (fun h9 hh9 => by omega) (fun j9 hj9 => by omega)))
            have y150_10 : (fI D H150 11 a0 10).toInt = (fI D H115 11 a0 10).toInt := congrArg Int32.toInt (Pa.f P150 (ne_role ga0 g108 (by decide)))
            have y150_12 : (fI D H150 11 a0 12).toInt = (fI D H115 11 a0 12).toInt := congrArg Int32.toInt (Pa.f P150 (ne_role ga0 g108 (by decide)))
            have y150_13 : (fI D H150 11 a0 13).toInt = (fI D H115 11 a0 13).toInt := congrArg Int32.toInt (Pa.f P150 (ne_role ga0 g108 (by decide)))
            have y150_16 : (fI D H150 11 a0 16).toInt = (fI D H115 11 a0 16).toInt := congrArg Int32.toInt (Pa.f P150 (ne_role ga0 g108 (by decide)))
            have rs150 : 0 ≤ (fI D H115 11 a0 16).toInt ∧ (fI D H115 11 a0 16).toInt ≤ 400 := S115.1.rng ga0 rfl (by decide) rfl
            have tk150 : Lr D s.heap H150 a0 x1.toInt.toNat := tk115.trans (Lr.ast S115.1 ga0 P150 ((S103.2.1.fR ga0 rfl (by decide) (by decide +kernel)).trans (S115.2.1.fR ga0 rfl (by decide) (by decide +kernel)).symm) ⟨by omega, by omega⟩ (by omega))
            have bg150 : (fI D H150 11 a0 12).toInt = (((nx T b) : Nat) : Int) := by rw [Pa.f P150 (ne_role ga0 g108 (by decide))]; exact wr115
            have ew2 := eS S115.1 ga0 P150 ((S103.2.1.fR ga0 rfl (by decide) (by decide +kernel)).trans (S115.2.1.fR ga0 rfl (by decide) (by decide +kernel)).symm) rfl (by omega)
            refine lv_aload_n hx hb dX12_readLawLine_94 rfl (lv_at hl 1 rfl) ?_
            refine q_gr (T := TX12) C S150.1 ga0 1 kF_X12_13 dX12_readLawLine_95 rfl rfl (by decide) rfl (by decide) rfl (fun g151 => ?_)
            refine lv_iload_n hx hb dX12_readLawLine_98 rfl (lv_at hl 0 rfl) ?_
            refine lv_iconst (v := 1) hx hb dX12_readLawLine_99 (by decide) ?_
            refine lv_iadd hx hb dX12_readLawLine_100 ?_
            refine lv_topi (fun v152 ev152 => ?_)
            have f153 : v152.toInt = v3.toInt + (1 : Int32).toInt := by rw [ev152]; exact i_add (by omega) (by omega)
            have n154 : aN H150 (fR D H150 11 a0 1) = 2052 := len_31 S150.1 g151
            refine q_iald C S150.1 g151 (by omega) (by omega) dX12_readLawLine_101 rfl (by decide) ?_
            refine lv_topi (fun v155 ev155 => ?_)
            have ev101 := ev155
            have ez2 : v155.toInt = v115.toInt := congrArg Int32.toInt (ev101.trans ((congrArg (fun i9 => eI H150 (fR D H150 11 a0 1) i9) (show v152.toInt.toNat = v109.toInt.toNat by omega)).trans ew2))
            refine lv_if_ge (tgt := 107) hx hb dX12_readLawLine_102 (by decide) (fun c156 => ?_) (fun c156 => ?_)
            · have b156 : (0 : Int32).toInt ≤ v155.toInt := i_le.mp c156
              exact absurd b156 (by omega)
            · have b156 : ¬ (0 : Int32).toInt ≤ v155.toInt := fun z9 => c156 (i_le.mpr z9)
              refine lv_iconst (v := 0) hx hb dX12_readLawLine_105 (by decide) ?_
              exact retE_z hQ C S150 hr dX12_readLawLine_106 (z01 (by omega) (by omega)) (⟨⟨by omega, fun h9 => absurd h9 (by decide), fun h9 => absurd h9 (by decide)⟩, RR.no (by simp [linF, numE, ys65, yf114, y115]) (by omega) bg150⟩)
        · have b113 : v112.toInt = (1 : Int32).toInt := i_eq.mp c113
          have yf157 : srt T b = 1 := by omega
          refine lv_iconst (v := 1) hx hb dX12_readLawLine_82 (by decide) ?_
          refine lv_goto (tgt := 93) hx hb dX12_readLawLine_83 (by decide) ?_
          refine q_iast C S103 g108 (by omega) (by omega) dX12_readLawLine_93 rfl (by decide) (by decide +kernel) (fun _ _ h => wk_high _ _ (by omega) h) (fun H158 L158 S158 P158 => ?_) (hs := fun _ => Or.inr (vy_no (by omega) (by omega) (by omega) (by omega) (fun h9 hh9 => by omega) (fun j9 hj9 => by omega)))
          have y158_10 : (fI D H158 11 a0 10).toInt = (fI D H103 11 a0 10).toInt := congrArg Int32.toInt (Pa.f P158 (ne_role ga0 g108 (by decide)))
          have y158_12 : (fI D H158 11 a0 12).toInt = (fI D H103 11 a0 12).toInt := congrArg Int32.toInt (Pa.f P158 (ne_role ga0 g108 (by decide)))
          have y158_13 : (fI D H158 11 a0 13).toInt = (fI D H103 11 a0 13).toInt := congrArg Int32.toInt (Pa.f P158 (ne_role ga0 g108 (by decide)))
          have y158_16 : (fI D H158 11 a0 16).toInt = (fI D H103 11 a0 16).toInt := congrArg Int32.toInt (Pa.f P158 (ne_role ga0 g108 (by decide)))
          have rs158 : 0 ≤ (fI D H103 11 a0 16).toInt ∧ (fI D H103 11 a0 16).toInt ≤ 400 := S103.1.rng ga0 rfl (by decide) rfl
          have tk158 : Lr D s.heap H158 a0 x1.toInt.toNat := tk103.trans (Lr.ast S103.1 ga0 P158 rfl ⟨by omega, by omega⟩ (by omega))
          have rb158 := rb65.cells S103.1 ga0 g108 (by decide) (by decide) P158.2.2.1
          have ew2 := eS S103.1 ga0 P158 rfl rfl (by omega)
          refine lv_aload_n hx hb dX12_readLawLine_94 rfl (lv_at hl 1 rfl) ?_
          refine q_gr (T := TX12) C S158.1 ga0 1 kF_X12_13 dX12_readLawLine_95 rfl rfl (by decide) rfl (by decide) rfl (fun g159 => ?_)
          refine lv_iload_n hx hb dX12_readLawLine_98 rfl (lv_at hl 0 rfl) ?_
          refine lv_iconst (v := 1) hx hb dX12_readLawLine_99 (by decide) ?_
          refine lv_iadd hx hb dX12_readLawLine_100 ?_
          refine lv_topi (fun v160 ev160 => ?_)
          have f161 : v160.toInt = v3.toInt + (1 : Int32).toInt := by rw [ev160]; exact i_add (by omega) (by omega)
          have n162 : aN H158 (fR D H158 11 a0 1) = 2052 := len_31 S158.1 g159
          refine q_iald C S158.1 g159 (by omega) (by omega) dX12_readLawLine_101 rfl (by decide) ?_
          refine lv_topi (fun v163 ev163 => ?_)
          have ev101 := ev163
          have ez2 : v163.toInt = (1 : Int32).toInt := congrArg Int32.toInt (ev101.trans ((congrArg (fun i9 => eI H158 (fR D H158 11 a0 1) i9) (show v160.toInt.toNat = v109.toInt.toNat by omega)).trans ew2))
          refine lv_if_ge (tgt := 107) hx hb dX12_readLawLine_102 (by decide) (fun c164 => ?_) (fun c164 => ?_)
          · have b164 : (0 : Int32).toInt ≤ v163.toInt := i_le.mp c164
            refine lv_aload_n hx hb dX12_readLawLine_107 rfl (lv_at hl 1 rfl) ?_
            refine q_gr (T := TX12) C S158.1 ga0 1 kF_X12_13 dX12_readLawLine_108 rfl rfl (by decide) rfl (by decide) rfl (fun g165 => ?_)
            refine lv_iload_n hx hb dX12_readLawLine_111 rfl (lv_at hl 0 rfl) ?_
            refine lv_iconst (v := 2) hx hb dX12_readLawLine_112 (by decide) ?_
            have k_2 : (2 : Int32).toInt = 2 := by decide
            refine lv_iadd hx hb dX12_readLawLine_113 ?_
            refine lv_topi (fun v166 ev166 => ?_)
            have f167 : v166.toInt = v3.toInt + (2 : Int32).toInt := by rw [ev166]; exact i_add (by omega) (by omega)
            refine lv_aload_n hx hb dX12_readLawLine_114 rfl (lv_at hl 1 rfl) ?_
            refine q_gi (T := TX12) C S158.1 ga0 16 kF_X12_182 dX12_readLawLine_115 rfl rfl (by decide) rfl (by decide) rfl ?_
            have r168 : 0 ≤ (fI D H158 11 a0 16).toInt ∧ (fI D H158 11 a0 16).toInt ≤ 400 := S158.1.rng ga0 rfl (by decide) rfl
            refine q_iast C S158 g165 (by omega) (by omega) dX12_readLawLine_118 rfl (by decide) (by decide +kernel) (fun _ _ h => wk_high _ _ (by omega) h) (fun H169 L169 S169 P169 => ?_) (hs := fun _ => Or.inr (vy_no (by omega) (by omega) (by omega) (by omega) (fun h9 hh9 => by omega) (fun j9 hj9 => by omega)))
            have y169_10 : (fI D H169 11 a0 10).toInt = (fI D H158 11 a0 10).toInt := congrArg Int32.toInt (Pa.f P169 (ne_role ga0 g165 (by decide)))
            have y169_12 : (fI D H169 11 a0 12).toInt = (fI D H158 11 a0 12).toInt := congrArg Int32.toInt (Pa.f P169 (ne_role ga0 g165 (by decide)))
            have y169_13 : (fI D H169 11 a0 13).toInt = (fI D H158 11 a0 13).toInt := congrArg Int32.toInt (Pa.f P169 (ne_role ga0 g165 (by decide)))
            have y169_16 : (fI D H169 11 a0 16).toInt = (fI D H158 11 a0 16).toInt := congrArg Int32.toInt (Pa.f P169 (ne_role ga0 g165 (by decide)))
            have rs169 : 0 ≤ (fI D H158 11 a0 16).toInt ∧ (fI D H158 11 a0 16).toInt ≤ 400 := S158.1.rng ga0 rfl (by decide) rfl
            have tk169 : Lr D s.heap H169 a0 x1.toInt.toNat := tk158.trans (Lr.ast S158.1 ga0 P169 rfl ⟨by omega, by omega⟩ (by omega))
            have rb169 := rb158.cells S158.1 ga0 g165 (by decide) (by decide) P169.2.2.1
            have zb169 : (eI H169 (fR D H169 11 a0 1) (1206 + 4 * x1.toInt.toNat)).toInt = (fI D H158 11 a0 16).toInt := congrArg Int32.toInt (eS S158.1 ga0 P169 rfl (by omega) (by omega))
            refine lv_aload_n hx hb dX12_readLawLine_119 rfl (lv_at hl 1 rfl) ?_
            refine lv_iconst (v := 0) hx hb dX12_readLawLine_120 (by decide) ?_
            refine q_put (T := TX12) C S169 ga0 13 kF_X12_197 dX12_readLawLine_121 rfl rfl (by decide) (by decide) rfl rfl rfl rfl rfl (vok_i rfl (by omega) (by omega)) (by decide +kernel) (fun H170 L170 S170 P170 => ?_)
            have y170_10 : (fI D H170 11 a0 10).toInt = (fI D H169 11 a0 10).toInt := congrArg Int32.toInt (Pt.o P170 (by decide) (by decide))
            have y170_12 : (fI D H170 11 a0 12).toInt = (fI D H169 11 a0 12).toInt := congrArg Int32.toInt (Pt.o P170 (by decide) (by decide))
            have y170_13 : (fI D H170 11 a0 13).toInt = (0 : Int32).toInt := congrArg Int32.toInt (Pt.i P170)
            have y170_16 : (fI D H170 11 a0 16).toInt = (fI D H169 11 a0 16).toInt := congrArg Int32.toInt (Pt.o P170 (by decide) (by decide))
            have lq170 : Lq D H169 H170 a0 := Lq.put S169.1 ga0 P170 (by decide) (by decide)
            have tk170 : Lr D s.heap H170 a0 x1.toInt.toNat := tk169.trans (Lr.of lq170)
            have rb170 := rb169.put S169.1 ga0 P170 (by decide) (by decide) (by decide)
            refine lv_aload_n hx hb dX12_readLawLine_124 rfl (lv_at hl 1 rfl) ?_
            refine q_lds C ks_X12_227 dX12_readLawLine_125 (fun a171 ha171 wa171 => ?_)
            refine callV_Ei C S170 (c_X12_passes_f l D G a0 a171 2 w_if T (nx T b) ga0 ha171 (Wc.of wa171 kw_if) (by decide)) kV_X12_120 ga0 (⟨trivial, rb170⟩) (by decide +kernel) dX12_readLawLine_127 hl.1 rfl rfl (by decide) cd_X12_passes ⟨Nat.le_of_ble_eq_true rfl, Nat.le_of_ble_eq_true rfl, Nat.le_of_ble_eq_true rfl, Nat.le_of_ble_eq_true rfl, Nat.le_of_ble_eq_true rfl⟩ (fun v172 H172 L172 S172 K172 q172 => ?_)
            obtain ⟨q172, fq172⟩ := q172
            have y172_13 : (fI D H172 11 a0 13).toInt = (fI D H170 11 a0 13).toInt := congrArg Int32.toInt (K172.fI ga0 rfl (by decide) (by decide +kernel))
            have y172_16 : (fI D H172 11 a0 16).toInt = (fI D H170 11 a0 16).toInt := congrArg Int32.toInt (K172.fI ga0 rfl (by decide) (by decide +kernel))
            have lq172 : Lq D H170 H172 a0 := Lq.keep S170.1 ga0 K172 (by decide +kernel) (by decide +kernel) (by decide +kernel)
            have tk172 : Lr D s.heap H172 a0 x1.toInt.toNat := tk170.trans (Lr.of lq172)
            rcases fq172 with ⟨z172, y172, ts172, wr172⟩ | ⟨z172, y172, ts172, wr172⟩
            · skip
              refine lv_if_eq (tgt := 142) hx hb dX12_readLawLine_130 (by decide) (fun c173 => ?_) (fun c173 => ?_)
              · have b173 : v172.toInt = (0 : Int32).toInt := i_eq.mp c173
                exact absurd b173 (by omega)
              · have b173 : ¬ v172.toInt = (0 : Int32).toInt := fun z9 => c173 (i_eq.mpr z9)
                refine lv_aload_n hx hb dX12_readLawLine_133 rfl (lv_at hl 1 rfl) ?_
                have rs9 : 0 ≤ (fI D H172 11 a0 16).toInt ∧ (fI D H172 11 a0 16).toInt ≤ 400 := S172.1.rng ga0 rfl (by decide) rfl
                have rp9 : 0 ≤ (fI D H172 11 a0 10).toInt ∧ (fI D H172 11 a0 10).toInt ≤ 400 := S172.1.rng ga0 rfl (by decide) rfl
                refine callV_Ei C S172 (c_X12_readCond_d0 l D G a0 T (nx T (nx T b)) ga0) kV_X12_200 ga0 (⟨⟨by omega, by omega⟩, ts172⟩) (by decide +kernel) dX12_readLawLine_134 hl.1 rfl rfl (by decide) cd_X12_readCond ⟨Nat.le_of_ble_eq_true rfl, Nat.le_of_ble_eq_true rfl, Nat.le_of_ble_eq_true rfl, Nat.le_of_ble_eq_true rfl, Nat.le_of_ble_eq_true rfl⟩ (fun v174 H174 L174 S174 K174 q174 => ?_)
                obtain ⟨q174, fq174⟩ := q174
                obtain ⟨q174, sa174, sx174, tq174⟩ := q174
                have lq174 : Lq D H172 H174 a0 := tq174
                have tk174 : Lr D s.heap H174 a0 x1.toInt.toNat := tk172.trans (Lr.of lq174)
                rcases fq174 with ⟨c174, y174, z174, ts174⟩ | ⟨e174, y174, z174, wr174⟩
                · skip
                  refine lv_if_ne (tgt := 142) hx hb dX12_readLawLine_137 (by decide) (fun c175 => ?_) (fun c175 => ?_)
                  · have b175 : ¬ v174.toInt = (0 : Int32).toInt := fun z9 => c175 (i_eq.mpr z9)
                    have rs9 : 0 ≤ (fI D H174 11 a0 16).toInt ∧ (fI D H174 11 a0 16).toInt ≤ 400 := S174.1.rng ga0 rfl (by decide) rfl
                    have rp9 : 0 ≤ (fI D H174 11 a0 10).toInt ∧ (fI D H174 11 a0 10).toInt ≤ 400 := S174.1.rng ga0 rfl (by decide) rfl
                    refine lv_aload_n hx hb dX12_readLawLine_142 rfl (lv_at hl 1 rfl) ?_
                    refine q_gr (T := TX12) C S174.1 ga0 1 kF_X12_13 dX12_readLawLine_143 rfl rfl (by decide) rfl (by decide) rfl (fun g176 => ?_)
                    refine lv_iload_n hx hb dX12_readLawLine_146 rfl (lv_at hl 0 rfl) ?_
                    refine lv_iconst (v := 3) hx hb dX12_readLawLine_147 (by decide) ?_
                    have k_3 : (3 : Int32).toInt = 3 := by decide
                    refine lv_iadd hx hb dX12_readLawLine_148 ?_
                    refine lv_topi (fun v177 ev177 => ?_)
                    have f178 : v177.toInt = v3.toInt + (3 : Int32).toInt := by rw [ev177]; exact i_add (by omega) (by omega)
                    refine lv_aload_n hx hb dX12_readLawLine_149 rfl (lv_at hl 1 rfl) ?_
                    refine q_gi (T := TX12) C S174.1 ga0 16 kF_X12_182 dX12_readLawLine_150 rfl rfl (by decide) rfl (by decide) rfl ?_
                    have r179 : 0 ≤ (fI D H174 11 a0 16).toInt ∧ (fI D H174 11 a0 16).toInt ≤ 400 := S174.1.rng ga0 rfl (by decide) rfl
                    have n180 : aN H174 (fR D H174 11 a0 1) = 2052 := len_31 S174.1 g176
                    refine q_iast C S174 g176 (by omega) (by omega) dX12_readLawLine_153 rfl (by decide) (by decide +kernel) (fun _ _ h => wk_high _ _ (by omega) h) (fun H181 L181 S181 P181 => ?_) (hs := fun _ => Or.inr (vy_no (by omega) (by omega) (by omega) (by omega) (fun h9 hh9 => by omega) (fun j9 hj9 => by omega)))
                    have y181_10 : (fI D H181 11 a0 10).toInt = (fI D H174 11 a0 10).toInt := congrArg Int32.toInt (Pa.f P181 (ne_role ga0 g176 (by decide)))
                    have y181_12 : (fI D H181 11 a0 12).toInt = (fI D H174 11 a0 12).toInt := congrArg Int32.toInt (Pa.f P181 (ne_role ga0 g176 (by decide)))
                    have y181_13 : (fI D H181 11 a0 13).toInt = (fI D H174 11 a0 13).toInt := congrArg Int32.toInt (Pa.f P181 (ne_role ga0 g176 (by decide)))
                    have y181_16 : (fI D H181 11 a0 16).toInt = (fI D H174 11 a0 16).toInt := congrArg Int32.toInt (Pa.f P181 (ne_role ga0 g176 (by decide)))
                    have rs181 : 0 ≤ (fI D H174 11 a0 16).toInt ∧ (fI D H174 11 a0 16).toInt ≤ 400 := S174.1.rng ga0 rfl (by decide) rfl
                    have tk181 : Lr D s.heap H181 a0 x1.toInt.toNat := tk174.trans (Lr.ast S174.1 ga0 P181 rfl ⟨by omega, by omega⟩ (by omega))
                    have rb181 := ts174.cells S174.1 ga0 g176 (by decide) (by decide) P181.2.2.1
                    refine lv_iconst (v := 1) hx hb dX12_readLawLine_154 (by decide) ?_
                    exact retE_z hQ C S181 hr dX12_readLawLine_155 (z01 (by omega) (by omega)) (⟨⟨by omega, fun _ => by omega, fun _ h9 => Dl.line (b := (fI D H158 11 a0 16).toInt.toNat) (e := (fI D H174 11 a0 16).toInt.toNat) h9 tk181 (by omega) rs0.1 (by show (eI H181 (fR D H181 11 a0 1) _).toInt = _; rw [eA S174.1 ga0 P181 (by omega) (by omega), show eI H174 (fR D H174 11 a0 1) (1206 + 4 * x1.toInt.toNat) = _ from ((lq170.trans lq172).trans lq174).2 _ (by omega)]; rw [zb169]; omega) (by show (eI H181 (fR D H181 11 a0 1) _).toInt = _; rw [eS S174.1 ga0 P181 rfl (by omega) (by omega)]; omega) (by have z9 := ((lq170.trans lq172).trans lq174).1; omega) (by show _ ≤ (fI D H181 11 a0 16).toInt; omega) (by have e9 : Ex (Cs D H174 a0) (fI D H158 11 a0 16).toInt.toNat (fI D H174 11 a0 16).toInt.toNat := (sx174 (by omega)).at (by omega) (by omega); exact e9.sk (fun k9 h9 => csA S174.1 ga0 P181 rfl (by omega) (by omega)))⟩, RR.ok (by simp [linF, numE, ys65, yf157, y172, y174]) (by omega) rb181⟩)
                  · have b175 : v174.toInt = (0 : Int32).toInt := i_eq.mp c175
                    exact absurd b175 (by omega)
                · skip
                  refine lv_if_ne (tgt := 142) hx hb dX12_readLawLine_137 (by decide) (fun c182 => ?_) (fun c182 => ?_)
                  · have b182 : ¬ v174.toInt = (0 : Int32).toInt := fun z9 => c182 (i_eq.mpr z9)
                    exact absurd b182 (by omega)
                  · have b182 : v174.toInt = (0 : Int32).toInt := i_eq.mp c182
                    refine lv_iconst (v := 0) hx hb dX12_readLawLine_140 (by decide) ?_
                    exact retE_z hQ C S174 hr dX12_readLawLine_141 (z01 (by omega) (by omega)) (⟨⟨by omega, fun h9 => absurd h9 (by decide), fun h9 => absurd h9 (by decide)⟩, RR.no (by simp [linF, numE, ys65, yf157, y172, y174]) (by omega) wr174⟩)
            · skip
              refine lv_if_eq (tgt := 142) hx hb dX12_readLawLine_130 (by decide) (fun c183 => ?_) (fun c183 => ?_)
              · have b183 : v172.toInt = (0 : Int32).toInt := i_eq.mp c183
                have rs9 : 0 ≤ (fI D H172 11 a0 16).toInt ∧ (fI D H172 11 a0 16).toInt ≤ 400 := S172.1.rng ga0 rfl (by decide) rfl
                have rp9 : 0 ≤ (fI D H172 11 a0 10).toInt ∧ (fI D H172 11 a0 10).toInt ≤ 400 := S172.1.rng ga0 rfl (by decide) rfl
                refine lv_aload_n hx hb dX12_readLawLine_142 rfl (lv_at hl 1 rfl) ?_
                refine q_gr (T := TX12) C S172.1 ga0 1 kF_X12_13 dX12_readLawLine_143 rfl rfl (by decide) rfl (by decide) rfl (fun g184 => ?_)
                refine lv_iload_n hx hb dX12_readLawLine_146 rfl (lv_at hl 0 rfl) ?_
                refine lv_iconst (v := 3) hx hb dX12_readLawLine_147 (by decide) ?_
                have k_3 : (3 : Int32).toInt = 3 := by decide
                refine lv_iadd hx hb dX12_readLawLine_148 ?_
                refine lv_topi (fun v185 ev185 => ?_)
                have f186 : v185.toInt = v3.toInt + (3 : Int32).toInt := by rw [ev185]; exact i_add (by omega) (by omega)
                refine lv_aload_n hx hb dX12_readLawLine_149 rfl (lv_at hl 1 rfl) ?_
                refine q_gi (T := TX12) C S172.1 ga0 16 kF_X12_182 dX12_readLawLine_150 rfl rfl (by decide) rfl (by decide) rfl ?_
                have r187 : 0 ≤ (fI D H172 11 a0 16).toInt ∧ (fI D H172 11 a0 16).toInt ≤ 400 := S172.1.rng ga0 rfl (by decide) rfl
                have n188 : aN H172 (fR D H172 11 a0 1) = 2052 := len_31 S172.1 g184
                refine q_iast C S172 g184 (by omega) (by omega) dX12_readLawLine_153 rfl (by decide) (by decide +kernel) (fun _ _ h => wk_high _ _ (by omega) h) (fun H189 L189 S189 P189 => ?_) (hs := fun _ => Or.inr (vy_no (by omega) (by omega) (by omega) (by omega) (fun h9 hh9 => by omega) (fun j9 hj9 => by omega)))
                have y189_10 : (fI D H189 11 a0 10).toInt = (fI D H172 11 a0 10).toInt := congrArg Int32.toInt (Pa.f P189 (ne_role ga0 g184 (by decide)))
                have y189_12 : (fI D H189 11 a0 12).toInt = (fI D H172 11 a0 12).toInt := congrArg Int32.toInt (Pa.f P189 (ne_role ga0 g184 (by decide)))
                have y189_13 : (fI D H189 11 a0 13).toInt = (fI D H172 11 a0 13).toInt := congrArg Int32.toInt (Pa.f P189 (ne_role ga0 g184 (by decide)))
                have y189_16 : (fI D H189 11 a0 16).toInt = (fI D H172 11 a0 16).toInt := congrArg Int32.toInt (Pa.f P189 (ne_role ga0 g184 (by decide)))
                have rs189 : 0 ≤ (fI D H172 11 a0 16).toInt ∧ (fI D H172 11 a0 16).toInt ≤ 400 := S172.1.rng ga0 rfl (by decide) rfl
                have tk189 : Lr D s.heap H189 a0 x1.toInt.toNat := tk172.trans (Lr.ast S172.1 ga0 P189 rfl ⟨by omega, by omega⟩ (by omega))
                have rb189 := ts172.cells S172.1 ga0 g184 (by decide) (by decide) P189.2.2.1
                have bg189 : (fI D H189 11 a0 12).toInt = (((nx T b) : Nat) : Int) := by rw [Pa.f P189 (ne_role ga0 g184 (by decide))]; exact wr172
                refine lv_iconst (v := 1) hx hb dX12_readLawLine_154 (by decide) ?_
                exact retE_z hQ C S189 hr dX12_readLawLine_155 (z01 (by omega) (by omega)) (⟨⟨by omega, fun _ => by omega, fun _ h9 => Dl.line (b := (fI D H158 11 a0 16).toInt.toNat) (e := (fI D H172 11 a0 16).toInt.toNat) h9 tk189 (by omega) rs0.1 (by show (eI H189 (fR D H189 11 a0 1) _).toInt = _; rw [eA S172.1 ga0 P189 (by omega) (by omega), show eI H172 (fR D H172 11 a0 1) (1206 + 4 * x1.toInt.toNat) = _ from (lq170.trans lq172).2 _ (by omega)]; rw [zb169]; omega) (by show (eI H189 (fR D H189 11 a0 1) _).toInt = _; rw [eS S172.1 ga0 P189 rfl (by omega) (by omega)]; omega) (by have z9 := (lq170.trans lq172).1; omega) (by show _ ≤ (fI D H189 11 a0 16).toInt; omega) (by rw [show (fI D H172 11 a0 16).toInt.toNat - (fI D H158 11 a0 16).toInt.toNat = 0 by omega]; exact True.intro)⟩, RR.ok (by simp [linF, numE, ys65, yf157, y172]) (by omega) rb189⟩)
              · have b183 : ¬ v172.toInt = (0 : Int32).toInt := fun z9 => c183 (i_eq.mpr z9)
                exact absurd b183 (by omega)
          · have b164 : ¬ (0 : Int32).toInt ≤ v163.toInt := fun z9 => c164 (i_le.mpr z9)
            exact absurd b164 (by omega)
      · have b107 : ¬ (0 : Int32).toInt ≤ v106.toInt := fun z9 => c107 (i_le.mpr z9)
        have ys63 : srt T b = -1 := by omega
        have bg63 := lb103.2.2.1
        refine lv_iconst (v := 0) hx hb dX12_readLawLine_63 (by decide) ?_
        exact retE_z hQ C S103 hr dX12_readLawLine_64 (z01 (by omega) (by omega)) (⟨⟨by omega, fun h9 => absurd h9 (by decide), fun h9 => absurd h9 (by decide)⟩, RR.no (by simp [linF, numE, ys63]) (by omega) bg63⟩)
    have k_0 : (0 : Int32).toInt = 0 := by decide
    refine lv_if_eq (tgt := 26) hx hb dX12_readLawLine_19 (by decide) (fun c99 => ?_) (fun c99 => ?_)
    · have b99 : v7.toInt = (0 : Int32).toInt := i_eq.mp c99
      refine lv_aload_n hx hb dX12_readLawLine_26 rfl (lv_at hl 1 rfl) ?_
      refine q_lds C ks_X12_223 dX12_readLawLine_27 (fun a190 ha190 wa190 => ?_)
      refine callV_Pi C S.1 S.2.1.2.1 (c_X12_isWord_f l D G a0 a190 4 w_free T b ga0 ha190 (Wc.of wa190 kw_free) (by decide)) kV_X12_105 ga0 (⟨trivial, ts0⟩) dX12_readLawLine_29 hl.1 rfl rfl (by decide) cd_X12_isWord ⟨Nat.le_of_ble_eq_true rfl, Nat.le_of_ble_eq_true rfl, Nat.le_of_ble_eq_true rfl, Nat.le_of_ble_eq_true rfl, Nat.le_of_ble_eq_true rfl⟩ (fun v191 q191 => ?_)
      obtain ⟨q191, fq191⟩ := q191
      rcases fq191 with ⟨z191, y191⟩ | ⟨z191, y191⟩
      · skip
        refine lv_if_eq (tgt := 39) hx hb dX12_readLawLine_32 (by decide) (fun c192 => ?_) (fun c192 => ?_)
        · have b192 : v191.toInt = (0 : Int32).toInt := i_eq.mp c192
          exact absurd b192 (by omega)
        · have b192 : ¬ v191.toInt = (0 : Int32).toInt := fun z9 => c192 (i_eq.mpr z9)
          refine lv_iconst (v := 1) hx hb dX12_readLawLine_35 (by decide) ?_
          refine lv_goto (tgt := 53) hx hb dX12_readLawLine_36 (by decide) ?_
          have k_1 : (1 : Int32).toInt = 1 := by decide
          exact J100 (1 : Int32) (by omega) ⟨by omega, by rw [show srt T b = 1 by simp [srt, y7, y191]]; omega⟩
      · skip
        refine lv_if_eq (tgt := 39) hx hb dX12_readLawLine_32 (by decide) (fun c193 => ?_) (fun c193 => ?_)
        · have b193 : v191.toInt = (0 : Int32).toInt := i_eq.mp c193
          refine lv_aload_n hx hb dX12_readLawLine_39 rfl (lv_at hl 1 rfl) ?_
          refine q_lds C ks_X12_225 dX12_readLawLine_40 (fun a194 ha194 wa194 => ?_)
          refine callV_Pi C S.1 S.2.1.2.1 (c_X12_isWord_f l D G a0 a194 4 w_find T b ga0 ha194 (Wc.of wa194 kw_find) (by decide)) kV_X12_105 ga0 (⟨trivial, ts0⟩) dX12_readLawLine_42 hl.1 rfl rfl (by decide) cd_X12_isWord ⟨Nat.le_of_ble_eq_true rfl, Nat.le_of_ble_eq_true rfl, Nat.le_of_ble_eq_true rfl, Nat.le_of_ble_eq_true rfl, Nat.le_of_ble_eq_true rfl⟩ (fun v195 q195 => ?_)
          obtain ⟨q195, fq195⟩ := q195
          rcases fq195 with ⟨z195, y195⟩ | ⟨z195, y195⟩
          · skip
            refine lv_if_eq (tgt := 52) hx hb dX12_readLawLine_45 (by decide) (fun c196 => ?_) (fun c196 => ?_)
            · have b196 : v195.toInt = (0 : Int32).toInt := i_eq.mp c196
              exact absurd b196 (by omega)
            · have b196 : ¬ v195.toInt = (0 : Int32).toInt := fun z9 => c196 (i_eq.mpr z9)
              refine lv_iconst (v := 2) hx hb dX12_readLawLine_48 (by decide) ?_
              refine lv_goto (tgt := 53) hx hb dX12_readLawLine_49 (by decide) ?_
              have k_2 : (2 : Int32).toInt = 2 := by decide
              exact J100 (2 : Int32) (by omega) ⟨by omega, by rw [show srt T b = 2 by simp [srt, y7, y191, y195]]; omega⟩
          · skip
            refine lv_if_eq (tgt := 52) hx hb dX12_readLawLine_45 (by decide) (fun c197 => ?_) (fun c197 => ?_)
            · have b197 : v195.toInt = (0 : Int32).toInt := i_eq.mp c197
              refine lv_iconst (v := -1) hx hb dX12_readLawLine_52 (by decide) ?_
              have k_m1 : (-1 : Int32).toInt = -1 := by decide
              exact J100 (-1 : Int32) (by omega) ⟨by omega, by rw [show srt T b = -1 by simp [srt, y7, y191, y195]]; omega⟩
            · have b197 : ¬ v195.toInt = (0 : Int32).toInt := fun z9 => c197 (i_eq.mpr z9)
              exact absurd b197 (by omega)
        · have b193 : ¬ v191.toInt = (0 : Int32).toInt := fun z9 => c193 (i_eq.mpr z9)
          exact absurd b193 (by omega)
    · have b99 : ¬ v7.toInt = (0 : Int32).toInt := fun z9 => c99 (i_eq.mpr z9)
      exact absurd b99 (by omega)
