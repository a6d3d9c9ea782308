/-! Arrays.copyOf of the reader's code -/
def QC (D : DD) (a0 : Nat) (x : Int32) : Array Value → State → Outcome → State → Prop := fun _ st o t => ∃ q : Nat, o = .returned (some (.ref q)) ∧ st.heap.size ≤ q ∧ t.heap[q]? = some (arrCell (D.2 0) x.toInt.toNat (fun j => eI st.heap a0 j)) ∧ (∀ b : Nat, b < st.heap.size → t.heap[b]? = st.heap[b]?) ∧ st.heap.size ≤ t.heap.size
theorem arrV_congr2 {cA : ClassId} {N : Nat} {f g : Nat → Int32} (h : ∀ j, j < N → f j = g j) : arrCell cA N f = arrCell cA N g := by
  show arrV cA N (fun j => .int (f j)) = arrV cA N (fun j => .int (g j))
  unfold arrV
  congr 1
  apply Array.ext_getElem?
  intro j
  by_cases hj : j < N
  · simp [hj, h j hj]
  · simp [hj]
theorem kCl1 : ∀ w ∈ ([.methodLink RJ7 316 ⟨"[I", "clone", "()Ljava/lang/Object;"⟩, .sameMethod "[I" "java/lang/Object" "clone" "()Ljava/lang/Object;", .native ⟨"java/lang/Object", "clone", "()Ljava/lang/Object;"⟩, .instanceMethod ⟨"java/lang/Object", "clone", "()Ljava/lang/Object;"⟩, .selects "[I" ⟨"[I", "clone", "()Ljava/lang/Object;"⟩ ⟨"java/lang/Object", "clone", "()Ljava/lang/Object;"⟩, .classLink RJ7 317 "[I"] : List Cond), w ∈ lw_good := mem_dec (by decide +kernel)
theorem kCl2 : Cond.castable "[I" "java/lang/Cloneable" ∈ lw_cast := mem_cst (by decide +kernel)
set_option maxRecDepth 100000 in
set_option maxHeartbeats 4000000 in
theorem c_copyOf (l : Launch) (D : DD) (G : Nat → Nat) (a0 : Nat) (x1 : Int32) (ga0 : G a0 = 22) (ix1 : 0 ≤ x1.toInt ∧ x1.toInt ≤ 400) : Met l yJ7_copyOf_59c91 (wsU yJ7_copyOf_59c91 cJ7_copyOf_59c91 3 (some (.array .int))) (rmU 1 1 400) (PcU D G [.ref a0, .int x1] (fun _ => True)) (QC D a0 x1) 1 400 (fun q => q = a0) := by
  refine enter (by decide) (Nat.le_of_ble_eq_true rfl) ?_
  intro p e s m args below meth c ls Q hA hQ C hr hO hpre hl
  have hx := C.1
  have hb := C.2.1
  have hts := C.2.2.2.2.1
  have hl : lv_has ls 3 [(0, .ref a0), (1, .int x1)] := hl
  have hn : aN s.heap a0 = 400 := len_22 hO ga0
  have a0lt : a0 < s.heap.size := hO.lt (by rw [ga0]; decide)
  obtain ⟨f, f1, f2, f3, f4⟩ := hO.ia ga0 rfl
  rw [hn] at f1 f2 f3 f4
  have w1 := hts _ (kCl1 (.methodLink RJ7 316 ⟨"[I", "clone", "()Ljava/lang/Object;"⟩) (by simp))
  have w2 := hts _ (kCl1 (.sameMethod "[I" "java/lang/Object" "clone" "()Ljava/lang/Object;") (by simp))
  have w3 := hts _ (kCl1 (.native ⟨"java/lang/Object", "clone", "()Ljava/lang/Object;"⟩) (by simp))
  have w4 := hts _ (kCl1 (.instanceMethod ⟨"java/lang/Object", "clone", "()Ljava/lang/Object;"⟩) (by simp))
  have w5 := hts _ (kCl1 (.selects "[I" ⟨"[I", "clone", "()Ljava/lang/Object;"⟩ ⟨"java/lang/Object", "clone", "()Ljava/lang/Object;"⟩) (by simp))
  have w6 := hts _ (kCl1 (.classLink RJ7 317 "[I") (by simp))
  have hnmI : s.vm.findClass "[I" = some (D.2 0) := (C.2.2.2.2.2.2.1.2 0 _ rfl).2
  refine lv_iload_n hx hb dJ7_copyOf_59c91_0 rfl (lv_at hl 1 rfl) ?_
  refine lv_aload_n hx hb dJ7_copyOf_59c91_1 rfl (lv_at hl 0 rfl) ?_
  refine q_alen C hO ga0 dJ7_copyOf_59c91_2 rfl (by decide) rfl (fun v4 fv4 => ?_)
  refine lv_icmp_ne (tgt := 14) hx hb dJ7_copyOf_59c91_3 (by decide) (fun c5 => ?_) (fun c5 => ?_)
  rotate_left
  · have b5 : x1.toInt = v4.toInt := by
      have h9 : x1 = v4 := by first | exact c5 | exact Classical.not_not.mp c5
      rw [h9]
    have hx400 : x1.toInt.toNat = 400 := by omega
    refine lv_aload_n hx hb dJ7_copyOf_59c91_6 rfl (lv_at hl 0 rfl) ?_
    refine va_clone (D := D.1) (cl := vwCl) (tys := kn_tys D) (A := fun q => q = a0 ∨ s.heap.size ≤ q) (H0 := s.heap) (ws := [(a0, .inl (D.2 0, 400, .inl f))]) (x := (400, .inl f)) (ty := .int) hx hb (by rw [C.2.2.1, hl.1]) C.2.2.2.1 w1 w2 w3 w4 w5 (C.2.2.2.2.2.2.2.2.2.2.2.1.1 _ kCl2) C.2.2.2.2.2.2.1
      (fun k q hk => ?_) ⟨fun i j p9 q9 hi hj _ => ?_, fun k q hk => ?_⟩ ⟨Nat.le_refl _, fun _ _ _ => rfl, fun _ h => nomatch h⟩ (fun q hq => Or.inr hq) 0 0 rfl rfl hnmI (fun i v hv => ?_) (Nat.le_of_ble_eq_true rfl) (Nat.le_of_ble_eq_true rfl) (Nat.le_of_ble_eq_true rfl) (Nat.le_of_ble_eq_true rfl) dJ7_copyOf_59c91_7 (fun q H1 hK1 hP1 hD1 hS1 => ?_)
    · have hz : k < 1 := (List.getElem?_eq_some_iff.mp hk).1
      rw [show k = 0 by omega] at hk
      cases hk
      exact f1
    · have h1 : i < 1 := (List.getElem?_eq_some_iff.mp hi).1
      have h2 : j < 1 := (List.getElem?_eq_some_iff.mp hj).1
      omega
    · have hz : k < 1 := (List.getElem?_eq_some_iff.mp hk).1
      rw [show k = 0 by omega] at hk
      cases hk
      exact Or.inl rfl
    · have h9 : (arrCell (D.2 0) 400 f).slots[i]? = some v := hv
      by_cases hi : i < 400
      · rw [arr_read _ _ hi] at h9
        cases h9
        rfl
      · rw [Array.getElem?_eq_none (by rw [arr_size]; omega)] at h9
        cases h9
    · have g1 : H1[q]? = some (arrCell (D.2 0) 400 f) := hP1 1 _ rfl
      have g0 : H1[a0]? = some (arrCell (D.2 0) 400 f) := hP1 0 _ rfl
      have hqa : q ≠ a0 := fun z => by
        have := hD1.1 1 0 _ _ rfl rfl z
        omega
      have hq : s.heap.size ≤ q := (hD1.2 1 _ rfl).elim (fun z => absurd z hqa) id
      refine va_castA (D := D.1) (cl := vwCl) (nm := "[I") hx hb C.2.2.2.1 w6 hP1 1 rfl hnmI dJ7_copyOf_59c91_10 ?_
      subst hQ
      have hpost : ∀ t : State, t.heap = H1 → s.WarmedH t.vm → QC D a0 x1 args s (.returned (some (.ref q))) t := by
        intro t ht _
        refine ⟨q, rfl, hq, ?_, fun b9 h9 => ?_, ?_⟩
        · rw [ht, g1, hx400]
          exact congrArg some (arrV_congr2 (fun j hj => by rw [f4 j hj]))
        · rw [ht]
          by_cases z : b9 = a0
          · subst z; rw [g0, f1]
          · exact hS1.2.1 b9 h9 (fun y => y.elim z (fun y2 => by omega))
        · rw [ht]; exact hS1.1
      exact W.aret C.1 C.2.1 hr (Or.inr ⟨_, rfl⟩) (Or.inr ⟨_, rfl⟩) hpost (fun z hz => nomatch hz) dJ7_copyOf_59c91_13 (hlocks := C.2.2.2.2.2.1)
  · have b5 : x1.toInt ≠ v4.toInt := fun z => c5 (i_eq.mpr z)
    refine lv_iload_n hx hb dJ7_copyOf_59c91_14 rfl (lv_at hl 1 rfl) ?_
    refine va_newa (locs := []) (atype := .int) (D := D.1) (cl := vwCl) (tys := kn_tys D) (A := fun q => s.heap.size ≤ q) (H0 := s.heap) (ws := []) (ty := .int) (N' := x1.toInt.toNat) (a0 := (x1.toInt.toNat, .inl (fun _ => 0))) hx hb (hts _ kAI) rfl C.2.2.2.2.2.2.1 (fun k q hk => by simp at hk) ⟨fun i j p9 q9 hi _ _ => (by simp at hi), fun k q hk => (by simp at hk)⟩ ⟨Nat.le_refl _, fun _ _ _ => rfl, fun _ h => nomatch h⟩ (fun q hq => hq) (fun cA => rfl) (fun z => by have h8 := i_lt.mp z; have k0 : (0 : Int32).toInt = 0 := (by decide); omega) rfl (by show _ * 4 ≤ _; omega) (Nat.le_of_ble_eq_true rfl) (by show 0 + _ ≤ 400; omega) dJ7_copyOf_59c91_15 (fun q cA H1 hK1 hP1 hD1 hS1 => ?_)
    have hcA : cA = D.2 0 := Option.some.inj (((hK1.2 7 _ rfl).2 : s.vm.findClass _ = some cA).symm.trans hnmI)
    subst hcA
    have hq : s.heap.size ≤ q := hD1.2 0 _ rfl
    refine lv_astore_n (lv' := [(2, .ref q), (0, .ref a0), (1, .int x1)]) hx hb dJ7_copyOf_59c91_17 rfl hl (by decide) rfl (fun ls hl => ?_)
    refine lv_aload_n hx hb dJ7_copyOf_59c91_18 rfl (lv_at hl 1 rfl) ?_
    refine lv_iconst (v := 0) hx hb dJ7_copyOf_59c91_19 (by decide) ?_
    refine lv_aload_n hx hb dJ7_copyOf_59c91_20 rfl (lv_at hl 0 rfl) ?_
    refine lv_iconst (v := 0) hx hb dJ7_copyOf_59c91_21 (by decide) ?_
    refine lv_aload_n hx hb dJ7_copyOf_59c91_22 rfl (lv_at hl 1 rfl) ?_
    have hO1 : Ok D G H1 := hO.grow hS1.1 (fun b9 h9 => hS1.2.1 b9 h9 (fun z => by omega))
    refine q_alen C hO1 ga0 dJ7_copyOf_59c91_23 rfl (by decide) rfl (fun v6 fv6 => ?_)
    have hn1 : aN H1 a0 = 400 := len_22 hO1 ga0
    refine lv_iload_n hx hb dJ7_copyOf_59c91_24 rfl (lv_at hl 2 rfl) ?_
    refine q_min C kN_J7_304 dJ7_copyOf_59c91_25 hl.1 ⟨Nat.le_of_ble_eq_true rfl, Nat.le_of_ble_eq_true rfl, Nat.le_of_ble_eq_true rfl, (by show 0 + _ ≤ 400; omega)⟩ (fun v7 fv7 => ?_)
    have e7 : v7 = x1 := i_eq.mpr (by omega)
    subst e7
    have hX : va_X a0 400 f s s.heap := ⟨_, f1, ((C.2.2.2.2.2.2.1.2 0 _ rfl).1 400 (fun j => .int (f j))), (fun h => by cases h), arr_size _ _ _, fun j hj => arr_read _ _ hj⟩
    have y1 := hts _ (kY_J7_150 (.methodLink RJ7 150 arraycopyName) (by simp))
    have y2 := hts _ (kY_J7_150 (.native arraycopyName) (by simp))
    have y3 := hts _ (kY_J7_150 (.static arraycopyName) (by simp))
    have y4 := hts _ (kY_J7_150 (.initialized "java/lang/System") (by simp))
    refine va_copyx (D := D.1) (cl := vwCl) (tys := kn_tys D ++ [(D.2 0, .int)]) (A := fun q => s.heap.size ≤ q) hx hb (by rw [C.2.2.1, hl.1]) C.2.2.2.1 y1 y2 y3 y4 hK1 hP1 hD1 hS1 hX a0lt (by show ¬ s.heap.size ≤ a0; omega) 0 7 rfl rfl (by decide) (by decide) (fun z => by have h8 := i_lt.mp z; have k0 : (0 : Int32).toInt = 0 := (by decide); omega) (by show 0 + v7.toInt.toNat ≤ 400; omega) (by show 0 + v7.toInt.toNat ≤ v7.toInt.toNat; omega) (Nat.le_of_ble_eq_true rfl) (by decide +kernel) dJ7_copyOf_59c91_28 (fun H2 L2 hP2 hD2 hS2 => ?_)
    have g1 : H2[q]? = some (arrCell (D.2 0) v7.toInt.toNat (va_cpy f (fun _ => 0) 0 0 v7.toInt.toNat)) := hP2 0 _ rfl
    refine lv_aload_n hx hb dJ7_copyOf_59c91_31 rfl (lv_at hl 0 rfl) ?_
    subst hQ
    have hpost : ∀ t : State, t.heap = H2 → s.WarmedH t.vm → QC D a0 v7 args s (.returned (some (.ref q))) t := by
      intro t ht _
      refine ⟨q, rfl, hq, ?_, fun b9 h9 => ?_, ?_⟩
      · rw [ht, g1]
        refine congrArg some (arrV_congr2 (fun j hj => ?_))
        rw [f4 j (by omega)]
        unfold va_cpy
        rw [if_pos (by omega)]
        exact congrArg f (by omega)
      · rw [ht]; exact hS2.2.1 b9 h9 (fun z => by omega)
      · rw [ht]; exact hS2.1
    refine W.relocs (locs' := []) (fun y hy hlt => absurd (hS2.2.2 y hy) (Nat.not_le.mpr hlt)) ?_
    exact W.widen (Nat.le_refl _) (by show 0 + v7.toInt.toNat ≤ 400; omega) (W.aret C.1 C.2.1 hr (Or.inr ⟨_, rfl⟩) (Or.inr ⟨_, rfl⟩) hpost (fun z hz => nomatch hz) dJ7_copyOf_59c91_32 (hlocks := C.2.2.2.2.2.1))
