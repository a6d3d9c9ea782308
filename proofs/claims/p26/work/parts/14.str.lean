/-! String.length, String.charAt of the start's constants -/
section StrRows
variable {p : Program} {l : Launch} {e : Env} {R : Room} {s : State} {m : MethodId} {args : Array Value} {below : List Frame} {meth : Method} {c : Code} {H H0 : Heap} {locs : List Loc} {cells slots : Nat} {Q : State → Prop}
variable {cc cc' : ByteArray} {pc nL nL' idx h : Nat} {ls : Array Slot} {rest As : List Value} {D : DD} {G : Nat → Nat} {own : String} {E : List (Nat × Nat)} {y : MethodName} {ret : Option FieldType} {Pre : Heap → Prop} {post : Heap → Option Value → Prop}
theorem retP_t {f : Heap → Int32 → Prop} {ty : FieldType} (hQ : Q = MQ below (QP (pI f)) args s 0 0 (fun _ => False)) (C : Cx D G p s m args meth c own cc nL) (hr : meth.sig.returnType = some ty) {v : Int32} (hdg : decode cc pc = .ok (.ireturn, 1)) (hv : narrow ty (.int v) = .int v) (hp : f s.heap v) : W p l e R s m args below meth c s.heap [] 0 0 Q (F0 m pc ls [.int v]) := by
  subst hQ
  exact W.zret C.1 C.2.1 hr hv (fun t ht hW => ⟨_, rfl, ht, v, rfl, hp⟩) (fun q h => nomatch h) hdg (hlocks := C.2.2.2.2.2.1)
theorem retP_v (hQ : Q = MQ below (QP (fun _ v => v = none)) args s 0 0 (fun _ => False)) (C : Cx D G p s m args meth c own cc nL) (hr : meth.sig.returnType = none) (hdg : decode cc pc = .ok (.return_, 1)) : W p l e R s m args below meth c s.heap [] 0 0 Q (F0 m pc ls []) := by
  subst hQ
  exact W.vret C.1 C.2.1 hr (fun t ht hW => ⟨_, rfl, ht, rfl⟩) (fun q h => nomatch h) hdg (hlocks := C.2.2.2.2.2.1)
theorem callR_Pi {f : Heap → Int32 → Prop} (C : Cx D G p s m args meth c own cc nL) (hO : Ok D G H) (hz : ∀ q : Nat, q < s.heap.size → G q = 0 → H[q]? = s.heap[q]?) {b : Nat} (hM : CP l D G y cc' nL' ret h (.ref b :: As) Pre (pI f)) (hw : ∀ w ∈ ([.methodLink own idx y, .instanceMethod y, .selects y.cls y y, .initialized y.cls, .code y cc' nL' ret] : List Cond), w ∈ lw_good)
    (hrecv : ∃ cellB : Cell, H[b]? = some cellB ∧ cellB.vm.isStatics = false ∧ s.vm.findClass y.cls = some cellB.cls) (hpre : Pre H) (hdg : decode cc pc = .ok (.invokevirtual idx, 3)) (hsz : ls.size = nL) (hd : Cd y As.length) (hR : Rm R h nL' cells slots rest)
    (kk : ∀ v, f H v → W p l e R s m args below meth c H locs cells slots Q (F0 m (pc + 3) ls (.int v :: rest))) : W p l e R s m args below meth c H locs cells slots Q (F0 m pc ls (As.reverse ++ .ref b :: rest)) := by
  have hts := C.2.2.2.2.1
  have g := va_runV (g := F0 m pc ls (As.reverse ++ .ref b :: rest)) (rest := rest) (R := R) (locs := locs) (cells := cells) (slots := slots) (below := below) (meth := meth) (H := H) (e := e) (nL := nL) ⟨C.1, C.2.1, C.2.2.1, C.2.2.2.1, hts⟩ hM ⟨cbU C (hw _ (by simp)) (hw _ (by simp)) (hw _ (by simp)) hd hR, hts _ (hw _ (by simp)), hts _ (hw _ (by simp))⟩
    ⟨PcU.blind, hrecv, fun U hU hW => ⟨rfl, C.2.2.2.2.2.2.1.moved hW.alike, by rw [hU]; exact C.2.2.2.2.2.2.2.move hW hz, by rw [hU]; exact hO, by rw [hU]; exact hpre⟩⟩ rfl rfl hsz rfl (by show 2 * 0 + _ ≤ 8; simpa using hR.2.2.2.2) hdg ⟨hR.2.2.1, hR.2.2.2.1⟩
  have e9 : As.reverse ++ .ref b :: rest = (.ref b :: As).reverse ++ rest := by simp
  rw [e9] at g ⊢
  exact doneP g (fun v hv => by obtain ⟨r9, rfl, h9⟩ := hv; exact kk r9 h9)
/-- a string constant is loaded -/
theorem q_lds (C : Cx D G p s m args meth c own cc nL) {tx : String} {n : Nat} (hx : (own, idx, tx, n) ∈ lw_strs) (hdg : decode cc pc = .ok (.ldc idx, 2))
    (kk : ∀ a : Nat, D.1.2 99 a = n + 1 → (∀ w, (tx, w) ∈ lw_wb → ∀ j, j < w.length → D.1.2 (101 + 2 * j) a = w.getD j 0) → W p l e R s m args below meth c H locs cells slots Q (F0 m (pc + 2) ls (.ref a :: rest))) : W p l e R s m args below meth c H locs cells slots Q (F0 m pc ls rest) := by
  obtain ⟨a, h1, h2⟩ := C.2.2.2.2.2.2.2.2.2.2.2.2.2.2 _ hx
  exact va_ldcS C.1 C.2.1 C.2.2.2.1 h1 hdg (kk a h2.1 h2.2)
theorem strU_at (C : Cx D G p s m args meth c own cc nL) {a n : Nat} (h : D.1.2 99 a = n + 1) : StrU D G s s.heap a n := C.2.2.2.2.2.2.2.2.2.2.2.2.1 a n h
theorem bytU_at (C : Cx D G p s m args meth c own cc nL) {b n : Nat} (h : D.1.2 98 b = n + 1) : BytU D G s s.heap b n := C.2.2.2.2.2.2.2.2.2.2.2.2.2.1 b n h
theorem str_recv (C : Cx D G p s m args meth c own cc nL) (hz : ∀ q : Nat, q < s.heap.size → G q = 0 → H[q]? = s.heap[q]?) {a n : Nat} (h : D.1.2 99 a = n + 1) : ∃ cellB : Cell, H[a]? = some cellB ∧ cellB.vm.isStatics = false ∧ s.vm.findClass "java/lang/String" = some cellB.cls := by
  obtain ⟨⟨cell, h1, h2, h3, h4⟩, -⟩ := strU_at C h
  exact ⟨cell, by rw [hz a (Array.getElem?_eq_some_iff.mp h1).1 (Classical.not_not.mp h4)]; exact h1, h2, h3⟩
end StrRows
abbrev nz (G : Nat → Nat) : Nat → Prop := fun q => G q ≠ 0
theorem c_J0_coder (l : Launch) (D : DD) (G : Nat → Nat) (a0 n0 : Nat) (sa : D.1.2 99 a0 = n0 + 1) : CP l D G yJ0_coder_7d493 cJ0_coder_7d493 1 (some .byte) 0 [.ref a0] (fun _ => True) (pI (fun _ r => r = 0)) := by
  refine enter (by decide) (Nat.le_of_ble_eq_true rfl) ?_
  intro p e s m args below meth c ls Q hA hQ C hr hO hpre hl
  have hx := C.1
  have hb := C.2.1
  have hl : lv_has ls 1 [(0, .ref a0)] := hl
  obtain ⟨s1, s2, b, s4, s5⟩ := strU_at C sa
  refine va_gets (A := nz G) hx hb C.2.2.2.2.2.2.2.1 va_S.rf C.2.2.2.1 (C.2.2.2.2.1 _ kF_J0_38) (fun _ h => h) dJ0_coder_7d493_0 ?_
  refine lv_if_eq (tgt := 13) hx hb dJ0_coder_7d493_3 (by decide) (fun c1 => absurd c1 (by decide)) (fun c1 => ?_)
  refine lv_aload_n hx hb dJ0_coder_7d493_6 rfl (lv_at hl 0 rfl) ?_
  refine vk_getf (A := nz G) hx hb s2 va_S.rf C.2.2.2.1 (C.2.2.2.2.1 _ kF_J0_15) (fun _ h => h) dJ0_coder_7d493_7 ?_
  refine lv_goto (tgt := 14) hx hb dJ0_coder_7d493_10 (by decide) ?_
  exact retP_t hQ C hr dJ0_coder_7d493_14 rfl rfl
theorem c_J0_isLatin1 (l : Launch) (D : DD) (G : Nat → Nat) (a0 n0 : Nat) (sa : D.1.2 99 a0 = n0 + 1) : CP l D G yJ0_isLatin1_aae02 cJ0_isLatin1_aae02 1 (some .boolean) 0 [.ref a0] (fun _ => True) (pI (fun _ r => r = 1)) := by
  refine enter (by decide) (Nat.le_of_ble_eq_true rfl) ?_
  intro p e s m args below meth c ls Q hA hQ C hr hO hpre hl
  have hx := C.1
  have hb := C.2.1
  have hl : lv_has ls 1 [(0, .ref a0)] := hl
  obtain ⟨s1, s2, b, s4, s5⟩ := strU_at C sa
  refine va_gets (A := nz G) hx hb C.2.2.2.2.2.2.2.1 va_S.rf C.2.2.2.1 (C.2.2.2.2.1 _ kF_J0_38) (fun _ h => h) dJ0_isLatin1_aae02_0 ?_
  refine lv_if_eq (tgt := 17) hx hb dJ0_isLatin1_aae02_3 (by decide) (fun c1 => absurd c1 (by decide)) (fun c1 => ?_)
  refine lv_aload_n hx hb dJ0_isLatin1_aae02_6 rfl (lv_at hl 0 rfl) ?_
  refine vk_getf (A := nz G) hx hb s2 va_S.rf C.2.2.2.1 (C.2.2.2.2.1 _ kF_J0_15) (fun _ h => h) dJ0_isLatin1_aae02_7 ?_
  refine lv_if_ne (tgt := 17) hx hb dJ0_isLatin1_aae02_10 (by decide) (fun c2 => absurd rfl c2) (fun c2 => ?_)
  refine lv_iconst (v := 1) hx hb dJ0_isLatin1_aae02_13 (by decide) ?_
  refine lv_goto (tgt := 18) hx hb dJ0_isLatin1_aae02_14 (by decide) ?_
  exact retP_t hQ C hr dJ0_isLatin1_aae02_18 rfl rfl
theorem shr0 {n : Nat} (h : n < 2147483648) : ((Int32.ofNat n) >>> ((0 : Int32) &&& 31)).toInt = n := by
  have : (Int32.ofNat n) >>> ((0 : Int32) &&& 31) = nI (n / 2 ^ 0) := pk_shrN (by omega) _ 0 (by decide)
  rw [this, nI_toInt (by omega)]
  simp
theorem c_J0_length_8abf5 (l : Launch) (D : DD) (G : Nat → Nat) (a0 n0 : Nat) (sa : D.1.2 99 a0 = n0 + 1) : CP l D G yJ0_length_8abf5 cJ0_length_8abf5 1 (some .int) 1 [.ref a0] (fun _ => True) (pI (fun _ r => r.toInt = n0)) := by
  refine enter (by decide) (Nat.le_of_ble_eq_true rfl) ?_
  intro p e s m args below meth c ls Q hA hQ C hr hO hpre hl
  have hx := C.1
  have hb := C.2.1
  have hl : lv_has ls 1 [(0, .ref a0)] := hl
  obtain ⟨s1, s2, b, s4, s5⟩ := strU_at C sa
  obtain ⟨b1, b2, cell, b3, b4, b5, b6, b7⟩ := bytU_at C s5.1
  refine lv_aload_n hx hb dJ0_length_8abf5_0 rfl (lv_at hl 0 rfl) ?_
  refine vk_getf (A := nz G) hx hb s4 va_S.rf C.2.2.2.1 (C.2.2.2.2.1 _ kF_J0_9) (fun _ h => h) dJ0_length_8abf5_1 ?_
  refine W.alen hx hb b3 b4 (n := Int32.ofNat n0) b6.2 rfl rfl dJ0_length_8abf5_4 ?_
  refine lv_aload_n hx hb dJ0_length_8abf5_5 rfl (lv_at hl 0 rfl) ?_
  refine callR_Pi (As := []) C hO (fun _ _ _ => rfl) (c_J0_coder l D G a0 n0 sa) kV_J0_335 (str_recv C (fun _ _ _ => rfl) sa) trivial dJ0_length_8abf5_6 hl.1 cd_J0_coder_7d493 ⟨Nat.le_of_ble_eq_true rfl, Nat.le_of_ble_eq_true rfl, Nat.le_of_ble_eq_true rfl, Nat.le_of_ble_eq_true rfl, Nat.le_of_ble_eq_true rfl⟩ (fun v1 q1 => ?_)
  subst q1
  refine lv_ishr hx hb dJ0_length_8abf5_9 ?_
  exact retP_i hQ C hr dJ0_length_8abf5_10 (shr0 b2)
theorem c_J3_checkIndex (l : Launch) (D : DD) (G : Nat → Nat) (x0 x1 : Int32) (w : Value) (hw : w = .null ∨ ∃ a, w = .ref a) (h1 : 0 ≤ x0.toInt ∧ x0.toInt < x1.toInt) : CP l D G yJ3_checkIndex_8e157 cJ3_checkIndex_8e157 3 (some .int) 0 [.int x0, .int x1, w] (fun _ => True) (pI (fun _ r => True)) := by
  have key : (lg_sl [.int x0, .int x1, w]).length ≤ 3 ∧ lv_args 0 [.int x0, .int x1, w] = [(0, .int x0), (1, .int x1), (2, w)] := by
    rcases hw with rfl | ⟨a, rfl⟩ <;> exact ⟨Nat.le_of_ble_eq_true rfl, rfl⟩
  refine enter (by decide) key.1 ?_
  intro p e s m args below meth c ls Q hA hQ C hr hO hpre hl
  rw [key.2] at hl
  have hx := C.1
  have hb := C.2.1
  refine lv_iload_n hx hb dJ3_checkIndex_8e157_0 rfl (lv_at hl 0 rfl) ?_
  refine lv_if_lt (tgt := 9) hx hb dJ3_checkIndex_8e157_1 (by decide) (fun c1 => ?_) (fun c1 => ?_)
  · have := i_lt.mp c1
    exact absurd this (by simp; omega)
  · refine lv_iload_n hx hb dJ3_checkIndex_8e157_4 rfl (lv_at hl 0 rfl) ?_
    refine lv_iload_n hx hb dJ3_checkIndex_8e157_5 rfl (lv_at hl 1 rfl) ?_
    refine lv_icmp_lt (tgt := 16) hx hb dJ3_checkIndex_8e157_6 (by decide) (fun c2 => ?_) (fun c2 => ?_)
    · refine lv_iload_n hx hb dJ3_checkIndex_8e157_16 rfl (lv_at hl 0 rfl) ?_
      exact retP_i hQ C hr dJ3_checkIndex_8e157_17 trivial
    · exact absurd (i_lt.mpr h1.2) c2
theorem c_J0_checkIndex (l : Launch) (D : DD) (G : Nat → Nat) (x0 x1 : Int32) (h1 : 0 ≤ x0.toInt ∧ x0.toInt < x1.toInt) : CP l D G yJ0_checkIndex_df160 cJ0_checkIndex_df160 2 none 1 [.int x0, .int x1] (fun _ => True) (fun _ v => v = none) := by
  refine enter (by decide) (Nat.le_of_ble_eq_true rfl) ?_
  intro p e s m args below meth c ls Q hA hQ C hr hO hpre hl
  have hx := C.1
  have hb := C.2.1
  have hl : lv_has ls 2 [(0, .int x0), (1, .int x1)] := hl
  refine lv_iload_n hx hb dJ0_checkIndex_df160_0 rfl (lv_at hl 0 rfl) ?_
  refine lv_iload_n hx hb dJ0_checkIndex_df160_1 rfl (lv_at hl 1 rfl) ?_
  have key : ∀ w : Value, (w = .null ∨ ∃ a, w = .ref a) → W p l e (rmU 1 0 0) s m args below meth c s.heap [] 0 0 Q (F0 m 5 ls [w, .int x1, .int x0]) := by
    intro w hw
    refine callS_Pi (As := [.int x0, .int x1, w]) (rest := []) C hO (fun _ _ _ => rfl) (c_J3_checkIndex l D G x0 x1 w hw h1) kS_J0_1059 trivial dJ0_checkIndex_df160_5 hl.1 cd_J3_checkIndex_8e157 ⟨Nat.le_of_ble_eq_true rfl, Nat.le_of_ble_eq_true rfl, Nat.le_of_ble_eq_true rfl, Nat.le_of_ble_eq_true rfl, Nat.le_of_ble_eq_true rfl⟩ (fun v1 q1 => ?_)
    refine lv_pop hx hb dJ0_checkIndex_df160_8 rfl ?_
    exact retP_v hQ C hr dJ0_checkIndex_df160_9
  rcases C.2.2.2.2.2.2.2.2.1 with hz | ⟨t, hz⟩
  · exact va_gets (A := nz G) hx hb hz va_S.rf C.2.2.2.1 (C.2.2.2.2.1 _ kF_J0_1053) (fun _ h => h) dJ0_checkIndex_df160_2 (key _ (Or.inl rfl))
  · exact va_gets (A := nz G) hx hb hz va_S.rf C.2.2.2.1 (C.2.2.2.2.1 _ kF_J0_1053) (fun _ h => h) dJ0_checkIndex_df160_2 (key _ (Or.inr ⟨t, rfl⟩))
theorem chr_t : ∀ n : Fin 128, (((Int32.ofNat n.1 &&& 255).toUInt32 % 65536).toInt32).toInt = (n.1 : Int) := by decide +kernel
theorem chr_of {x : Int32} (h : 0 ≤ x.toInt ∧ x.toInt ≤ 127) : (((x &&& 255).toUInt32 % 65536).toInt32).toInt = x.toInt := by
  obtain ⟨n, hn, rfl⟩ : ∃ n : Nat, n < 128 ∧ x = Int32.ofNat n := ⟨x.toInt.toNat, by omega, Int32.toInt_inj.mp (by rw [i_of (by omega)]; omega)⟩
  rw [i_of (by omega)]
  exact chr_t ⟨n, hn⟩
theorem c_J1_charAt (l : Launch) (D : DD) (G : Nat → Nat) (b n : Nat) (x1 : Int32) (sb : D.1.2 98 b = n + 1) (h1 : 0 ≤ x1.toInt ∧ x1.toInt < n) : CP l D G yJ1_charAt_3b067 cJ1_charAt_3b067 2 (some .char) 2 [.ref b, .int x1] (fun _ => True) (pI (fun _ r => narrow .char (.int r) = .int r ∧ r.toInt = ((D.1.2 (100 + 2 * x1.toInt.toNat) b : Nat) : Int))) := by
  refine enter (by decide) (Nat.le_of_ble_eq_true rfl) ?_
  intro p e s m args below meth c ls Q hA hQ C hr hO hpre hl
  have hx := C.1
  have hb := C.2.1
  have hl : lv_has ls 2 [(0, .ref b), (1, .int x1)] := hl
  obtain ⟨b1, b2, cell, b3, b4, b5, b6, b7⟩ := bytU_at C sb
  refine lv_iload_n hx hb dJ1_charAt_3b067_0 rfl (lv_at hl 1 rfl) ?_
  refine lv_aload_n hx hb dJ1_charAt_3b067_1 rfl (lv_at hl 0 rfl) ?_
  refine W.alen hx hb b3 b4 (n := Int32.ofNat n) b6.2 rfl rfl dJ1_charAt_3b067_2 ?_
  refine callS_P (As := [.int x1, .int (Int32.ofNat n)]) (rest := []) C hO (fun _ _ _ => rfl) (c_J0_checkIndex l D G x1 (Int32.ofNat n) ⟨h1.1, by rw [i_of b2]; exact h1.2⟩) kS_J1_9 trivial dJ1_charAt_3b067_3 hl.1 cd_J0_checkIndex_df160 ⟨Nat.le_of_ble_eq_true rfl, Nat.le_of_ble_eq_true rfl, Nat.le_of_ble_eq_true rfl, Nat.le_of_ble_eq_true rfl, Nat.le_of_ble_eq_true rfl⟩ (fun v1 q1 => ?_)
  subst q1
  refine lv_aload_n hx hb dJ1_charAt_3b067_6 rfl (lv_at hl 0 rfl) ?_
  refine lv_iload_n hx hb dJ1_charAt_3b067_7 rfl (lv_at hl 1 rfl) ?_
  obtain ⟨x9, hx9, hx8, hx7⟩ := b7 x1.toInt.toNat (by omega)
  refine W.bald (v := .int x9) hx hb b3 b4 b5 (fun z => i_vin (n := n) h1.1 h1.2 (z.imp id (Nat.le_trans b6.1))) hx9 rfl rfl dJ1_charAt_3b067_8 ?_
  refine lv_sipush (v := 255) hx hb dJ1_charAt_3b067_9 (by decide) ?_
  refine lv_iand hx hb dJ1_charAt_3b067_12 ?_
  refine lv_i2c hx hb dJ1_charAt_3b067_13 rfl ?_
  exact retP_t hQ C hr dJ1_charAt_3b067_14 (pk_nc _) ⟨pk_nc _, (chr_of (by omega)).trans hx8⟩
theorem c_J0_charAt_5068e (l : Launch) (D : DD) (G : Nat → Nat) (a0 n0 : Nat) (x1 : Int32) (sa : D.1.2 99 a0 = n0 + 1) (h1 : 0 ≤ x1.toInt ∧ x1.toInt < n0) : CP l D G yJ0_charAt_5068e cJ0_charAt_5068e 2 (some .char) 3 [.ref a0, .int x1] (fun _ => True) (pI (fun _ r => r.toInt = ((D.1.2 (101 + 2 * x1.toInt.toNat) a0 : Nat) : Int))) := by
  refine enter (by decide) (Nat.le_of_ble_eq_true rfl) ?_
  intro p e s m args below meth c ls Q hA hQ C hr hO hpre hl
  have hx := C.1
  have hb := C.2.1
  have hl : lv_has ls 2 [(0, .ref a0), (1, .int x1)] := hl
  obtain ⟨s1, s2, b, s4, s5⟩ := strU_at C sa
  refine lv_aload_n hx hb dJ0_charAt_5068e_0 rfl (lv_at hl 0 rfl) ?_
  refine callR_Pi (As := []) C hO (fun _ _ _ => rfl) (c_J0_isLatin1 l D G a0 n0 sa) kV_J0_492 (str_recv C (fun _ _ _ => rfl) sa) trivial dJ0_charAt_5068e_1 hl.1 cd_J0_isLatin1_aae02 ⟨Nat.le_of_ble_eq_true rfl, Nat.le_of_ble_eq_true rfl, Nat.le_of_ble_eq_true rfl, Nat.le_of_ble_eq_true rfl, Nat.le_of_ble_eq_true rfl⟩ (fun v1 q1 => ?_)
  subst q1
  refine lv_if_eq (tgt := 16) hx hb dJ0_charAt_5068e_4 (by decide) (fun c1 => absurd c1 (by decide)) (fun c1 => ?_)
  refine lv_aload_n hx hb dJ0_charAt_5068e_7 rfl (lv_at hl 0 rfl) ?_
  refine vk_getf (A := nz G) hx hb s4 va_S.rf C.2.2.2.1 (C.2.2.2.2.1 _ kF_J0_9) (fun _ h => h) dJ0_charAt_5068e_8 ?_
  refine lv_iload_n hx hb dJ0_charAt_5068e_11 rfl (lv_at hl 1 rfl) ?_
  refine callS_Pi (As := [.ref b, .int x1]) (rest := []) C hO (fun _ _ _ => rfl) (c_J1_charAt l D G b n0 x1 s5.1 h1) kS_J0_495 trivial dJ0_charAt_5068e_12 hl.1 cd_J1_charAt_3b067 ⟨Nat.le_of_ble_eq_true rfl, Nat.le_of_ble_eq_true rfl, Nat.le_of_ble_eq_true rfl, Nat.le_of_ble_eq_true rfl, Nat.le_of_ble_eq_true rfl⟩ (fun v2 q2 => ?_)
  exact retP_t hQ C hr dJ0_charAt_5068e_15 q2.1 (by rw [s5.2 _ (by omega)]; exact q2.2)
