/-! calls of a method that the receiver's class inherits or overrides -/
theorem mem_dec {L : List Cond} (h : L.all (fun w => decide (w ∈ lw_tbl) && goodWord w) = true) : ∀ w ∈ L, w ∈ lw_good := by
  intro w hw
  have h1 := List.all_eq_true.mp h w hw
  simp only [Bool.and_eq_true, decide_eq_true_eq] at h1
  exact List.mem_filter.mpr ⟨h1.1, h1.2⟩
theorem mem_cst {w : Cond} (h : (decide (w ∈ lw_tbl) && lw_isc w) = true) : w ∈ lw_cast := by
  simp only [Bool.and_eq_true, decide_eq_true_eq] at h
  exact List.mem_filter.mpr ⟨h.1, h.2⟩
def yRL : MethodName := ⟨RX10, "readLine", "()Z"⟩
def yRL4 : MethodName := ⟨RX4, "readLines", "()Z"⟩
def yRL6 : MethodName := ⟨RX6, "readLines", "()Z"⟩
theorem kU_rl4 : ∀ w ∈ ([.methodLink RX10 29 yRL, .sameMethod RX10 RX10 "readLine" "()Z", .selects RX4 yRL yX4_readLine, .instanceMethod yX4_readLine, .initialized RX4, .code yX4_readLine cX4_readLine 4 (some .boolean)] : List Cond), w ∈ lw_good := mem_dec (by decide +kernel)
theorem kU_rl6 : ∀ w ∈ ([.methodLink RX10 29 yRL, .sameMethod RX10 RX10 "readLine" "()Z", .selects RX6 yRL yX6_readLine, .instanceMethod yX6_readLine, .initialized RX6, .code yX6_readLine cX6_readLine 1 (some .boolean)] : List Cond), w ∈ lw_good := mem_dec (by decide +kernel)
theorem kU_X11_81 : ∀ w ∈ ([.methodLink RX11 81 yRL6, .sameMethod RX6 RX10 "readLines" "()Z", .selects RX6 yRL6 yX10_readLines, .instanceMethod yX10_readLines, .initialized RX10, .code yX10_readLines cX10_readLines 2 (some .boolean)] : List Cond), w ∈ lw_good := mem_dec (by decide +kernel)
theorem kU_X11_109 : ∀ w ∈ ([.methodLink RX11 109 yRL4, .sameMethod RX4 RX10 "readLines" "()Z", .selects RX4 yRL4 yX10_readLines, .instanceMethod yX10_readLines, .initialized RX10, .code yX10_readLines cX10_readLines 2 (some .boolean)] : List Cond), w ∈ lw_good := mem_dec (by decide +kernel)
theorem kD_rl : Cond.declares ⟨RX10, "readLine", "()Z"⟩ ∈ lw_cast := mem_cst (by decide +kernel)
theorem kD_rls : Cond.declares ⟨RX10, "readLines", "()Z"⟩ ∈ lw_cast := mem_cst (by decide +kernel)
section CallU
variable {p : Program} {l : Launch} {e : Env} {R : Room} {s : State} {m : MethodId} {args : Array Value} {below : List Frame} {meth : Method} {c : Code} {H H0 : Heap} {locs : List Loc} {cells slots : Nat} {Q : State → Prop}
variable {cc cc' : ByteArray} {pc nL nL' idx h : Nat} {ls : Array Slot} {rest As : List Value} {D : DD} {G : Nat → Nat} {own owner Cn : String} {E Ec : List (Nat × Nat)} {x y : MethodName} {ret : Option FieldType} {Pre : Heap → Prop} {postE : Heap → Option Value → Heap → Prop}
theorem callU_E (C : Cx D G p s m args meth c own cc nL) (S : Sd D G E s.heap H locs) {b r ci N : Nat} {T : u_T} (hM : CE l D G y cc' nL' ret h (.ref b :: As) Pre Ec postE) (hw : ∀ w ∈ ([.methodLink own idx x, .sameMethod x.cls owner x.name x.desc, .selects Cn x y, .instanceMethod y, .initialized y.cls, .code y cc' nL' ret] : List Cond), w ∈ lw_good) (hdc : Cond.declares ⟨owner, x.name, x.desc⟩ ∈ lw_cast)
    (hb : G b = r) (hpre : Pre H) (hE : ∀ x ∈ Ec, x ∈ E) (hdg : decode cc pc = .ok (.invokevirtual idx, 3)) (hsz : ls.size = nL) (hr : ro r = some (ci, N)) (hc : vwCl[ci]? = some (Cn, T, N)) (h0 : r ≠ 0) (hd : owner ≠ "java/lang/invoke/MethodHandle" ∧ owner ≠ "java/lang/invoke/VarHandle" ∧ (parseMethodDescriptor x.desc).map (fun d => d.parameters.length) = some As.length) (hR : Rm R h nL' cells slots rest)
    (kk : ∀ v H1 locs1, Sd D G E s.heap H1 locs1 → Keep D G Ec H H1 → postE H v H1 → W p l e R s m args below meth c H1 locs1 cells slots Q (F0 m (pc + 3) ls (v.toList ++ rest))) : W p l e R s m args below meth c H locs cells slots Q (F0 m pc ls (As.reverse ++ .ref b :: rest)) := by
  have hts := C.2.2.2.2.1
  have hO := S.1
  have hz := S.2.1.2.1
  have hgi : GoodIn lw_good (va_wsU own idx Cn owner x y (wsU y cc' nL' ret)) := by
    intro w h9
    have hm : w ∈ lw_good := by
      rcases List.mem_append.mp h9 with h8 | h8
      · exact hw w (by
          simp only [List.mem_cons, List.not_mem_nil, or_false] at h8 ⊢
          rcases h8 with h8 | h8 | h8 | h8 | h8 <;> simp [h8])
      · exact (goodU (hw _ (by simp)) w h8).1
    exact ⟨hm, good_word hm⟩
  have g := va_runU (g := F0 m pc ls (As.reverse ++ .ref b :: rest)) (rest := rest) (R := R) (locs := locs) (cells := cells) (slots := slots) (below := below) (meth := meth) (H := H) (e := e) (nL := nL) ⟨C.1, C.2.1, C.2.2.1, C.2.2.2.1, hts⟩ hM (va_cwA As.length hts hgi rfl rfl rfl (C.2.2.2.2.2.2.2.2.2.2.2.1.1 _ hdc) hd ⟨hR.1, hR.2.1⟩)
    ⟨PcU.blind, recvU C hO hb hr hc h0, fun U hU hW => ⟨rfl, C.2.2.2.2.2.2.1.moved hW.alike, by rw [hU]; exact C.2.2.2.2.2.2.2.move hW hz, by rw [hU]; exact hO, by rw [hU]; exact hpre⟩⟩ rfl rfl hsz rfl (by show 2 * 0 + _ ≤ 8; simpa using hR.2.2.2.2) hdg ⟨hR.2.2.1, hR.2.2.2.1⟩
  have e9 : As.reverse ++ .ref b :: rest = (.ref b :: As).reverse ++ rest := by simp
  rw [e9] at g ⊢
  exact doneE S hE g kk
theorem callU_Ei {f : Heap → Int32 → Heap → Prop} (C : Cx D G p s m args meth c own cc nL) (S : Sd D G E s.heap H locs) {b r ci N : Nat} {T : u_T} (hM : CE l D G y cc' nL' ret h (.ref b :: As) Pre Ec (xI f)) (hw : ∀ w ∈ ([.methodLink own idx x, .sameMethod x.cls owner x.name x.desc, .selects Cn x y, .instanceMethod y, .initialized y.cls, .code y cc' nL' ret] : List Cond), w ∈ lw_good) (hdc : Cond.declares ⟨owner, x.name, x.desc⟩ ∈ lw_cast)
    (hb : G b = r) (hpre : Pre H) (hE : ∀ x ∈ Ec, x ∈ E) (hdg : decode cc pc = .ok (.invokevirtual idx, 3)) (hsz : ls.size = nL) (hr : ro r = some (ci, N)) (hc : vwCl[ci]? = some (Cn, T, N)) (h0 : r ≠ 0) (hd : owner ≠ "java/lang/invoke/MethodHandle" ∧ owner ≠ "java/lang/invoke/VarHandle" ∧ (parseMethodDescriptor x.desc).map (fun d => d.parameters.length) = some As.length) (hR : Rm R h nL' cells slots rest)
    (kk : ∀ v H1 locs1, Sd D G E s.heap H1 locs1 → Keep D G Ec H H1 → f H v H1 → W p l e R s m args below meth c H1 locs1 cells slots Q (F0 m (pc + 3) ls (.int v :: rest))) : W p l e R s m args below meth c H locs cells slots Q (F0 m pc ls (As.reverse ++ .ref b :: rest)) :=
  callU_E C S hM hw hdc hb hpre hE hdg hsz hr hc h0 hd hR (fun v H1 L1 S1 K1 hv => by obtain ⟨r9, rfl, h9⟩ := hv; exact kk r9 H1 L1 S1 K1 h9)
end CallU
