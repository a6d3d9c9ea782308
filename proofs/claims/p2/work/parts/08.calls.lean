/-! contracts: a method that leaves the heap as it is (CP), one that writes fields of E (CE) -/
def QP (post : Heap → Option Value → Prop) : Array Value → State → Outcome → State → Prop := fun _ st o t => ∃ v, o = .returned v ∧ t.heap = st.heap ∧ post st.heap v
def QE (D : DD) (G : Nat → Nat) (E : List (Nat × Nat)) (post : Heap → Option Value → Heap → Prop) : Array Value → State → Outcome → State → Prop := fun _ st o t => ∃ v, o = .returned v ∧ Ok D G t.heap ∧ Keep D G E st.heap t.heap ∧ post st.heap v t.heap
def PcU (D : DD) (G : Nat → Nat) (av : List Value) (Pre : Heap → Prop) : Array Value → State → Prop := va_Pc av (fun U => Kn D U ∧ Ok D G U.heap ∧ Pre U.heap)
def CP (l : Launch) (D : DD) (G : Nat → Nat) (y : MethodName) (cc : ByteArray) (nL : Nat) (ret : Option FieldType) (h : Nat) (av : List Value) (Pre : Heap → Prop) (post : Heap → Option Value → Prop) : Prop :=
  Met l y (wsU y cc nL ret) (rmU h 0 0) (PcU D G av Pre) (QP post) 0 0 (fun _ => False)
def CE (l : Launch) (D : DD) (G : Nat → Nat) (y : MethodName) (cc : ByteArray) (nL : Nat) (ret : Option FieldType) (h : Nat) (av : List Value) (Pre : Heap → Prop) (E : List (Nat × Nat)) (post : Heap → Option Value → Heap → Prop) : Prop :=
  Met l y (wsU y cc nL ret) (rmU h 0 0) (PcU D G av Pre) (QE D G E post) 0 0 (fun q => G q ≠ 0)
theorem PcU.blind {D : DD} {G : Nat → Nat} {av : List Value} {Pre : Heap → Prop} : FrameBlind (PcU D G av Pre) := fun a U g mk h => by
  obtain ⟨h1, h2, h3⟩ := h
  exact ⟨h1, Kn.moved (u := U) (U := U.calling g mk a) (Vm.Alike.refl U.vm) h2, h3⟩
theorem good_word {w : Cond} (h : w ∈ lw_good) : (w.onTables && w.keeps) = true ∨ ∃ ty, w = .arrayClass ty := good_of_word (List.mem_filter.mp h).2
theorem goodU {y : MethodName} {cc : ByteArray} {nL : Nat} {ret : Option FieldType} (hc : Cond.code y cc nL ret ∈ lw_good) : GoodIn lw_good (wsU y cc nL ret) := by
  intro w hw
  rcases List.mem_cons.mp hw with rfl | hw
  · exact ⟨hc, good_word hc⟩
  · exact ⟨hw, good_word hw⟩
section Enter
variable {l : Launch} {D : DD} {G : Nat → Nat} {y : MethodName} {cc : ByteArray} {nL : Nat} {ret : Option FieldType} {h mc ms : Nat} {av : List Value} {Pre : Heap → Prop} {E : List (Nat × Nat)}
theorem enter {free : Addr → Prop} {Qc : Array Value → State → Outcome → State → Prop} (hy : plainName y.cls = true) (hlen : (lg_sl av).length ≤ nL)
    (body : ∀ p e s m below meth c ls, Cx D p s m av.toArray meth c y.cls cc nL → meth.sig.returnType = ret → Ok D G s.heap → Pre s.heap → lv_has ls nL (lv_args 0 av) → W p l e (rmU h mc ms) s m av.toArray below meth c s.heap [] 0 0 (MQ below Qc av.toArray s mc ms free) (F0 m 0 ls [])) :
    Met l y (wsU y cc nL ret) (rmU h mc ms) (PcU D G av Pre) Qc mc ms free := by
  refine Met.ofW (cc := cc) (maxL := nL) (ret := ret) hy rfl ?_
  intro p e s m args below meth c s₁ X hml hv
  obtain ⟨rfl, hk, hB, hpre⟩ := hv
  have hts := atoms_spec (ws := wsU y cc nL ret) X.pre
  have hl := lv_entry av (n := nL) hlen
  rw [lg_entry_eq]
  exact body p e s m below meth c _ ⟨X.exec, X.bytes, hml, findClass_of_methodNamed X.named, fun w hw => hts w (List.mem_cons_of_mem _ hw), X.notSynchronized, hk⟩ X.returns hB hpre hl
end Enter
section Calls
variable {p : Program} {l : Launch} {e : Env} {R : Room} {s : State} {m : MethodId} {args : Array Value} {below : List Frame} {meth : Method} {c : Code} {H H0 : Heap} {locs : List Loc} {cells slots : Nat} {Q : State → Prop}
variable {cc cc' : ByteArray} {pc nL nL' idx h : Nat} {ls : Array Slot} {rest As : List Value} {D : DD} {G : Nat → Nat} {own : String} {E Ec : List (Nat × Nat)} {y : MethodName} {ret : Option FieldType} {Pre : Heap → Prop} {post : Heap → Option Value → Prop} {postE : Heap → Option Value → Heap → Prop}
/-- what a call's text decides -/
abbrev Cd (y : MethodName) (n : Nat) : Prop := y.cls ≠ "java/lang/invoke/MethodHandle" ∧ y.cls ≠ "java/lang/invoke/VarHandle" ∧ (parseMethodDescriptor y.desc).map (fun d => d.parameters.length) = some n
abbrev Rm (R : Room) (h nL' : Nat) (cells slots : Nat) (rest : List Value) : Prop := h + 9 ≤ R.frames ∧ 8 + (nL' + 11) + (150 + 40 * h) ≤ R.locals ∧ cells ≤ R.cells ∧ slots ≤ R.slots ∧ (rest.map fun v => v.category).sum ≤ 8
theorem cbU (C : Cx D p s m args meth c own cc nL) {n : Nat} (hcode : Cond.code y cc' nL' ret ∈ lw_good) (hini : Cond.initialized y.cls ∈ lw_good) (hl : Cond.methodLink own idx y ∈ lw_good) (hd : Cd y n) (hR : Rm R h nL' cells slots rest) :
    CallB R s args own idx y cc' nL' ret (wsU y cc' nL' ret) (rmU h 0 0) 0 0 n :=
  callB_of n C.2.2.2.2.1 (goodU hcode) rfl rfl rfl (C.2.2.2.2.1 _ hini) (C.2.2.2.2.1 _ hl) hd ⟨hR.1, hR.2.1⟩
theorem recvU (C : Cx D p s m args meth c own cc nL) (hO : Ok D G H) {b r ci N : Nat} {Cn : String} {T : u_T} (hb : G b = r) (hr : ro r = some (ci, N)) (hc : vwCl[ci]? = some (Cn, T, N)) (h0 : r ≠ 0) : ∃ cellB : Cell, H[b]? = some cellB ∧ cellB.vm.isStatics = false ∧ s.vm.findClass Cn = some cellB.cls := by
  obtain ⟨⟨cell, q1, q2, q3, -⟩, -⟩ := hO.ob hb hr h0
  exact ⟨cell, q1, by rw [q3]; rfl, by rw [q2]; exact (C.2.2.2.2.2.2.1 ci _ hc).2.1⟩
theorem doneP (hr : va_Run p l e R s m args below meth c H locs cells slots 0 0 (F0 m pc ls (As.reverse ++ rest)) rest (QP post (As).toArray) (fun _ => False))
    (kk : ∀ v, post H v → W p l e R s m args below meth c H locs cells slots Q (F0 m (pc + 3) ls (v.toList ++ rest))) : W p l e R s m args below meth c H locs cells slots Q (F0 m pc ls (As.reverse ++ rest)) := by
  intro T hT X
  obtain ⟨v, st₀, t, T', L, h0, X', hL, e1, e2, ⟨v', hv, hh, hp⟩, st⟩ := hr T hT X
  cases hv
  rw [h0] at hp hh
  obtain ⟨t2, a1, b1⟩ := kk v hp T' (by rw [e1, hh]) (Stand.forget X' (fun q h => (hL q h).elim))
  exact ⟨t2, st t2 a1, b1⟩
theorem doneE (S : Sd D G E H0 H locs) (hE : ∀ x ∈ Ec, x ∈ E) (hr : va_Run p l e R s m args below meth c H locs cells slots 0 0 (F0 m pc ls (As.reverse ++ rest)) rest (QE D G Ec postE (As).toArray) (fun q => G q ≠ 0))
    (kk : ∀ v H1 locs1, Sd D G E H0 H1 locs1 → Keep D G Ec H H1 → postE H v H1 → W p l e R s m args below meth c H1 locs1 cells slots Q (F0 m (pc + 3) ls (v.toList ++ rest))) : W p l e R s m args below meth c H locs cells slots Q (F0 m pc ls (As.reverse ++ rest)) := by
  intro T hT X
  obtain ⟨v, st₀, t, T', L, h0, X', hL, e1, e2, ⟨v', hv, hO, hK, hp⟩, st⟩ := hr T hT X
  cases hv
  rw [h0] at hp hK
  obtain ⟨t2, a1, b1⟩ := kk v t.heap (locs ++ L) ⟨hO, S.2.1.then hK hE, fun z hz => (List.mem_append.mp hz).elim (S.2.2 z) (hL z)⟩ hK hp T' e1 X'
  exact ⟨t2, st t2 a1, b1⟩
theorem callV_P (C : Cx D p s m args meth c own cc nL) (hO : Ok D G H) {b r ci N : Nat} {T : u_T} (hM : CP l D G y cc' nL' ret h (.ref b :: As) Pre post) (hw : ∀ w ∈ ([.methodLink own idx y, .instanceMethod y, .selects y.cls y y, .initialized y.cls, .code y cc' nL' ret] : List Cond), w ∈ lw_good)
    (hb : G b = r) (hpre : Pre H) (hdg : decode cc pc = .ok (.invokevirtual idx, 3)) (hsz : ls.size = nL) (hr : ro r = some (ci, N)) (hc : vwCl[ci]? = some (y.cls, T, N)) (h0 : r ≠ 0) (hd : Cd y As.length) (hR : Rm R h nL' cells slots rest)
    (kk : ∀ v, post H v → W p l e R s m args below meth c H locs cells slots Q (F0 m (pc + 3) ls (v.toList ++ rest))) : W p l e R s m args below meth c H locs cells slots Q (F0 m pc ls (As.reverse ++ .ref b :: rest)) := by
  have hts := C.2.2.2.2.1
  have g := va_runV (g := F0 m pc ls (As.reverse ++ .ref b :: rest)) (rest := rest) (R := R) (locs := locs) (cells := cells) (slots := slots) (below := below) (meth := meth) (H := H) (e := e) (nL := nL) ⟨C.1, C.2.1, C.2.2.1, C.2.2.2.1, hts⟩ hM ⟨cbU C (hw _ (by simp)) (hw _ (by simp)) (hw _ (by simp)) hd hR, hts _ (hw _ (by simp)), hts _ (hw _ (by simp))⟩
    ⟨PcU.blind, recvU C hO hb hr hc h0, fun U hU hW => ⟨rfl, C.2.2.2.2.2.2.moved hW.alike, by rw [hU]; exact hO, by rw [hU]; exact hpre⟩⟩ rfl rfl hsz rfl (by show 2 * 0 + _ ≤ 8; simpa using hR.2.2.2.2) hdg ⟨hR.2.2.1, hR.2.2.2.1⟩
  have e9 : As.reverse ++ .ref b :: rest = (.ref b :: As).reverse ++ rest := by simp
  rw [e9] at g ⊢
  exact doneP g kk
theorem callV_E (C : Cx D p s m args meth c own cc nL) (S : Sd D G E H0 H locs) {b r ci N : Nat} {T : u_T} (hM : CE l D G y cc' nL' ret h (.ref b :: As) Pre Ec postE) (hw : ∀ w ∈ ([.methodLink own idx y, .instanceMethod y, .selects y.cls y y, .initialized y.cls, .code y cc' nL' ret] : List Cond), w ∈ lw_good)
    (hb : G b = r) (hpre : Pre H) (hE : ∀ x ∈ Ec, x ∈ E) (hdg : decode cc pc = .ok (.invokevirtual idx, 3)) (hsz : ls.size = nL) (hr : ro r = some (ci, N)) (hc : vwCl[ci]? = some (y.cls, T, N)) (h0 : r ≠ 0) (hd : Cd y As.length) (hR : Rm R h nL' cells slots rest)
    (kk : ∀ v H1 locs1, Sd D G E H0 H1 locs1 → Keep D G Ec H H1 → postE H v H1 → W p l e R s m args below meth c H1 locs1 cells slots Q (F0 m (pc + 3) ls (v.toList ++ rest))) : W p l e R s m args below meth c H locs cells slots Q (F0 m pc ls (As.reverse ++ .ref b :: rest)) := by
  have hts := C.2.2.2.2.1
  have hO := S.1
  have g := va_runV (g := F0 m pc ls (As.reverse ++ .ref b :: rest)) (rest := rest) (R := R) (locs := locs) (cells := cells) (slots := slots) (below := below) (meth := meth) (H := H) (e := e) (nL := nL) ⟨C.1, C.2.1, C.2.2.1, C.2.2.2.1, hts⟩ hM ⟨cbU C (hw _ (by simp)) (hw _ (by simp)) (hw _ (by simp)) hd hR, hts _ (hw _ (by simp)), hts _ (hw _ (by simp))⟩
    ⟨PcU.blind, recvU C hO hb hr hc h0, fun U hU hW => ⟨rfl, C.2.2.2.2.2.2.moved hW.alike, by rw [hU]; exact hO, by rw [hU]; exact hpre⟩⟩ rfl rfl hsz rfl (by show 2 * 0 + _ ≤ 8; simpa using hR.2.2.2.2) hdg ⟨hR.2.2.1, hR.2.2.2.1⟩
  have e9 : As.reverse ++ .ref b :: rest = (.ref b :: As).reverse ++ rest := by simp
  rw [e9] at g ⊢
  exact doneE S hE g kk
theorem callS_P (C : Cx D p s m args meth c own cc nL) (hO : Ok D G H) (hM : CP l D G y cc' nL' ret h As Pre post) (hw : ∀ w ∈ ([.methodLink own idx y, .static y, .initialized y.cls, .code y cc' nL' ret] : List Cond), w ∈ lw_good)
    (hpre : Pre H) (hdg : decode cc pc = .ok (.invokestatic idx, 3)) (hsz : ls.size = nL) (hd : Cd y As.length) (hR : Rm R h nL' cells slots rest)
    (kk : ∀ v, post H v → W p l e R s m args below meth c H locs cells slots Q (F0 m (pc + 3) ls (v.toList ++ rest))) : W p l e R s m args below meth c H locs cells slots Q (F0 m pc ls (As.reverse ++ rest)) := by
  have hts := C.2.2.2.2.1
  have g := va_runS (g := F0 m pc ls (As.reverse ++ rest)) (rest := rest) (R := R) (locs := locs) (cells := cells) (slots := slots) (below := below) (meth := meth) (H := H) (e := e) (nL := nL) ⟨C.1, C.2.1, C.2.2.1, C.2.2.2.1, hts⟩ hM ⟨cbU C (hw _ (by simp)) (hw _ (by simp)) (hw _ (by simp)) hd hR, hts _ (hw _ (by simp))⟩
    ⟨PcU.blind, fun U hU hW => ⟨rfl, C.2.2.2.2.2.2.moved hW.alike, by rw [hU]; exact hO, by rw [hU]; exact hpre⟩⟩ rfl rfl hsz rfl (by show 2 * 0 + _ ≤ 8; simpa using hR.2.2.2.2) hdg ⟨hR.2.2.1, hR.2.2.2.1⟩
  exact doneP g kk
theorem retP_i (C : Cx D p s m args meth c own cc nL) (hr : meth.sig.returnType = some .int) {v : Int32} (hdg : decode cc pc = .ok (.ireturn, 1)) (hp : post s.heap (some (.int v))) : W p l e R s m args below meth c s.heap [] 0 0 (MQ below (QP post) args s 0 0 (fun _ => False)) (F0 m pc ls [.int v]) :=
  W.iret C.1 C.2.1 hr (fun t ht hW => ⟨_, rfl, ht, hp⟩) (fun q h => nomatch h) hdg (hlocks := C.2.2.2.2.2.1)
theorem retP_z (C : Cx D p s m args meth c own cc nL) (hr : meth.sig.returnType = some .boolean) {v : Int32} (hdg : decode cc pc = .ok (.ireturn, 1)) (hv : v = 0 ∨ v = 1) (hp : post s.heap (some (.int v))) : W p l e R s m args below meth c s.heap [] 0 0 (MQ below (QP post) args s 0 0 (fun _ => False)) (F0 m pc ls [.int v]) :=
  W.zret C.1 C.2.1 hr (by rcases hv with rfl | rfl <;> rfl) (fun t ht hW => ⟨_, rfl, ht, hp⟩) (fun q h => nomatch h) hdg (hlocks := C.2.2.2.2.2.1)
theorem retE_i (C : Cx D p s m args meth c own cc nL) (S : Sd D G E s.heap H locs) (hr : meth.sig.returnType = some .int) {v : Int32} (hdg : decode cc pc = .ok (.ireturn, 1)) (hp : postE s.heap (some (.int v)) H) : W p l e R s m args below meth c H locs 0 0 (MQ below (QE D G E postE) args s 0 0 (fun q => G q ≠ 0)) (F0 m pc ls [.int v]) :=
  W.iret C.1 C.2.1 hr (fun t ht hW => ⟨_, rfl, by rw [ht]; exact S.1, by rw [ht]; exact S.2.1, by rw [ht]; exact hp⟩) S.2.2 hdg (hlocks := C.2.2.2.2.2.1)
theorem retE_z (C : Cx D p s m args meth c own cc nL) (S : Sd D G E s.heap H locs) (hr : meth.sig.returnType = some .boolean) {v : Int32} (hdg : decode cc pc = .ok (.ireturn, 1)) (hv : v = 0 ∨ v = 1) (hp : postE s.heap (some (.int v)) H) : W p l e R s m args below meth c H locs 0 0 (MQ below (QE D G E postE) args s 0 0 (fun q => G q ≠ 0)) (F0 m pc ls [.int v]) :=
  W.zret C.1 C.2.1 hr (by rcases hv with rfl | rfl <;> rfl) (fun t ht hW => ⟨_, rfl, by rw [ht]; exact S.1, by rw [ht]; exact S.2.1, by rw [ht]; exact hp⟩) S.2.2 hdg (hlocks := C.2.2.2.2.2.1)
theorem retE_v (C : Cx D p s m args meth c own cc nL) (S : Sd D G E s.heap H locs) (hr : meth.sig.returnType = none) (hdg : decode cc pc = .ok (.return_, 1)) (hp : postE s.heap none H) : W p l e R s m args below meth c H locs 0 0 (MQ below (QE D G E postE) args s 0 0 (fun q => G q ≠ 0)) (F0 m pc ls []) :=
  W.vret C.1 C.2.1 hr (fun t ht hW => ⟨_, rfl, by rw [ht]; exact S.1, by rw [ht]; exact S.2.1, by rw [ht]; exact hp⟩) S.2.2 hdg (hlocks := C.2.2.2.2.2.1)
end Calls
