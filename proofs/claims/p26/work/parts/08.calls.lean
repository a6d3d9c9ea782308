/-! contracts: a method that leaves the heap as it is (CP), one that writes fields of E (CE) -/
def QP (post : Heap → Option Value → Prop) : Array Value → State → Outcome → State → Prop := fun _ st o t => ∃ v, o = .returned v ∧ t.heap = st.heap ∧ post st.heap v
def QE (D : DD) (G : Nat → Nat) (E : List (Nat × Nat)) (post : Heap → Option Value → Heap → Prop) : Array Value → State → Outcome → State → Prop := fun _ st o t => ∃ v, o = .returned v ∧ Ok D G t.heap ∧ Keep D G E st.heap t.heap ∧ post st.heap v t.heap
def PcU (D : DD) (G : Nat → Nat) (av : List Value) (Pre : Heap → Prop) : Array Value → State → Prop := va_Pc av (fun U => Kn D U ∧ Zs D G U U.heap ∧ Ok D G U.heap ∧ Pre U.heap)
def CP (l : Launch) (D : DD) (G : Nat → Nat) (y : MethodName) (cc : ByteArray) (nL : Nat) (ret : Option FieldType) (h : Nat) (av : List Value) (Pre : Heap → Prop) (post : Heap → Option Value → Prop) : Prop :=
  Met l y (wsU y cc nL ret) (rmU h 0 0) (PcU D G av Pre) (QP post) 0 0 (fun _ => False)
def CE (l : Launch) (D : DD) (G : Nat → Nat) (y : MethodName) (cc : ByteArray) (nL : Nat) (ret : Option FieldType) (h : Nat) (av : List Value) (Pre : Heap → Prop) (E : List (Nat × Nat)) (post : Heap → Option Value → Heap → Prop) : Prop :=
  Met l y (wsU y cc nL ret) (rmU h 0 0) (PcU D G av Pre) (QE D G E post) 0 0 (fun q => G q ≠ 0)
theorem PcU.blind {D : DD} {G : Nat → Nat} {av : List Value} {Pre : Heap → Prop} : FrameBlind (PcU D G av Pre) := fun a U g mk h => by
  obtain ⟨h1, h2, h3, h4⟩ := h
  exact ⟨h1, Kn.moved (u := U) (U := U.calling g mk a) (Vm.Alike.refl U.vm) h2, Zs.move (U := U.calling g mk a) h3 (State.WarmedH.refl U) (fun _ _ _ => rfl), h4⟩
theorem good_word {w : Cond} (h : w ∈ lw_good) : (w.onTables && w.keeps) = true ∨ ∃ ty, w = .arrayClass ty := good_of_word (List.mem_filter.mp h).2
theorem goodU {y : MethodName} {cc : ByteArray} {nL : Nat} {ret : Option FieldType} (hc : Cond.code y cc nL ret ∈ lw_good) : GoodIn lw_good (wsU y cc nL ret) := by
  intro w hw
  rcases List.mem_cons.mp hw with rfl | hw
  · exact ⟨hc, good_word hc⟩
  · exact ⟨hw, good_word hw⟩
section Enter
variable {l : Launch} {D : DD} {G : Nat → Nat} {y : MethodName} {cc : ByteArray} {nL : Nat} {ret : Option FieldType} {h mc ms : Nat} {av : List Value} {Pre : Heap → Prop} {E : List (Nat × Nat)}
theorem enter {free : Addr → Prop} {Qc : Array Value → State → Outcome → State → Prop} (hy : plainName y.cls = true) (hlen : (lg_sl av).length ≤ nL)
    (body : ∀ p e s m args below meth c ls Q, args = av.toArray → Q = MQ below Qc args s mc ms free → Cx D G p s m args meth c y.cls cc nL → meth.sig.returnType = ret → Ok D G s.heap → Pre s.heap → lv_has ls nL (lv_args 0 av) → W p l e (rmU h mc ms) s m args below meth c s.heap [] 0 0 Q (F0 m 0 ls [])) :
    Met l y (wsU y cc nL ret) (rmU h mc ms) (PcU D G av Pre) Qc mc ms free := by
  refine Met.ofW (cc := cc) (maxL := nL) (ret := ret) hy rfl ?_
  intro p e s m args below meth c s₁ X hml hv
  obtain ⟨hav, hk, hz, hB, hpre⟩ := hv
  have hts := atoms_spec (ws := wsU y cc nL ret) X.pre
  have hl := lv_entry av (n := nL) hlen
  have g := body p e s m args below meth c _ _ hav rfl ⟨X.exec, X.bytes, hml, findClass_of_methodNamed X.named, fun w hw => hts w (List.mem_cons_of_mem _ hw), X.notSynchronized, hk, hz⟩ X.returns hB hpre hl
  rw [hav] at g ⊢
  rw [lg_entry_eq]
  exact g
end Enter
section Calls
variable {p : Program} {l : Launch} {e : Env} {R : Room} {s : State} {m : MethodId} {args : Array Value} {below : List Frame} {meth : Method} {c : Code} {H H0 : Heap} {locs : List Loc} {cells slots : Nat} {Q : State → Prop}
variable {cc cc' : ByteArray} {pc nL nL' idx h : Nat} {ls : Array Slot} {rest As : List Value} {D : DD} {G : Nat → Nat} {own : String} {E Ec : List (Nat × Nat)} {y : MethodName} {ret : Option FieldType} {Pre : Heap → Prop} {post : Heap → Option Value → Prop} {postE : Heap → Option Value → Heap → Prop}
/-- what a call's text decides -/
abbrev Cd (y : MethodName) (n : Nat) : Prop := y.cls ≠ "java/lang/invoke/MethodHandle" ∧ y.cls ≠ "java/lang/invoke/VarHandle" ∧ (parseMethodDescriptor y.desc).map (fun d => d.parameters.length) = some n
abbrev Rm (R : Room) (h nL' : Nat) (cells slots : Nat) (rest : List Value) : Prop := h + 9 ≤ R.frames ∧ 8 + (nL' + 11) + (150 + 40 * h) ≤ R.locals ∧ cells ≤ R.cells ∧ slots ≤ R.slots ∧ (rest.map fun v => v.category).sum ≤ 8
theorem cbU (C : Cx D G p s m args meth c own cc nL) {n : Nat} (hcode : Cond.code y cc' nL' ret ∈ lw_good) (hini : Cond.initialized y.cls ∈ lw_good) (hl : Cond.methodLink own idx y ∈ lw_good) (hd : Cd y n) (hR : Rm R h nL' cells slots rest) :
    CallB R s args own idx y cc' nL' ret (wsU y cc' nL' ret) (rmU h 0 0) 0 0 n :=
  callB_of n C.2.2.2.2.1 (goodU hcode) rfl rfl rfl (C.2.2.2.2.1 _ hini) (C.2.2.2.2.1 _ hl) hd ⟨hR.1, hR.2.1⟩
theorem recvU (C : Cx D G p s m args meth c own cc nL) (hO : Ok D G H) {b r ci N : Nat} {Cn : String} {T : u_T} (hb : G b = r) (hr : ro r = some (ci, N)) (hc : vwCl[ci]? = some (Cn, T, N)) (h0 : r ≠ 0) : ∃ cellB : Cell, H[b]? = some cellB ∧ cellB.vm.isStatics = false ∧ s.vm.findClass Cn = some cellB.cls := by
  obtain ⟨⟨cell, q1, q2, q3, -⟩, -⟩ := hO.ob hb hr h0
  exact ⟨cell, q1, by rw [q3]; rfl, by rw [q2]; exact (C.2.2.2.2.2.2.1.1 ci _ hc).2.1⟩
theorem doneP (hr : va_Run p l e R s m args below meth c H locs cells slots 0 0 (F0 m pc ls (As.reverse ++ rest)) rest (QP post (As).toArray) (fun _ => False))
    (kk : ∀ v, post H v → W p l e R s m args below meth c H locs cells slots Q (F0 m (pc + 3) ls (v.toList ++ rest))) : W p l e R s m args below meth c H locs cells slots Q (F0 m pc ls (As.reverse ++ rest)) := by
  intro T hT X
  obtain ⟨v, st₀, t, T', L, h0, X', hL, e1, e2, ⟨v', hv, hh, hp⟩, st⟩ := hr T hT X
  cases hv
  rw [h0] at hp hh
  obtain ⟨t2, a1, b1⟩ := kk v hp T' (by rw [e1, hh]) (Stand.forget X' (fun q h => (hL q h).elim))
  exact ⟨t2, st t2 a1, b1⟩
theorem doneE (S : Sd D G E H0 H locs) (hE : ∀ x ∈ Ec, x ∈ E) (hr : va_Run p l e R s m args below meth c H locs cells slots 0 0 (F0 m pc ls (As.reverse ++ rest)) rest (QE D G Ec postE (As).toArray) (fun q => G q ≠ 0))
    (kk : ∀ v H1 locs1, Sd D G E H0 H1 locs1 → Keep D G Ec H H1 → postE H v H1 → W p l e R s m args below meth c H1 locs1 cells slots Q (F0 m (pc + 3) ls (v.toList ++ rest))) : W p l e R s m args below meth c H locs cells slots Q (F0 m pc ls (As.reverse ++ rest)) := by
  intro T hT X
  obtain ⟨v, st₀, t, T', L, h0, X', hL, e1, e2, ⟨v', hv, hO, hK, hp⟩, st⟩ := hr T hT X
  cases hv
  rw [h0] at hp hK
  obtain ⟨t2, a1, b1⟩ := kk v t.heap (locs ++ L) ⟨hO, S.2.1.then hK hE, fun z hz => (List.mem_append.mp hz).elim (S.2.2 z) (hL z)⟩ hK hp T' e1 X'
  exact ⟨t2, st t2 a1, b1⟩
theorem callV_P (C : Cx D G p s m args meth c own cc nL) (hO : Ok D G H) (hz : ∀ q : Nat, q < s.heap.size → G q = 0 → H[q]? = s.heap[q]?) {b r ci N : Nat} {T : u_T} (hM : CP l D G y cc' nL' ret h (.ref b :: As) Pre post) (hw : ∀ w ∈ ([.methodLink own idx y, .instanceMethod y, .selects y.cls y y, .initialized y.cls, .code y cc' nL' ret] : List Cond), w ∈ lw_good)
    (hb : G b = r) (hpre : Pre H) (hdg : decode cc pc = .ok (.invokevirtual idx, 3)) (hsz : ls.size = nL) (hr : ro r = some (ci, N)) (hc : vwCl[ci]? = some (y.cls, T, N)) (h0 : r ≠ 0) (hd : Cd y As.length) (hR : Rm R h nL' cells slots rest)
    (kk : ∀ v, post H v → W p l e R s m args below meth c H locs cells slots Q (F0 m (pc + 3) ls (v.toList ++ rest))) : W p l e R s m args below meth c H locs cells slots Q (F0 m pc ls (As.reverse ++ .ref b :: rest)) := by
  have hts := C.2.2.2.2.1
  have g := va_runV (g := F0 m pc ls (As.reverse ++ .ref b :: rest)) (rest := rest) (R := R) (locs := locs) (cells := cells) (slots := slots) (below := below) (meth := meth) (H := H) (e := e) (nL := nL) ⟨C.1, C.2.1, C.2.2.1, C.2.2.2.1, hts⟩ hM ⟨cbU C (hw _ (by simp)) (hw _ (by simp)) (hw _ (by simp)) hd hR, hts _ (hw _ (by simp)), hts _ (hw _ (by simp))⟩
    ⟨PcU.blind, recvU C hO hb hr hc h0, fun U hU hW => ⟨rfl, C.2.2.2.2.2.2.1.moved hW.alike, by rw [hU]; exact C.2.2.2.2.2.2.2.move hW hz, by rw [hU]; exact hO, by rw [hU]; exact hpre⟩⟩ rfl rfl hsz rfl (by show 2 * 0 + _ ≤ 8; simpa using hR.2.2.2.2) hdg ⟨hR.2.2.1, hR.2.2.2.1⟩
  have e9 : As.reverse ++ .ref b :: rest = (.ref b :: As).reverse ++ rest := by simp
  rw [e9] at g ⊢
  exact doneP g kk
theorem callV_E (C : Cx D G p s m args meth c own cc nL) (S : Sd D G E s.heap H locs) {b r ci N : Nat} {T : u_T} (hM : CE l D G y cc' nL' ret h (.ref b :: As) Pre Ec postE) (hw : ∀ w ∈ ([.methodLink own idx y, .instanceMethod y, .selects y.cls y y, .initialized y.cls, .code y cc' nL' ret] : List Cond), w ∈ lw_good)
    (hb : G b = r) (hpre : Pre H) (hE : ∀ x ∈ Ec, x ∈ E) (hdg : decode cc pc = .ok (.invokevirtual idx, 3)) (hsz : ls.size = nL) (hr : ro r = some (ci, N)) (hc : vwCl[ci]? = some (y.cls, T, N)) (h0 : r ≠ 0) (hd : Cd y As.length) (hR : Rm R h nL' cells slots rest)
    (kk : ∀ v H1 locs1, Sd D G E s.heap H1 locs1 → Keep D G Ec H H1 → postE H v H1 → W p l e R s m args below meth c H1 locs1 cells slots Q (F0 m (pc + 3) ls (v.toList ++ rest))) : W p l e R s m args below meth c H locs cells slots Q (F0 m pc ls (As.reverse ++ .ref b :: rest)) := by
  have hts := C.2.2.2.2.1
  have hO := S.1
  have hz := S.2.1.2.1
  have g := va_runV (g := F0 m pc ls (As.reverse ++ .ref b :: rest)) (rest := rest) (R := R) (locs := locs) (cells := cells) (slots := slots) (below := below) (meth := meth) (H := H) (e := e) (nL := nL) ⟨C.1, C.2.1, C.2.2.1, C.2.2.2.1, hts⟩ hM ⟨cbU C (hw _ (by simp)) (hw _ (by simp)) (hw _ (by simp)) hd hR, hts _ (hw _ (by simp)), hts _ (hw _ (by simp))⟩
    ⟨PcU.blind, recvU C hO hb hr hc h0, fun U hU hW => ⟨rfl, C.2.2.2.2.2.2.1.moved hW.alike, by rw [hU]; exact C.2.2.2.2.2.2.2.move hW hz, by rw [hU]; exact hO, by rw [hU]; exact hpre⟩⟩ rfl rfl hsz rfl (by show 2 * 0 + _ ≤ 8; simpa using hR.2.2.2.2) hdg ⟨hR.2.2.1, hR.2.2.2.1⟩
  have e9 : As.reverse ++ .ref b :: rest = (.ref b :: As).reverse ++ rest := by simp
  rw [e9] at g ⊢
  exact doneE S hE g kk
theorem callS_P (C : Cx D G p s m args meth c own cc nL) (hO : Ok D G H) (hz : ∀ q : Nat, q < s.heap.size → G q = 0 → H[q]? = s.heap[q]?) (hM : CP l D G y cc' nL' ret h As Pre post) (hw : ∀ w ∈ ([.methodLink own idx y, .static y, .initialized y.cls, .code y cc' nL' ret] : List Cond), w ∈ lw_good)
    (hpre : Pre H) (hdg : decode cc pc = .ok (.invokestatic idx, 3)) (hsz : ls.size = nL) (hd : Cd y As.length) (hR : Rm R h nL' cells slots rest)
    (kk : ∀ v, post H v → W p l e R s m args below meth c H locs cells slots Q (F0 m (pc + 3) ls (v.toList ++ rest))) : W p l e R s m args below meth c H locs cells slots Q (F0 m pc ls (As.reverse ++ rest)) := by
  have hts := C.2.2.2.2.1
  have g := va_runS (g := F0 m pc ls (As.reverse ++ rest)) (rest := rest) (R := R) (locs := locs) (cells := cells) (slots := slots) (below := below) (meth := meth) (H := H) (e := e) (nL := nL) ⟨C.1, C.2.1, C.2.2.1, C.2.2.2.1, hts⟩ hM ⟨cbU C (hw _ (by simp)) (hw _ (by simp)) (hw _ (by simp)) hd hR, hts _ (hw _ (by simp))⟩
    ⟨PcU.blind, fun U hU hW => ⟨rfl, C.2.2.2.2.2.2.1.moved hW.alike, by rw [hU]; exact C.2.2.2.2.2.2.2.move hW hz, by rw [hU]; exact hO, by rw [hU]; exact hpre⟩⟩ rfl rfl hsz rfl (by show 2 * 0 + _ ≤ 8; simpa using hR.2.2.2.2) hdg ⟨hR.2.2.1, hR.2.2.2.1⟩
  exact doneP g kk
/-- what is answered: a number (heap kept; heap changed), nothing, a reference -/
def pI (f : Heap → Int32 → Prop) : Heap → Option Value → Prop := fun H v => ∃ r : Int32, v = some (.int r) ∧ f H r
def pR (f : Heap → Nat → Prop) : Heap → Option Value → Prop := fun H v => ∃ r : Nat, v = some (.ref r) ∧ f H r
def xI (f : Heap → Int32 → Heap → Prop) : Heap → Option Value → Heap → Prop := fun H v H' => ∃ r : Int32, v = some (.int r) ∧ f H r H'
def xV (f : Heap → Heap → Prop) : Heap → Option Value → Heap → Prop := fun H v H' => v = none ∧ f H H'
theorem retP_i {f : Heap → Int32 → Prop} (hQ : Q = MQ below (QP (pI f)) args s 0 0 (fun _ => False)) (C : Cx D G p s m args meth c own cc nL) (hr : meth.sig.returnType = some .int) {v : Int32} (hdg : decode cc pc = .ok (.ireturn, 1)) (hp : f s.heap v) : W p l e R s m args below meth c s.heap [] 0 0 Q (F0 m pc ls [.int v]) := by
  subst hQ
  exact W.iret C.1 C.2.1 hr (fun t ht hW => ⟨_, rfl, ht, v, rfl, hp⟩) (fun q h => nomatch h) hdg (hlocks := C.2.2.2.2.2.1)
theorem retP_z {f : Heap → Int32 → Prop} (hQ : Q = MQ below (QP (pI f)) args s 0 0 (fun _ => False)) (C : Cx D G p s m args meth c own cc nL) (hr : meth.sig.returnType = some .boolean) {v : Int32} (hdg : decode cc pc = .ok (.ireturn, 1)) (hv : v = 0 ∨ v = 1) (hp : f s.heap v) : W p l e R s m args below meth c s.heap [] 0 0 Q (F0 m pc ls [.int v]) := by
  subst hQ
  exact W.zret C.1 C.2.1 hr (by rcases hv with rfl | rfl <;> rfl) (fun t ht hW => ⟨_, rfl, ht, v, rfl, hp⟩) (fun q h => nomatch h) hdg (hlocks := C.2.2.2.2.2.1)
theorem retE_i {f : Heap → Int32 → Heap → Prop} (hQ : Q = MQ below (QE D G E (xI f)) args s 0 0 (fun q => G q ≠ 0)) (C : Cx D G p s m args meth c own cc nL) (S : Sd D G E s.heap H locs) (hr : meth.sig.returnType = some .int) {v : Int32} (hdg : decode cc pc = .ok (.ireturn, 1)) (hp : f s.heap v H) : W p l e R s m args below meth c H locs 0 0 Q (F0 m pc ls [.int v]) := by
  subst hQ
  exact W.iret C.1 C.2.1 hr (fun t ht hW => ⟨_, rfl, by rw [ht]; exact S.1, by rw [ht]; exact S.2.1, v, rfl, by rw [ht]; exact hp⟩) S.2.2 hdg (hlocks := C.2.2.2.2.2.1)
theorem retE_z {f : Heap → Int32 → Heap → Prop} (hQ : Q = MQ below (QE D G E (xI f)) args s 0 0 (fun q => G q ≠ 0)) (C : Cx D G p s m args meth c own cc nL) (S : Sd D G E s.heap H locs) (hr : meth.sig.returnType = some .boolean) {v : Int32} (hdg : decode cc pc = .ok (.ireturn, 1)) (hv : v = 0 ∨ v = 1) (hp : f s.heap v H) : W p l e R s m args below meth c H locs 0 0 Q (F0 m pc ls [.int v]) := by
  subst hQ
  exact W.zret C.1 C.2.1 hr (by rcases hv with rfl | rfl <;> rfl) (fun t ht hW => ⟨_, rfl, by rw [ht]; exact S.1, by rw [ht]; exact S.2.1, v, rfl, by rw [ht]; exact hp⟩) S.2.2 hdg (hlocks := C.2.2.2.2.2.1)
theorem retE_v {f : Heap → Heap → Prop} (hQ : Q = MQ below (QE D G E (xV f)) args s 0 0 (fun q => G q ≠ 0)) (C : Cx D G p s m args meth c own cc nL) (S : Sd D G E s.heap H locs) (hr : meth.sig.returnType = none) (hdg : decode cc pc = .ok (.return_, 1)) (hp : f s.heap H) : W p l e R s m args below meth c H locs 0 0 Q (F0 m pc ls []) := by
  subst hQ
  exact W.vret C.1 C.2.1 hr (fun t ht hW => ⟨_, rfl, by rw [ht]; exact S.1, by rw [ht]; exact S.2.1, rfl, by rw [ht]; exact hp⟩) S.2.2 hdg (hlocks := C.2.2.2.2.2.1)
theorem callV_Pi {f : Heap → Int32 → Prop} (C : Cx D G p s m args meth c own cc nL) (hO : Ok D G H) (hz : ∀ q : Nat, q < s.heap.size → G q = 0 → H[q]? = s.heap[q]?) {b r ci N : Nat} {T : u_T} (hM : CP l D G y cc' nL' ret h (.ref b :: As) Pre (pI f)) (hw : ∀ w ∈ ([.methodLink own idx y, .instanceMethod y, .selects y.cls y y, .initialized y.cls, .code y cc' nL' ret] : List Cond), w ∈ lw_good)
    (hb : G b = r) (hpre : Pre H) (hdg : decode cc pc = .ok (.invokevirtual idx, 3)) (hsz : ls.size = nL) (hr : ro r = some (ci, N)) (hc : vwCl[ci]? = some (y.cls, T, N)) (h0 : r ≠ 0) (hd : Cd y As.length) (hR : Rm R h nL' cells slots rest)
    (kk : ∀ v, f H v → W p l e R s m args below meth c H locs cells slots Q (F0 m (pc + 3) ls (.int v :: rest))) : W p l e R s m args below meth c H locs cells slots Q (F0 m pc ls (As.reverse ++ .ref b :: rest)) :=
  callV_P C hO hz hM hw hb hpre hdg hsz hr hc h0 hd hR (fun v hv => by obtain ⟨r9, rfl, h9⟩ := hv; exact kk r9 h9)
theorem callS_Pi {f : Heap → Int32 → Prop} (C : Cx D G p s m args meth c own cc nL) (hO : Ok D G H) (hz : ∀ q : Nat, q < s.heap.size → G q = 0 → H[q]? = s.heap[q]?) (hM : CP l D G y cc' nL' ret h As Pre (pI f)) (hw : ∀ w ∈ ([.methodLink own idx y, .static y, .initialized y.cls, .code y cc' nL' ret] : List Cond), w ∈ lw_good)
    (hpre : Pre H) (hdg : decode cc pc = .ok (.invokestatic idx, 3)) (hsz : ls.size = nL) (hd : Cd y As.length) (hR : Rm R h nL' cells slots rest)
    (kk : ∀ v, f H v → W p l e R s m args below meth c H locs cells slots Q (F0 m (pc + 3) ls (.int v :: rest))) : W p l e R s m args below meth c H locs cells slots Q (F0 m pc ls (As.reverse ++ rest)) :=
  callS_P C hO hz hM hw hpre hdg hsz hd hR (fun v hv => by obtain ⟨r9, rfl, h9⟩ := hv; exact kk r9 h9)
theorem callV_Ei {f : Heap → Int32 → Heap → Prop} (C : Cx D G p s m args meth c own cc nL) (S : Sd D G E s.heap H locs) {b r ci N : Nat} {T : u_T} (hM : CE l D G y cc' nL' ret h (.ref b :: As) Pre Ec (xI f)) (hw : ∀ w ∈ ([.methodLink own idx y, .instanceMethod y, .selects y.cls y y, .initialized y.cls, .code y cc' nL' ret] : List Cond), w ∈ lw_good)
    (hb : G b = r) (hpre : Pre H) (hE : ∀ x ∈ Ec, x ∈ E) (hdg : decode cc pc = .ok (.invokevirtual idx, 3)) (hsz : ls.size = nL) (hr : ro r = some (ci, N)) (hc : vwCl[ci]? = some (y.cls, T, N)) (h0 : r ≠ 0) (hd : Cd y As.length) (hR : Rm R h nL' cells slots rest)
    (kk : ∀ v H1 locs1, Sd D G E s.heap H1 locs1 → Keep D G Ec H H1 → f H v H1 → W p l e R s m args below meth c H1 locs1 cells slots Q (F0 m (pc + 3) ls (.int v :: rest))) : W p l e R s m args below meth c H locs cells slots Q (F0 m pc ls (As.reverse ++ .ref b :: rest)) :=
  callV_E C S hM hw hb hpre hE hdg hsz hr hc h0 hd hR (fun v H1 L1 S1 K1 hv => by obtain ⟨r9, rfl, h9⟩ := hv; exact kk r9 H1 L1 S1 K1 h9)
theorem callV_Ev {f : Heap → Heap → Prop} (C : Cx D G p s m args meth c own cc nL) (S : Sd D G E s.heap H locs) {b r ci N : Nat} {T : u_T} (hM : CE l D G y cc' nL' ret h (.ref b :: As) Pre Ec (xV f)) (hw : ∀ w ∈ ([.methodLink own idx y, .instanceMethod y, .selects y.cls y y, .initialized y.cls, .code y cc' nL' ret] : List Cond), w ∈ lw_good)
    (hb : G b = r) (hpre : Pre H) (hE : ∀ x ∈ Ec, x ∈ E) (hdg : decode cc pc = .ok (.invokevirtual idx, 3)) (hsz : ls.size = nL) (hr : ro r = some (ci, N)) (hc : vwCl[ci]? = some (y.cls, T, N)) (h0 : r ≠ 0) (hd : Cd y As.length) (hR : Rm R h nL' cells slots rest)
    (kk : ∀ H1 locs1, Sd D G E s.heap H1 locs1 → Keep D G Ec H H1 → f H H1 → W p l e R s m args below meth c H1 locs1 cells slots Q (F0 m (pc + 3) ls rest)) : W p l e R s m args below meth c H locs cells slots Q (F0 m pc ls (As.reverse ++ .ref b :: rest)) :=
  callV_E C S hM hw hb hpre hE hdg hsz hr hc h0 hd hR (fun v H1 L1 S1 K1 hv => by obtain ⟨rfl, h9⟩ := hv; exact kk H1 L1 S1 K1 h9)
/-- Math.min, Math.max -/
theorem q_min (C : Cx D G p s m args meth c own cc nL) {x y : Int32} (hw : ∀ w ∈ ([.methodLink own idx Lib.Math.min.name, .static Lib.Math.min.name, .initialized "java/lang/Math", .code Lib.Math.min.name Lib.Math.min.code 2 (some .int)] : List Cond), w ∈ lw_good) (hdg : decode cc pc = .ok (.invokestatic idx, 3)) (hsz : ls.size = nL) (hR : 1 ≤ R.frames ∧ (rest.map fun v => v.category).sum + 13 ≤ R.locals ∧ cells ≤ R.cells ∧ slots ≤ R.slots)
    (kk : ∀ r : Int32, r.toInt = min x.toInt y.toInt → W p l e R s m args below meth c H locs cells slots Q (F0 m (pc + 3) ls (.int r :: rest))) : W p l e R s m args below meth c H locs cells slots Q (F0 m pc ls (.int y :: .int x :: rest)) := by
  have hts := C.2.2.2.2.1
  refine va_mmin C.1 C.2.1 (by rw [C.2.2.1, hsz]) C.2.2.2.1 (hts _ (hw _ (by simp))) (hts _ (hw _ (by simp))) (hts _ (hw _ (by simp))) (hts _ (hw _ (by simp))) hR.1 hR.2.1 hR.2.2.1 hR.2.2.2 hdg ?_
  refine kk _ ?_
  split
  · rename_i h9
    have := i_lt.mp h9
    omega
  · rename_i h9
    have : ¬ _ := fun z => h9 (i_lt.mpr z)
    omega
theorem q_max (C : Cx D G p s m args meth c own cc nL) {x y : Int32} (hw : ∀ w ∈ ([.methodLink own idx Lib.Math.max.name, .static Lib.Math.max.name, .initialized "java/lang/Math", .code Lib.Math.max.name Lib.Math.max.code 2 (some .int)] : List Cond), w ∈ lw_good) (hdg : decode cc pc = .ok (.invokestatic idx, 3)) (hsz : ls.size = nL) (hR : 1 ≤ R.frames ∧ (rest.map fun v => v.category).sum + 13 ≤ R.locals ∧ cells ≤ R.cells ∧ slots ≤ R.slots)
    (kk : ∀ r : Int32, r.toInt = max x.toInt y.toInt → W p l e R s m args below meth c H locs cells slots Q (F0 m (pc + 3) ls (.int r :: rest))) : W p l e R s m args below meth c H locs cells slots Q (F0 m pc ls (.int y :: .int x :: rest)) := by
  have hts := C.2.2.2.2.1
  refine va_mmax C.1 C.2.1 (by rw [C.2.2.1, hsz]) C.2.2.2.1 (hts _ (hw _ (by simp))) (hts _ (hw _ (by simp))) (hts _ (hw _ (by simp))) (hts _ (hw _ (by simp))) hR.1 hR.2.1 hR.2.2.1 hR.2.2.2 hdg ?_
  refine kk _ ?_
  split
  · rename_i h9
    have := i_lt.mp h9
    omega
  · rename_i h9
    have : ¬ _ := fun z => h9 (i_lt.mpr z)
    omega
end Calls
theorem vok_i {G : Nat → Nat} {r k : Nat} {x : Int32} {lo hi : Int} (ht : ft r k = (0, 0, 0, lo, hi)) (h1 : lo ≤ x.toInt) (h2 : x.toInt ≤ hi) : vok G (ft r k) (.int x) := by
  rw [ht]
  exact ⟨fun _ => ⟨x, rfl, h1, h2⟩, fun h => absurd h (by simp), fun h => absurd h (by simp)⟩
theorem vok_a {G : Nat → Nat} {r k : Nat} {x : Int32} (ht : ft r k = f_any) : vok G (ft r k) (.int x) := vok_i ht (i_rng x).1 (i_rng x).2
theorem vok_n {G : Nat → Nat} {r k q1 q2 : Nat} {x y : Int} (ht : ft r k = (2, q1, q2, x, y)) : vok G (ft r k) .null := by
  rw [ht]
  exact ⟨fun h => absurd h (by simp), fun h => absurd h (by simp), fun _ => Or.inl rfl⟩
theorem vok_r {G : Nat → Nat} {r k q1 q2 a : Nat} {x y : Int} (ht : ft r k = (2, q1, q2, x, y)) (ha : G a = q1) : vok G (ft r k) (.ref a) := by
  rw [ht]
  exact ⟨fun h => absurd h (by simp), fun h => absurd h (by simp), fun _ => Or.inr ⟨a, rfl, Or.inl ha⟩⟩
