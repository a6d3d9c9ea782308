/-! contracts of methods that return or throw -/
theorem Ok.grow {D : DD} {G : Nat → Nat} {H H' : Heap} (h : Ok D G H) (h1 : H.size ≤ H'.size) (h2 : ∀ q : Nat, q < H.size → H'[q]? = H[q]?) : Ok D G H' := by
  intro a r ha h0
  obtain ⟨w1, w2, w3, w4⟩ := h a r ha h0
  have e := h2 a w4
  exact ⟨fun ci N hr => by obtain ⟨V, z1, z2⟩ := w1 ci N hr; exact ⟨V, z1.kept e, z2⟩, fun t hr => by obtain ⟨n, f, z1, z2⟩ := w2 t hr; exact ⟨n, f, by rw [e]; exact z1, z2⟩, fun t n q hr => by obtain ⟨g, z1, z2⟩ := w3 t n q hr; exact ⟨g, by rw [e]; exact z1, z2⟩, by omega⟩
theorem Keep.grow {D : DD} {G : Nat → Nat} {E : List (Nat × Nat)} {H H' : Heap} (h : Ok D G H) (h1 : H.size ≤ H'.size) (h2 : ∀ q : Nat, q < H.size → H'[q]? = H[q]?) : Keep D G E H H' :=
  ⟨h1, fun q hq _ => h2 q hq, fun q r hq h0 => ⟨fun ci N hr k hk _ => fV_of (h2 q (h q r hq h0).2.2.2) _ _, fun _ _ => h2 q (h q r hq h0).2.2.2, fun _ _ k9 _ => congrArg vI (eV_of (h2 q (h q r hq h0).2.2.2) _)⟩⟩
theorem Sd.S {D : DD} {G : Nat → Nat} {E : List (Nat × Nat)} {H0 H : Heap} {locs : List Loc} (S : Sd D G E H0 H locs) : va_S (fun q => G q ≠ 0) H0 H locs := ⟨S.2.1.1, fun q h1 h2 => S.2.1.2.1 q h1 (Classical.not_not.mp h2), S.2.2⟩
def XE (D : DD) (G : Nat → Nat) (E : List (Nat × Nat)) (px : Heap → String → Heap → Prop) : String → State → State → Prop := fun En st t => Ok D G t.heap ∧ Keep D G E st.heap t.heap ∧ px st.heap En t.heap
def CX (l : Launch) (D : DD) (G : Nat → Nat) (y : MethodName) (cc : ByteArray) (nL : Nat) (ret : Option FieldType) (h mc ms : Nat) (av : List Value) (Pre : Heap → Prop) (E : List (Nat × Nat)) (post : Heap → Option Value → Heap → Prop) (px : Heap → String → Heap → Prop) : Prop :=
  l.stackTraces = false → vx_Met l y (wsU y cc nL ret) (rmU h mc ms) (PcU D G av Pre) (QE D G E post) (XE D G E px) mc ms (fun q => G q ≠ 0)
section Exc
variable {p : Program} {l : Launch} {e : Env} {R : Room} {s : State} {m : MethodId} {args : Array Value} {below : List Frame} {meth : Method} {c : Code} {H H0 : Heap} {locs : List Loc} {cells slots : Nat} {Q : State → Prop}
variable {cc cc' : ByteArray} {pc nL nL' idx h mc ms mc' ms' : Nat} {ls : Array Slot} {rest As av : List Value} {D : DD} {G : Nat → Nat} {own : String} {E Ec : List (Nat × Nat)} {y : MethodName} {ret : Option FieldType} {Pre : Heap → Prop} {postE postM : Heap → Option Value → Heap → Prop} {px pxM : Heap → String → Heap → Prop}
theorem enterX (hy : plainName y.cls = true) (hlen : (lg_sl av).length ≤ nL)
    (body : l.stackTraces = false → ∀ p e s m args below meth c ls Q, args = av.toArray → Q = vx_MQ below (QE D G E postE) (XE D G E px) args s mc ms (fun q => G q ≠ 0) → (∀ x ∈ c.exceptionTable.toList, False) → Cx D G p s m args meth c y.cls cc nL → meth.sig.returnType = ret → Ok D G s.heap → Pre s.heap → lv_has ls nL (lv_args 0 av) → W p l e (rmU h mc ms) s m args below meth c s.heap [] 0 0 Q (F0 m 0 ls [])) :
    CX l D G y cc nL ret h mc ms av Pre E postE px := by
  intro hl0
  refine vx_ofW (cc := cc) (maxL := nL) (ret := ret) hy rfl ?_
  intro p e s m args below meth c s₁ X hml ht hv
  obtain ⟨hav, hk, hz, hB, hpre⟩ := hv
  have hts := atoms_spec (ws := wsU y cc nL ret) X.pre
  have hl := lv_entry av (n := nL) hlen
  have g := body hl0 p e s m args below meth c _ _ hav rfl ht ⟨X.exec, X.bytes, hml, findClass_of_methodNamed X.named, fun w hw => hts w (List.mem_cons_of_mem _ hw), X.notSynchronized, hk, hz⟩ X.returns hB hpre hl
  rw [hav] at g ⊢
  rw [lg_entry_eq]
  exact g
theorem retX_i {f : Heap → Int32 → Heap → Prop} {XC : String → State → State → Prop} (hQ : Q = vx_MQ below (QE D G E (xI f)) XC args s mc ms (fun q => G q ≠ 0)) (C : Cx D G p s m args meth c own cc nL) (S : Sd D G E s.heap H locs) (hr : meth.sig.returnType = some .int) {v : Int32} (hdg : decode cc pc = .ok (.ireturn, 1)) (hc : cells ≤ mc) (hs : slots ≤ ms) (hp : f s.heap v H) : W p l e R s m args below meth c H locs cells slots Q (F0 m pc ls [.int v]) := by
  subst hQ
  exact vx_ret (W.widen hc hs (W.iret C.1 C.2.1 hr (fun t ht hW => ⟨_, rfl, by rw [ht]; exact S.1, by rw [ht]; exact S.2.1, v, rfl, by rw [ht]; exact hp⟩) S.2.2 hdg (hlocks := C.2.2.2.2.2.1)))
theorem retX_z {f : Heap → Int32 → Heap → Prop} {XC : String → State → State → Prop} (hQ : Q = vx_MQ below (QE D G E (xI f)) XC args s mc ms (fun q => G q ≠ 0)) (C : Cx D G p s m args meth c own cc nL) (S : Sd D G E s.heap H locs) (hr : meth.sig.returnType = some .boolean) {v : Int32} (hdg : decode cc pc = .ok (.ireturn, 1)) (hv : v = 0 ∨ v = 1) (hc : cells ≤ mc) (hs : slots ≤ ms) (hp : f s.heap v H) : W p l e R s m args below meth c H locs cells slots Q (F0 m pc ls [.int v]) := by
  subst hQ
  exact vx_ret (W.widen hc hs (W.zret C.1 C.2.1 hr (by rcases hv with rfl | rfl <;> rfl) (fun t ht hW => ⟨_, rfl, by rw [ht]; exact S.1, by rw [ht]; exact S.2.1, v, rfl, by rw [ht]; exact hp⟩) S.2.2 hdg (hlocks := C.2.2.2.2.2.1)))
theorem retX_v {f : Heap → Heap → Prop} {XC : String → State → State → Prop} (hQ : Q = vx_MQ below (QE D G E (xV f)) XC args s mc ms (fun q => G q ≠ 0)) (C : Cx D G p s m args meth c own cc nL) (S : Sd D G E s.heap H locs) (hr : meth.sig.returnType = none) (hdg : decode cc pc = .ok (.return_, 1)) (hc : cells ≤ mc) (hs : slots ≤ ms) (hp : f s.heap H) : W p l e R s m args below meth c H locs cells slots Q (F0 m pc ls []) := by
  subst hQ
  exact vx_ret (W.widen hc hs (W.vret C.1 C.2.1 hr (fun t ht hW => ⟨_, rfl, by rw [ht]; exact S.1, by rw [ht]; exact S.2.1, rfl, by rw [ht]; exact hp⟩) S.2.2 hdg (hlocks := C.2.2.2.2.2.1)))
/-- thrown by a callee, not caught here -/
theorem outX {Qc : Array Value → State → Outcome → State → Prop} (hQ : Q = vx_MQ below Qc (XE D G E px) args s mc ms (fun q => G q ≠ 0)) (C : Cx D G p s m args meth c own cc nL) (ht : ∀ x ∈ c.exceptionTable.toList, False) (S : Sd D G E s.heap H locs) {En : String} {q : Nat} {ce : Cell} (hcell : H[q]? = some ce) (hv : ce.vm = .none) (hcl : s.vm.findClass En = some ce.cls) (hc : cells ≤ mc) (hs : slots ≤ ms) (hp : px s.heap En H) :
    vx_W p l e R s m args below meth c H locs cells slots Q (F0 m pc ls rest) q := by
  subst hQ
  exact vx_out (fun x hx => (ht x hx).elim) C.2.2.2.2.2.1 hcell hv hcl (fun t ht9 _ => ⟨by rw [ht9]; exact S.1, by rw [ht9]; exact S.2.1, by rw [ht9]; exact hp⟩) S.2.2 hc hs
abbrev Rx (R : Room) (h nL' cells slots mc' ms' : Nat) (rest : List Value) : Prop := h + 9 ≤ R.frames ∧ 8 + (nL' + 11) + (150 + 40 * h) ≤ R.locals ∧ cells + mc' ≤ R.cells ∧ slots + ms' ≤ R.slots ∧ (rest.map fun v => v.category).sum ≤ 8
theorem callV_X (hl0 : l.stackTraces = false) (C : Cx D G p s m args meth c own cc nL) (S : Sd D G E s.heap H locs) {b r ci N : Nat} {T : u_T} (hM : CX l D G y cc' nL' ret h mc' ms' (.ref b :: As) Pre Ec postM pxM) (hw : ∀ w ∈ ([.methodLink own idx y, .instanceMethod y, .selects y.cls y y, .initialized y.cls, .code y cc' nL' ret] : List Cond), w ∈ lw_good)
    (hb : G b = r) (hpre : Pre H) (hE : ∀ x ∈ Ec, x ∈ E) (hdg : decode cc pc = .ok (.invokevirtual idx, 3)) (hsz : ls.size = nL) (hr : ro r = some (ci, N)) (hc : vwCl[ci]? = some (y.cls, T, N)) (h0 : r ≠ 0) (hd : Cd y As.length) (hR : Rx R h nL' cells slots mc' ms' rest)
    (kk : ∀ v H1 locs1, Sd D G E s.heap H1 locs1 → Keep D G Ec H H1 → postM H v H1 → W p l e R s m args below meth c H1 locs1 (cells + mc') (slots + ms') Q (F0 m (pc + 3) ls (v.toList ++ rest)))
    (kx : ∀ En H1 locs1 q ce, Sd D G E s.heap H1 locs1 → Keep D G Ec H H1 → pxM H En H1 → H1[q]? = some ce → ce.vm = .none → s.vm.findClass En = some ce.cls → vx_W p l e R s m args below meth c H1 locs1 (cells + mc') (slots + ms') Q (F0 m pc ls rest) q) :
    W p l e R s m args below meth c H locs cells slots Q (F0 m pc ls (As.reverse ++ .ref b :: rest)) := by
  have hts := C.2.2.2.2.1
  have hO := S.1
  have hz := S.2.1.2.1
  have g := vx_runV (g := F0 m pc ls (As.reverse ++ .ref b :: rest)) (rest := rest) (R := R) (locs := locs) (cells := cells) (slots := slots) (below := below) (meth := meth) (H := H) (e := e) (nL := nL) ⟨C.1, C.2.1, C.2.2.1, C.2.2.2.1, hts⟩ (hM hl0)
    ⟨callB_of As.length hts (goodU (hw _ (by simp))) rfl rfl rfl (hts _ (hw _ (by simp))) (hts _ (hw _ (by simp))) hd ⟨hR.1, hR.2.1⟩, hts _ (hw _ (by simp)), hts _ (hw _ (by simp))⟩
    ⟨PcU.blind, recvU C hO hb hr hc h0, fun U hU hW => ⟨rfl, C.2.2.2.2.2.2.1.moved hW.alike, by rw [hU]; exact C.2.2.2.2.2.2.2.move hW hz, by rw [hU]; exact hO, by rw [hU]; exact hpre⟩⟩ rfl rfl hsz rfl (by show 2 * 0 + _ ≤ 8; simpa using hR.2.2.2.2) hdg ⟨hR.2.2.1, hR.2.2.2.1⟩
  intro T hT X
  rcases g T hT X with ⟨v, st₀, t, T', L, e0, X', hL, e1, e2, ⟨v', hv, hO1, hK1, hp1⟩, st⟩ | ⟨q, st₀, t, T', L, En, ce, e0, X', hL, e1, e2, ⟨hO1, hK1, hp1⟩, hce, hcv, hcl, st⟩
  · cases hv
    rw [e0] at hp1 hK1
    obtain ⟨t2, a1, b1⟩ := kk v t.heap (locs ++ L) ⟨hO1, S.2.1.then hK1 hE, fun z hz => (List.mem_append.mp hz).elim (S.2.2 z) (hL z)⟩ hK1 hp1 T' e1 X'
    exact ⟨t2, st t2 a1, b1⟩
  · rw [e0] at hp1 hK1
    obtain ⟨t2, a1, b1⟩ := kx En t.heap (locs ++ L) q ce ⟨hO1, S.2.1.then hK1 hE, fun z hz => (List.mem_append.mp hz).elim (S.2.2 z) (hL z)⟩ hK1 hp1 hce hcv hcl T' e1 X'
    exact ⟨t2, st.trans a1, b1⟩
/-- 'throw new E("text")' -/
theorem q_throw (hl0 : l.stackTraces = false) {Qc : Array Value → State → Outcome → State → Prop} (hQ : Q = vx_MQ below Qc (XE D G E px) args s mc ms (fun q => G q ≠ 0)) (C : Cx D G p s m args meth c own cc nL) (ht : ∀ x ∈ c.exceptionTable.toList, False) (S : Sd D G E s.heap H locs) {cls text : String} {names : List String} {ik is ic n : Nat}
    (hk : Cond.classLink own ik cls ∈ lw_good) (hini : Cond.initialized cls ∈ lw_good) (hs9 : (own, is, text, n) ∈ lw_strs) (hat : ∀ w ∈ vx_atS own ic cls names, (w ∈ lw_good ∨ w ∈ lw_cast) ∧ vx_ot w = true) (hfit : Bundle.fit cls = true ∧ ∀ n ∈ names, Bundle.fit n = true)
    (d0 : decode cc pc = .ok (.new ik, 3)) (d3 : decode cc (pc + 3) = .ok (.dup, 1)) (d4 : decode cc (pc + 4) = .ok (.ldc is, 2)) (d6 : decode cc (pc + 6) = .ok (.invokespecial ic, 3)) (d9 : decode cc (pc + 9) = .ok (.athrow, 1)) (hsz : ls.size = nL)
    (hR : names.length + 3 < R.frames ∧ (rest.map fun v => v.category).sum + (13 * (names.length + 1) + 43) ≤ R.locals ∧ cells + 1 ≤ R.cells ∧ slots + 6 ≤ R.slots) (hc : cells + 1 ≤ mc) (hs : slots + 6 ≤ ms) (hp : ∀ H1 : Heap, H.size ≤ H1.size → (∀ q : Nat, q < H.size → H1[q]? = H[q]?) → px s.heap cls H1) : W p l e R s m args below meth c H locs cells slots Q (F0 m pc ls rest) := by
  subst hQ
  have hts := C.2.2.2.2.1
  have hz := C.2.2.2.2.2.2.2
  obtain ⟨sa, h1, h2⟩ := hz.2.2.2.2.2.2.2 _ hs9
  refine vx_throwS C.1 C.2.1 hl0 (A := fun q => G q ≠ 0) C.2.2.2.1 hfit.1 hfit.2 (hts _ hk) (hts _ hini) h1 (fun w hw => ?_) (fun w hw => ?_) hz.2.2.1 hz.2.2.2.1 S.S (by rw [C.2.2.1, hsz]) d0 d3 d4 d6 d9 (fun x hx => (ht x hx).elim) hR.1 hR.2.1 hR.2.2.1 hR.2.2.2 C.2.2.2.2.2.1 (fun t _ g1 g2 => ⟨S.1.grow g1 g2, S.2.1.trans (Keep.grow S.1 g1 g2), hp _ g1 g2⟩) S.2.2 hc hs
  · rcases (hat w hw).1 with h | h
    · exact hts w h
    · have h9 : w.before #[] s = true := hz.2.2.2.2.1.1 w h
      have hc9 := (List.mem_filter.mp h).2
      exact va_tabs (by cases w <;> first | (simp [lw_isc] at hc9; done) | rfl) rfl h9
  · rcases List.mem_cons.mp hw with rfl | hw
    · rfl
    · rcases List.mem_cons.mp hw with rfl | hw
      · rfl
      · exact (hat w hw).2
/-- 'throw new E("text")', the text by a wide index -/
theorem q_throwW (hl0 : l.stackTraces = false) {Qc : Array Value → State → Outcome → State → Prop} (hQ : Q = vx_MQ below Qc (XE D G E px) args s mc ms (fun q => G q ≠ 0)) (C : Cx D G p s m args meth c own cc nL) (ht : ∀ x ∈ c.exceptionTable.toList, False) (S : Sd D G E s.heap H locs) {cls text : String} {names : List String} {ik is ic n : Nat}
    (hk : Cond.classLink own ik cls ∈ lw_good) (hini : Cond.initialized cls ∈ lw_good) (hs9 : (own, is, text, n) ∈ lw_strs) (hat : ∀ w ∈ vx_atS own ic cls names, (w ∈ lw_good ∨ w ∈ lw_cast) ∧ vx_ot w = true) (hfit : Bundle.fit cls = true ∧ ∀ n ∈ names, Bundle.fit n = true)
    (d0 : decode cc pc = .ok (.new ik, 3)) (d3 : decode cc (pc + 3) = .ok (.dup, 1)) (d4 : decode cc (pc + 4) = .ok (.ldc_w is, 3)) (d6 : decode cc (pc + 7) = .ok (.invokespecial ic, 3)) (d9 : decode cc (pc + 10) = .ok (.athrow, 1)) (hsz : ls.size = nL)
    (hR : names.length + 3 < R.frames ∧ (rest.map fun v => v.category).sum + (13 * (names.length + 1) + 43) ≤ R.locals ∧ cells + 1 ≤ R.cells ∧ slots + 6 ≤ R.slots) (hc : cells + 1 ≤ mc) (hs : slots + 6 ≤ ms) (hp : ∀ H1 : Heap, H.size ≤ H1.size → (∀ q : Nat, q < H.size → H1[q]? = H[q]?) → px s.heap cls H1) : W p l e R s m args below meth c H locs cells slots Q (F0 m pc ls rest) := by
  subst hQ
  have hts := C.2.2.2.2.1
  have hz := C.2.2.2.2.2.2.2
  obtain ⟨sa, h1, h2⟩ := hz.2.2.2.2.2.2.2 _ hs9
  refine vx_throwSW C.1 C.2.1 hl0 (A := fun q => G q ≠ 0) C.2.2.2.1 hfit.1 hfit.2 (hts _ hk) (hts _ hini) h1 (fun w hw => ?_) (fun w hw => ?_) hz.2.2.1 hz.2.2.2.1 S.S (by rw [C.2.2.1, hsz]) d0 d3 d4 d6 d9 (fun x hx => (ht x hx).elim) hR.1 hR.2.1 hR.2.2.1 hR.2.2.2 C.2.2.2.2.2.1 (fun t _ g1 g2 => ⟨S.1.grow g1 g2, S.2.1.trans (Keep.grow S.1 g1 g2), hp _ g1 g2⟩) S.2.2 hc hs
  · rcases (hat w hw).1 with h | h
    · exact hts w h
    · have h9 : w.before #[] s = true := hz.2.2.2.2.1.1 w h
      have hc9 := (List.mem_filter.mp h).2
      exact va_tabs (by cases w <;> first | (simp [lw_isc] at hc9; done) | rfl) rfl h9
  · rcases List.mem_cons.mp hw with rfl | hw
    · rfl
    · rcases List.mem_cons.mp hw with rfl | hw
      · rfl
      · exact (hat w hw).2
theorem callV_Xv {f : Heap → Heap → Prop} (hl0 : l.stackTraces = false) (C : Cx D G p s m args meth c own cc nL) (S : Sd D G E s.heap H locs) {b r ci N : Nat} {T : u_T} (hM : CX l D G y cc' nL' ret h mc' ms' (.ref b :: As) Pre Ec (xV f) pxM) (hw : ∀ w ∈ ([.methodLink own idx y, .instanceMethod y, .selects y.cls y y, .initialized y.cls, .code y cc' nL' ret] : List Cond), w ∈ lw_good)
    (hb : G b = r) (hpre : Pre H) (hE : ∀ x ∈ Ec, x ∈ E) (hdg : decode cc pc = .ok (.invokevirtual idx, 3)) (hsz : ls.size = nL) (hr : ro r = some (ci, N)) (hc : vwCl[ci]? = some (y.cls, T, N)) (h0 : r ≠ 0) (hd : Cd y As.length) (hR : Rx R h nL' cells slots mc' ms' rest)
    (kk : ∀ H1 locs1, Sd D G E s.heap H1 locs1 → Keep D G Ec H H1 → f H H1 → W p l e R s m args below meth c H1 locs1 (cells + mc') (slots + ms') Q (F0 m (pc + 3) ls rest))
    (kx : ∀ En H1 locs1 q ce, Sd D G E s.heap H1 locs1 → Keep D G Ec H H1 → pxM H En H1 → H1[q]? = some ce → ce.vm = .none → s.vm.findClass En = some ce.cls → vx_W p l e R s m args below meth c H1 locs1 (cells + mc') (slots + ms') Q (F0 m pc ls rest) q) :
    W p l e R s m args below meth c H locs cells slots Q (F0 m pc ls (As.reverse ++ .ref b :: rest)) :=
  callV_X hl0 C S hM hw hb hpre hE hdg hsz hr hc h0 hd hR (fun v H1 L1 S1 K1 hv => by obtain ⟨rfl, h9⟩ := hv; exact kk H1 L1 S1 K1 h9) kx
end Exc
