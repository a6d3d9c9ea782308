/-! NoSuchElementException: its constructor names its parent's by a place of its own -/
section Nse
variable {p : Program} {l : Launch} {e : Env} {R : Room} {s : State} {m : MethodId} {args : Array Value} {below : List Frame} {meth : Method} {c : Code} {V : State} {cells slots : Nat}
set_option maxHeartbeats 2000000 in
theorem nx_ctor (X : Stand p l e R s m args below meth c V [] cells slots) (hexec : p.tables.exec = Jvm.exec) (htr : e.platform.stackTraces = false) {own cls : String} {names : List String} {ic ix : Nat} {rx : ByteArray}
    (hrx : decode rx 0 = .ok (.aload_n 0, 1) ∧ decode rx 1 = .ok (.aload_n 1, 1) ∧ decode rx 2 = .ok (.invokespecial ix, 3) ∧ decode rx 5 = .ok (.return_, 1))
    (hown : s.vm.findClass own = some m.cls) (hcls : Bundle.fit cls = true) (hnames : ∀ n ∈ names, Bundle.fit n = true) (h : ∀ w ∈ Bundle.ownAtomsX own ic cls ix rx names, w.before args s = true)
    {a : Addr} {cX : ClassId} {kX : Class} (hfX : s.vm.findClass cls = some cX) (hkX : s.vm.classes[cX]? = some kX) (hcell : V.heap[a]? = some (freshCell cX kX)) (hnew : s.heap.size ≤ a) {msg : Value} (hmsg : msg.isRef = true)
    {g : JFrame} (hg : g.method = m) (hsize : g.locals.size = c.maxLocals) (hlk : g.locked = none) (hen : g.entered = []) {rest : List Value} (hst : g.stack = msg :: .ref a :: .ref a :: rest)
    (d6 : decode c.code g.pc = .ok (.invokespecial ic, 3)) (d9 : decode c.code (g.pc + 3) = .ok (.athrow, 1)) (hout : ∀ x ∈ c.exceptionTable.toList, covers x (g.pc + 3) = false)
    (hRf : names.length + 3 < R.frames) (hRl : 2 * g.monitorRoom + ((Value.ref a :: rest).map fun v => v.category).sum + (13 * (names.length + 1) + 42) ≤ R.locals) (hlocks : meth.locks = false) :
    ∃ U : State, Steps p.tables e below (V.setTop g) U ∧ U.status = .running ∧ Ended U below (.threw a) ∧ s.WarmedH U.vm ∧ s.sameButNew ({ U with vm := s.vm } : State) [] cells slots ∧ ∃ ce, U.heap[a]? = some ce ∧ ce.cls = cX ∧ ce.vm = .none := by
  have hpf := X.admits.platform
  have hpl : e.platform.magicAccessors = ({} : Platform).magicAccessors := by rw [hpf]
  have w : ∀ x, x ∈ Bundle.ownAtomsX own ic cls ix rx names → x.holds args s none s [] = true := h
  obtain ⟨T, Z0, L, -, Y⟩ := ThrowableC.of_atoms (args := args) (pl := e.platform) (by rw [hpf]) (by rw [hpf]) hpl (fun x hx => h x (by simp [Bundle.ownAtomsX, hx]))
  obtain ⟨Z, M, LZ, LM, hnZ⟩ := Init0T.ofS_atoms (args := args) hpl L Y (fun x hx => h x (by simp [Bundle.ownAtomsX, hx]))
  obtain ⟨P1, Ps, hlen, L1, hL, hm1, hs1, hs2⟩ := Bundle.chainSX (args := args) hpl hnZ hrx.1 hrx.2.1 hrx.2.2.1 hrx.2.2.2 names cls hcls hnames (fun x hx => h x (by simp [Bundle.ownAtomsX, hx]))
  have hfc : s.vm.findClass cls = some P1.m.cls := findClass_of_methodNamed hm1
  cases Option.some.inj (hfX.symm.trans hfc)
  obtain ⟨c1, k1, hc1, hk, hord, -, -, -⟩ := Cond.instantiable_spec (w (.instantiable cls 6) (by simp [Bundle.ownAtomsX]))
  cases Option.some.inj (hc1.symm.trans hfc)
  cases Option.some.inj (hkX.symm.trans hk)
  have sel : ∀ (t : MethodName) (q : MethodId), s.methodNamed? t = some q → (t.cls ≠ "java/lang/invoke/MethodHandle" ∧ t.cls ≠ "java/lang/invoke/VarHandle") → Cond.selects cls t t ∈ Bundle.ownAtomsX own ic cls ix rx names → selectMethod e.platform s.vm P1.m.cls q = .method q := fun t q ht hn hw => by
    obtain ⟨c2, r2, m2, q1, q2, q3, q4, -⟩ := Cond.selects_spec (w _ hw)
    cases Option.some.inj (q1.symm.trans hfc)
    cases Option.some.inj (q2.symm.trans (State.methodFound?_of_named ht hn))
    cases Option.some.inj (q3.symm.trans ht)
    rw [Launch.admits_selectMethod X.admits]
    exact q4
  obtain ⟨cs0, hcs0, his⟩ := Y.statics
  obtain ⟨u0, hu0⟩ := Cond.staticRefV Y.unassigned L.unassignedStatic L.statics hcs0 his (w (.isRef (.static Bundle.tN "UNASSIGNED_STACK" Bundle.steD)) (by simp [Bundle.ownAtomsX]))
  obtain ⟨sn, hsn⟩ := Cond.staticRefV Y.sentinel L.sentinelStatic L.statics hcs0 his (w (.isRef (.static Bundle.tN "SUPPRESSED_SENTINEL" Bundle.listD)) (by simp [Bundle.ownAtomsX]))
  obtain ⟨ciB, iB, fB, b1, b2, b3, b4, -, b5, b6, b7⟩ := Cond.ownField (t := .object "java/lang/Object") Y.found L.cls (by decide +kernel) (w (.fieldLink Bundle.tN 198 Bundle.tN "backtrace" "Ljava/lang/Object;") (by simp [Bundle.ownAtomsX])) (w (.lays Bundle.tN Bundle.tN "backtrace" "Ljava/lang/Object;") (by simp [Bundle.ownAtomsX])) e.platform hpl
  obtain ⟨cs, hcs, hes, -, hkp⟩ := X.same.2.2.2.2.2 T.aS cs0 hcs0
  have hcs' : V.heap[T.aS]? = some cs := hcs
  have hun : cs.vm ≠ .unknown := fun z => by
    rw [hes] at z
    rw [show cs0.vm = .unknown from z] at his
    cases his
  have hne : T.aS ≠ a := Nat.ne_of_lt (Nat.lt_of_lt_of_le (Array.getElem?_eq_some_iff.mp hcs0).1 hnew)
  obtain ⟨iM, hM⟩ := Y.msg
  obtain ⟨tC, zC, dC, nC⟩ := Cond.laysAt hfc hk Y.cause (w (.lays cls Bundle.tN "cause" "Ljava/lang/Throwable;") (by simp [Bundle.ownAtomsX]))
  obtain ⟨tS, zS, dS, nS⟩ := Cond.laysAt hfc hk Y.stack (w (.lays cls Bundle.tN "stackTrace" Bundle.steD) (by simp [Bundle.ownAtomsX]))
  obtain ⟨tP, zP, dP, nP⟩ := Cond.laysAt hfc hk Y.supp (w (.lays cls Bundle.tN "suppressedExceptions" Bundle.listD) (by simp [Bundle.ownAtomsX]))
  obtain ⟨tM, zM, dM, nM⟩ := Cond.laysAt hfc hk hM (w (.lays cls Bundle.tN "detailMessage" "Ljava/lang/String;") (by simp [Bundle.ownAtomsX]))
  obtain ⟨tB, zB, dB, nB⟩ := Cond.laysAt hfc hk b7 (w (.lays cls Bundle.tN "backtrace" "Ljava/lang/Object;") (by simp [Bundle.ownAtomsX]))
  have aC := Cond.laysApart dB dC nB nC (by rw [b5, Y.causeName]; decide)
  have aS := Cond.laysApart dB dS nB nS (by rw [b5, Y.stackName]; decide)
  have aP := Cond.laysApart dB dP nB nP (by rw [b5, Y.suppName]; decide)
  have hskip : SkipFacts T e.platform s (fun u => u) u0 ((preparedCellV T.toThrowableT (freshCell P1.m.cls kX) a u0 sn).withEntry V.cur) :=
    ⟨{ ci198 := ciB, i198 := iB, fBack := fB }, ⟨b1, b2, b3, b4⟩, by
      have h9 := fresh_default (c := P1.m.cls) tB
      rw [b6] at h9
      simpa [preparedCellV, Cell.setSlot, Cell.withEntry, Array.getElem?_setIfInBounds, aC, aS, aP, aC.symm, aS.symm, aP.symm, defaultValue] using h9, fun _ _ => rfl⟩
  obtain ⟨tm, -, -, -, vm1, hn1, -, -, -, -, -, -, -, hW1, st1⟩ := Steps.initColdS (tb := p.tables) (e := e) (below := below) (s := s) (U := V) X.here hexec X.warmed hpl hown (t := Bundle.initS cls) rfl rfl (Bundle.fit_spec hcls).2
    (w (.methodLink own ic (Bundle.initS cls)) (by simp [Bundle.ownAtomsX])) (h (.instanceMethod (Bundle.initS cls)) (by cases names <;> simp [Bundle.ownAtomsX, Bundle.chainSAtomsX, Bundle.passSAtoms])) (bytes := rx) (maxL := 2) (h (.code (Bundle.initS cls) rx 2 none) (by cases names <;> simp [Bundle.ownAtomsX, Bundle.chainSAtomsX, Bundle.passSAtoms]))
    (f := g) hg (a := a) (msg := msg) (rest := .ref a :: rest) hst d6
  cases Option.some.inj (hn1.symm.trans hm1)
  obtain ⟨vm2, X2, st2⟩ := (X.noted hW1).ctorMessageOffV hexec (g := { g with stack := .ref a :: rest }) hg hsize T L Z LZ M LM (P1 :: Ps) (fun P hP => by rcases List.mem_cons.mp hP with rfl | hP; exact L1; exact hL P hP) ⟨hs1, hs2⟩ (u0 := u0) (sen := sn) (self := a) hmsg (cell := freshCell P1.m.cls kX) (cellS := cs)
    hcell (fun _ => by simp) (by simp) rfl rfl (sel _ _ Y.fill0 (by decide) (by simp [Bundle.ownAtomsX])) (sel _ _ Y.fill (by decide) (by simp [Bundle.ownAtomsX])) hcs' hne hun (by rw [hkp _ (fun z => nomatch z)]; exact hu0) (by rw [hkp _ (fun z => nomatch z)]; exact hsn)
    (Takes.of_laid hk hord tC (by rw [Y.causeType]; rfl)) (Takes.of_laid hk hord tS (by rw [Y.stackType]; exact fits_refV_array _ u0)) (Takes.of_laid hk hord tP (by rw [Y.suppType]; exact fits_refV_object _ sn)) (Takes.of_laid hk hord tM (by rw [Y.msgType]; exact fits_refV_object _ ⟨msg, hmsg⟩)) Y.objLocals hskip htr [] d6
    (by simp only [List.length_cons, hlen]; omega) (by simp only [List.length_cons, hlen]; exact hRl)
  obtain ⟨hwalk, hrun, hend, hWU, hsame⟩ := X2.athrowLeaves hexec (g := { g with stack := .ref a :: rest, pc := g.pc + 3 }) hg hlk hen hout (a := a) (rest := rest) rfl d9
  have hlt : a < ((V.setVm vm1).setVm vm2).heap.size := (Array.getElem?_eq_some_iff.mp hcell).1
  refine ⟨_, st1 _ (fun acts => ?_), hrun, hend, hWU, hsame.weaken (fun y hy hlt' => ?_) (Nat.le_refl _) (Nat.le_refl _), _, heapAt_setCell_self (s := (V.setVm vm1).setVm vm2) (plainBareV T.toThrowableT (freshCell P1.m.cls kX) a u0 sn msg) hlt, rfl, rfl⟩
  · rw [doInvoke_state]
    exact st2 _ hwalk
  · exfalso
    have hb : y.base = a := by
      simp only [List.nil_append, List.mem_cons, List.not_mem_nil, or_false] at hy
      rcases hy with rfl | rfl | rfl | rfl | rfl <;> rfl
    rw [hb] at hlt'
    exact Nat.not_lt.mpr hnew hlt'
end Nse
def nx_atS (own : String) (ic : Nat) (X : String) (ix : Nat) (rx : ByteArray) (names : List String) : List Cond := (Bundle.ownAtomsX own ic X ix rx names).filter vx_no
section NseT
variable {p : Program} {l : Launch} {e : Env} {R : Room} {s : State} {m : MethodId} {args : Array Value} {below : List Frame} {meth : Method} {c : Code} {H : Heap} {locs : List Loc} {cells slots : Nat} {Q : State → Prop}
variable {mc ms : Nat} {free : Addr → Prop} {A0 A1 : Nat → Prop} {H0 : Heap} {a : Array Value} {ls : Array Slot} {st0 rest : List Value}
variable {Qc : Array Value → State → Outcome → State → Prop} {XC : String → State → State → Prop}
theorem nx_throwS {cc : ByteArray} {pc : Nat} {own cls text : String} {names : List String} {ik is ic ix mc ms sa : Nat} {rx : ByteArray} (hrx : decode rx 0 = .ok (.aload_n 0, 1) ∧ decode rx 1 = .ok (.aload_n 1, 1) ∧ decode rx 2 = .ok (.invokespecial ix, 3) ∧ decode rx 5 = .ok (.return_, 1)) (hexec : p.tables.exec = Jvm.exec) (hb : c.code = cc) (hl : l.stackTraces = false)  {A : Nat → Prop}
    (hown : s.vm.findClass own = some m.cls) (hcls : Bundle.fit cls = true) (hnames : ∀ n ∈ names, Bundle.fit n = true)
    (hk : (Cond.classLink own ik cls).before args s = true) (hini : (Cond.initialized cls).before args s = true) (hstr : vk_R own is text sa s) (hat : ∀ w ∈ nx_atS own ic cls ix rx names, w.before args s = true)
    (hgood : ∀ w ∈ Cond.classLink own ik cls :: Cond.initialized cls :: nx_atS own ic cls ix rx names, vx_ot w = true)
    (hU : vx_Zq Bundle.tN "UNASSIGNED_STACK" Bundle.steD A s s.heap) (hN : vx_Zq Bundle.tN "SUPPRESSED_SENTINEL" Bundle.listD A s s.heap) (hS : va_S A s.heap H locs) (hsize : ls.size = c.maxLocals)
    (d0 : decode cc pc = .ok (.new ik, 3)) (d3 : decode cc (pc + 3) = .ok (.dup, 1)) (d4 : decode cc (pc + 4) = .ok (.ldc is, 2)) (d6 : decode cc (pc + 6) = .ok (.invokespecial ic, 3)) (d9 : decode cc (pc + 9) = .ok (.athrow, 1))
    (hout : ∀ x ∈ c.exceptionTable.toList, covers x (pc + 9) = false)
    (hRframes : names.length + 3 < R.frames) (hRlocals : (rest.map fun v => v.category).sum + (13 * (names.length + 1) + 43) ≤ R.locals) (hRcells : cells + 1 ≤ R.cells) (hRslots : slots + 6 ≤ R.slots) (hlocks : meth.locks = false)
    (hx : ∀ t : State, s.vm.Alike t.vm → H.size ≤ t.heap.size → (∀ q : Nat, q < H.size → t.heap[q]? = H[q]?) → XC cls s t)
    (hf : ∀ z ∈ locs, free z.base) (hc : cells + 1 ≤ mc) (hs : slots + 6 ≤ ms) :
    W p l e R s m args below meth c H locs cells slots (vx_MQ below Qc XC args s mc ms free) (F0 m pc ls rest) := by
  intro T hT X
  have htr : e.platform.stackTraces = false := (show e.platform.stackTraces = l.stackTraces by rw [X.admits.platform]).trans hl
  have Y := vx_rebase X (R' := { frames := R.frames, locals := R.locals, cells := 1, slots := 6 }) (Nat.le_refl _) (Nat.le_refl _) hRcells hRslots
  obtain ⟨s', hA⟩ : ∃ z, z = (T.setVm s.vm).setFrames (.invoking m args :: below) := ⟨_, rfl⟩
  rw [← hA] at Y
  have hvm : s'.vm = s.vm := by rw [hA]; rfl
  have hhp : s'.heap = H := by rw [hA]; exact hT
  have hW0 : s.WarmedH s'.vm := by rw [hvm]; exact State.WarmedH.refl s
  have hat' : ∀ w ∈ nx_atS own ic cls ix rx names, w.before args s' = true := fun w hw => vx_ot_at hW0 hvm.symm (hgood w (List.mem_cons_of_mem _ (List.mem_cons_of_mem _ hw))) (hat w hw)
  have hk' : (Cond.classLink own ik cls).before args s' = true := vx_ot_at hW0 hvm.symm (hgood _ List.mem_cons_self) hk
  have hini' : (Cond.initialized cls).before args s' = true := vx_ot_at hW0 hvm.symm (hgood _ (List.mem_cons_of_mem _ List.mem_cons_self)) hini
  have hU' : vx_Zq Bundle.tN "UNASSIGNED_STACK" Bundle.steD A s' s'.heap := by rw [hhp]; exact vx_Zq.moved hW0.alike (hU.kept hS.2.1)
  have hN' : vx_Zq Bundle.tN "SUPPRESSED_SENTINEL" Bundle.listD A s' s'.heap := by rw [hhp]; exact vx_Zq.moved hW0.alike (hN.kept hS.2.1)
  have h : ∀ w ∈ Bundle.ownAtomsX own ic cls ix rx names, w.before args s' = true := vx_own hat' (vx_isRefq hU'.1) (vx_isRefq hN'.1) hU'.2.word hN'.2.word
  have hown' : s'.vm.findClass own = some m.cls := by rw [hvm]; exact hown
  have hins : (Cond.instantiable cls 6).before args s' = true := h _ (by simp [Bundle.ownAtomsX])
  obtain ⟨vm₁, cX, kX, hfX, hkX, -, -, X₁, st1⟩ := Y.newCold hexec (own := own) (C := cls) (index := ik) (n := 6) hown' hk' hins hini'
    (g := F0 m pc ls rest) rfl (by rw [hb]; exact d0) (Nat.le_refl _) (Nat.le_refl _)
  generalize hT1 : (T.setVm vm₁).pushCell { cls := cX, slots := kX.instanceTypes.map defaultValue, vm := .none } = T1 at X₁ st1
  have hcat : (Value.ref T.heap.size).category = 1 := rfl
  have hcellA : T1.heap[T.heap.size]? = some (freshCell cX kX) := by rw [← hT1]; exact State.heap_pushCell_size _ _
  have d3' : decode c.code (pc + 3) = .ok (.dup, 1) := by rw [hb]; exact d3
  have d4' : decode c.code (pc + 4) = .ok (.ldc is, 2) := by rw [hb]; exact d4
  have hstr' : vk_R own is text sa s' := vk_R.warm hW0 hstr
  obtain ⟨U, hsteps, hrun, hend, hW, hsame, ce, hce, hO1, hO2⟩ := nx_ctor X₁ hexec htr (own := own) (cls := cls) (names := names) (ic := ic) (ix := ix) (rx := rx) hrx hown' hcls hnames h hfX hkX hcellA (by rw [hhp, hT]; exact Nat.le_refl _) (msg := .ref sa) rfl
    (g := { method := m, pc := pc + 6, locals := ls, stack := .ref sa :: .ref T.heap.size :: .ref T.heap.size :: rest, locked := none }) rfl hsize rfl rfl (rest := rest) rfl
    (by rw [hb]; exact d6) (by rw [hb]; exact d9) hout hRframes (by simp only [List.map_cons, List.sum_cons, hcat]; omega) hlocks
  obtain ⟨f1, f2⟩ := vx_frame hsame
  rw [hhp] at f1 f2
  have hWs : s.WarmedH U.vm := State.WarmedH.trans hW0 hW
  have hcl : s.vm.findClass cls = some ce.cls := by
    have h9 := hfX
    rw [hvm] at h9
    rw [hO1]
    exact h9
  have hall : s.sameButNew ({ U with vm := s.vm } : State) locs mc ms := by
    subst hA
    obtain ⟨e1, e2⟩ := hsame
    rw [State.setFrames_setFrames] at e1
    have h2 : (T.setVm s.vm).sameButNew ({ U with vm := s.vm } : State) [] (0 + 1) (0 + 6) := ⟨e1, e2⟩
    have h3 := X.same.trans h2
    rw [List.append_nil] at h3
    exact h3.mono hc hs
  refine ⟨U, ?_, .threw T.heap.size, hrun, hend, Or.inr ⟨T.heap.size, rfl, cls, ce, locs, hx U hWs.alike f1 (fun q hq => f2 q hq (fun z hz => nomatch hz)), hce, hO2, hcl, hWs, hall, hf⟩⟩
  refine st1 _ ?_
  show Steps p.tables e below (T1.setTop { method := m, pc := pc + 3, locals := ls, stack := .ref T.heap.size :: rest, locked := none }) _
  jvm_step X₁.here [X₁.here.top, hexec, d3', Value.category]
  exact X₁.ldcString hexec (own := own) (text := text) (index := is) (a := sa) hown' hstr'.1 hstr'.2
    (g := { method := m, pc := pc + 4, locals := ls, stack := .ref T.heap.size :: .ref T.heap.size :: rest, locked := none }) rfl d4' _ hsteps
theorem nx_throwSW {cc : ByteArray} {pc : Nat} {own cls text : String} {names : List String} {ik is ic ix mc ms sa : Nat} {rx : ByteArray} (hrx : decode rx 0 = .ok (.aload_n 0, 1) ∧ decode rx 1 = .ok (.aload_n 1, 1) ∧ decode rx 2 = .ok (.invokespecial ix, 3) ∧ decode rx 5 = .ok (.return_, 1)) (hexec : p.tables.exec = Jvm.exec) (hb : c.code = cc) (hl : l.stackTraces = false)  {A : Nat → Prop}
    (hown : s.vm.findClass own = some m.cls) (hcls : Bundle.fit cls = true) (hnames : ∀ n ∈ names, Bundle.fit n = true)
    (hk : (Cond.classLink own ik cls).before args s = true) (hini : (Cond.initialized cls).before args s = true) (hstr : vk_R own is text sa s) (hat : ∀ w ∈ nx_atS own ic cls ix rx names, w.before args s = true)
    (hgood : ∀ w ∈ Cond.classLink own ik cls :: Cond.initialized cls :: nx_atS own ic cls ix rx names, vx_ot w = true)
    (hU : vx_Zq Bundle.tN "UNASSIGNED_STACK" Bundle.steD A s s.heap) (hN : vx_Zq Bundle.tN "SUPPRESSED_SENTINEL" Bundle.listD A s s.heap) (hS : va_S A s.heap H locs) (hsize : ls.size = c.maxLocals)
    (d0 : decode cc pc = .ok (.new ik, 3)) (d3 : decode cc (pc + 3) = .ok (.dup, 1)) (d4 : decode cc (pc + 4) = .ok (.ldc_w is, 3)) (d7 : decode cc (pc + 7) = .ok (.invokespecial ic, 3)) (d10 : decode cc (pc + 10) = .ok (.athrow, 1))
    (hout : ∀ x ∈ c.exceptionTable.toList, covers x (pc + 10) = false)
    (hRframes : names.length + 3 < R.frames) (hRlocals : (rest.map fun v => v.category).sum + (13 * (names.length + 1) + 43) ≤ R.locals) (hRcells : cells + 1 ≤ R.cells) (hRslots : slots + 6 ≤ R.slots) (hlocks : meth.locks = false)
    (hx : ∀ t : State, s.vm.Alike t.vm → H.size ≤ t.heap.size → (∀ q : Nat, q < H.size → t.heap[q]? = H[q]?) → XC cls s t)
    (hf : ∀ z ∈ locs, free z.base) (hc : cells + 1 ≤ mc) (hs : slots + 6 ≤ ms) :
    W p l e R s m args below meth c H locs cells slots (vx_MQ below Qc XC args s mc ms free) (F0 m pc ls rest) := by
  intro T hT X
  have htr : e.platform.stackTraces = false := (show e.platform.stackTraces = l.stackTraces by rw [X.admits.platform]).trans hl
  have Y := vx_rebase X (R' := { frames := R.frames, locals := R.locals, cells := 1, slots := 6 }) (Nat.le_refl _) (Nat.le_refl _) hRcells hRslots
  obtain ⟨s', hA⟩ : ∃ z, z = (T.setVm s.vm).setFrames (.invoking m args :: below) := ⟨_, rfl⟩
  rw [← hA] at Y
  have hvm : s'.vm = s.vm := by rw [hA]; rfl
  have hhp : s'.heap = H := by rw [hA]; exact hT
  have hW0 : s.WarmedH s'.vm := by rw [hvm]; exact State.WarmedH.refl s
  have hat' : ∀ w ∈ nx_atS own ic cls ix rx names, w.before args s' = true := fun w hw => vx_ot_at hW0 hvm.symm (hgood w (List.mem_cons_of_mem _ (List.mem_cons_of_mem _ hw))) (hat w hw)
  have hk' : (Cond.classLink own ik cls).before args s' = true := vx_ot_at hW0 hvm.symm (hgood _ List.mem_cons_self) hk
  have hini' : (Cond.initialized cls).before args s' = true := vx_ot_at hW0 hvm.symm (hgood _ (List.mem_cons_of_mem _ List.mem_cons_self)) hini
  have hU' : vx_Zq Bundle.tN "UNASSIGNED_STACK" Bundle.steD A s' s'.heap := by rw [hhp]; exact vx_Zq.moved hW0.alike (hU.kept hS.2.1)
  have hN' : vx_Zq Bundle.tN "SUPPRESSED_SENTINEL" Bundle.listD A s' s'.heap := by rw [hhp]; exact vx_Zq.moved hW0.alike (hN.kept hS.2.1)
  have h : ∀ w ∈ Bundle.ownAtomsX own ic cls ix rx names, w.before args s' = true := vx_own hat' (vx_isRefq hU'.1) (vx_isRefq hN'.1) hU'.2.word hN'.2.word
  have hown' : s'.vm.findClass own = some m.cls := by rw [hvm]; exact hown
  have hins : (Cond.instantiable cls 6).before args s' = true := h _ (by simp [Bundle.ownAtomsX])
  obtain ⟨vm₁, cX, kX, hfX, hkX, -, -, X₁, st1⟩ := Y.newCold hexec (own := own) (C := cls) (index := ik) (n := 6) hown' hk' hins hini'
    (g := F0 m pc ls rest) rfl (by rw [hb]; exact d0) (Nat.le_refl _) (Nat.le_refl _)
  generalize hT1 : (T.setVm vm₁).pushCell { cls := cX, slots := kX.instanceTypes.map defaultValue, vm := .none } = T1 at X₁ st1
  have hcat : (Value.ref T.heap.size).category = 1 := rfl
  have hcellA : T1.heap[T.heap.size]? = some (freshCell cX kX) := by rw [← hT1]; exact State.heap_pushCell_size _ _
  have d3' : decode c.code (pc + 3) = .ok (.dup, 1) := by rw [hb]; exact d3
  have d4' : decode c.code (pc + 4) = .ok (.ldc_w is, 3) := by rw [hb]; exact d4
  have hstr' : vk_R own is text sa s' := vk_R.warm hW0 hstr
  obtain ⟨U, hsteps, hrun, hend, hW, hsame, ce, hce, hO1, hO2⟩ := nx_ctor X₁ hexec htr (own := own) (cls := cls) (names := names) (ic := ic) (ix := ix) (rx := rx) hrx hown' hcls hnames h hfX hkX hcellA (by rw [hhp, hT]; exact Nat.le_refl _) (msg := .ref sa) rfl
    (g := { method := m, pc := pc + 7, locals := ls, stack := .ref sa :: .ref T.heap.size :: .ref T.heap.size :: rest, locked := none }) rfl hsize rfl rfl (rest := rest) rfl
    (by rw [hb]; exact d7) (by rw [hb]; exact d10) hout hRframes (by simp only [List.map_cons, List.sum_cons, hcat]; omega) hlocks
  obtain ⟨f1, f2⟩ := vx_frame hsame
  rw [hhp] at f1 f2
  have hWs : s.WarmedH U.vm := State.WarmedH.trans hW0 hW
  have hcl : s.vm.findClass cls = some ce.cls := by
    have h9 := hfX
    rw [hvm] at h9
    rw [hO1]
    exact h9
  have hall : s.sameButNew ({ U with vm := s.vm } : State) locs mc ms := by
    subst hA
    obtain ⟨e1, e2⟩ := hsame
    rw [State.setFrames_setFrames] at e1
    have h2 : (T.setVm s.vm).sameButNew ({ U with vm := s.vm } : State) [] (0 + 1) (0 + 6) := ⟨e1, e2⟩
    have h3 := X.same.trans h2
    rw [List.append_nil] at h3
    exact h3.mono hc hs
  refine ⟨U, ?_, .threw T.heap.size, hrun, hend, Or.inr ⟨T.heap.size, rfl, cls, ce, locs, hx U hWs.alike f1 (fun q hq => f2 q hq (fun z hz => nomatch hz)), hce, hO2, hcl, hWs, hall, hf⟩⟩
  refine st1 _ ?_
  show Steps p.tables e below (T1.setTop { method := m, pc := pc + 3, locals := ls, stack := .ref T.heap.size :: rest, locked := none }) _
  jvm_step X₁.here [X₁.here.top, hexec, d3', Value.category]
  exact X₁.ldcStringW hexec (own := own) (text := text) (index := is) (a := sa) hown' hstr'.1 hstr'.2
    (g := { method := m, pc := pc + 4, locals := ls, stack := .ref T.heap.size :: .ref T.heap.size :: rest, locked := none }) rfl d4' _ hsteps
end NseT
section NseQ
variable {p : Program} {l : Launch} {e : Env} {R : Room} {s : State} {m : MethodId} {args : Array Value} {below : List Frame} {meth : Method} {c : Code} {H H0 : Heap} {locs : List Loc} {cells slots : Nat} {Q : State → Prop}
variable {cc cc' : ByteArray} {pc nL nL' idx h mc ms mc' ms' : Nat} {ls : Array Slot} {rest As av : List Value} {D : DD} {G : Nat → Nat} {own : String} {E Ec : List (Nat × Nat)} {y : MethodName} {ret : Option FieldType} {Pre : Heap → Prop} {postE postM : Heap → Option Value → Heap → Prop} {px pxM : Heap → String → Heap → Prop}
theorem q_throwN (hl0 : l.stackTraces = false) {Qc : Array Value → State → Outcome → State → Prop} (hQ : Q = vx_MQ below Qc (XE D G E px) args s mc ms (fun q => G q ≠ 0)) (C : Cx D G p s m args meth c own cc nL) (ht : ∀ x ∈ c.exceptionTable.toList, False) (S : Sd D G E s.heap H locs) {cls text : String} {names : List String} {ik is ic ix n : Nat} {rx : ByteArray} (hrx : decode rx 0 = .ok (.aload_n 0, 1) ∧ decode rx 1 = .ok (.aload_n 1, 1) ∧ decode rx 2 = .ok (.invokespecial ix, 3) ∧ decode rx 5 = .ok (.return_, 1)) 
    (hk : Cond.classLink own ik cls ∈ lw_good) (hini : Cond.initialized cls ∈ lw_good) (hs9 : (own, is, text, n) ∈ lw_strs) (hat : ∀ w ∈ nx_atS own ic cls ix rx names, (w ∈ lw_good ∨ w ∈ lw_cast) ∧ vx_ot w = true) (hfit : Bundle.fit cls = true ∧ ∀ n ∈ names, Bundle.fit n = true)
    (d0 : decode cc pc = .ok (.new ik, 3)) (d3 : decode cc (pc + 3) = .ok (.dup, 1)) (d4 : decode cc (pc + 4) = .ok (.ldc is, 2)) (d6 : decode cc (pc + 6) = .ok (.invokespecial ic, 3)) (d9 : decode cc (pc + 9) = .ok (.athrow, 1)) (hsz : ls.size = nL)
    (hR : names.length + 3 < R.frames ∧ (rest.map fun v => v.category).sum + (13 * (names.length + 1) + 43) ≤ R.locals ∧ cells + 1 ≤ R.cells ∧ slots + 6 ≤ R.slots) (hc : cells + 1 ≤ mc) (hs : slots + 6 ≤ ms) (hp : ∀ H1 : Heap, H.size ≤ H1.size → (∀ q : Nat, q < H.size → H1[q]? = H[q]?) → px s.heap cls H1) : W p l e R s m args below meth c H locs cells slots Q (F0 m pc ls rest) := by
  subst hQ
  have hts := C.2.2.2.2.1
  have hz := C.2.2.2.2.2.2.2
  obtain ⟨sa, h1, h2⟩ := hz.2.2.2.2.2.2.2 _ hs9
  refine nx_throwS hrx C.1 C.2.1 hl0 (A := fun q => G q ≠ 0) C.2.2.2.1 hfit.1 hfit.2 (hts _ hk) (hts _ hini) h1 (fun w hw => ?_) (fun w hw => ?_) hz.2.2.1 hz.2.2.2.1 S.S (by rw [C.2.2.1, hsz]) d0 d3 d4 d6 d9 (fun x hx => (ht x hx).elim) hR.1 hR.2.1 hR.2.2.1 hR.2.2.2 C.2.2.2.2.2.1 (fun t _ g1 g2 => ⟨S.1.grow g1 g2, S.2.1.trans (Keep.grow S.1 g1 g2), hp _ g1 g2⟩) S.2.2 hc hs
  · rcases (hat w hw).1 with h | h
    · exact hts w h
    · have h9 : w.before #[] s = true := hz.2.2.2.2.1.1 w h
      have hc9 := (List.mem_filter.mp h).2
      exact va_tabs (by cases w <;> first | (simp [lw_isc] at hc9; done) | rfl) rfl h9
  · rcases List.mem_cons.mp hw with rfl | hw
    · rfl
    · rcases List.mem_cons.mp hw with rfl | hw
      · rfl
      · exact (hat w hw).2
theorem q_throwNW (hl0 : l.stackTraces = false) {Qc : Array Value → State → Outcome → State → Prop} (hQ : Q = vx_MQ below Qc (XE D G E px) args s mc ms (fun q => G q ≠ 0)) (C : Cx D G p s m args meth c own cc nL) (ht : ∀ x ∈ c.exceptionTable.toList, False) (S : Sd D G E s.heap H locs) {cls text : String} {names : List String} {ik is ic ix n : Nat} {rx : ByteArray} (hrx : decode rx 0 = .ok (.aload_n 0, 1) ∧ decode rx 1 = .ok (.aload_n 1, 1) ∧ decode rx 2 = .ok (.invokespecial ix, 3) ∧ decode rx 5 = .ok (.return_, 1)) 
    (hk : Cond.classLink own ik cls ∈ lw_good) (hini : Cond.initialized cls ∈ lw_good) (hs9 : (own, is, text, n) ∈ lw_strs) (hat : ∀ w ∈ nx_atS own ic cls ix rx names, (w ∈ lw_good ∨ w ∈ lw_cast) ∧ vx_ot w = true) (hfit : Bundle.fit cls = true ∧ ∀ n ∈ names, Bundle.fit n = true)
    (d0 : decode cc pc = .ok (.new ik, 3)) (d3 : decode cc (pc + 3) = .ok (.dup, 1)) (d4 : decode cc (pc + 4) = .ok (.ldc_w is, 3)) (d6 : decode cc (pc + 7) = .ok (.invokespecial ic, 3)) (d9 : decode cc (pc + 10) = .ok (.athrow, 1)) (hsz : ls.size = nL)
    (hR : names.length + 3 < R.frames ∧ (rest.map fun v => v.category).sum + (13 * (names.length + 1) + 43) ≤ R.locals ∧ cells + 1 ≤ R.cells ∧ slots + 6 ≤ R.slots) (hc : cells + 1 ≤ mc) (hs : slots + 6 ≤ ms) (hp : ∀ H1 : Heap, H.size ≤ H1.size → (∀ q : Nat, q < H.size → H1[q]? = H[q]?) → px s.heap cls H1) : W p l e R s m args below meth c H locs cells slots Q (F0 m pc ls rest) := by
  subst hQ
  have hts := C.2.2.2.2.1
  have hz := C.2.2.2.2.2.2.2
  obtain ⟨sa, h1, h2⟩ := hz.2.2.2.2.2.2.2 _ hs9
  refine nx_throwSW hrx C.1 C.2.1 hl0 (A := fun q => G q ≠ 0) C.2.2.2.1 hfit.1 hfit.2 (hts _ hk) (hts _ hini) h1 (fun w hw => ?_) (fun w hw => ?_) hz.2.2.1 hz.2.2.2.1 S.S (by rw [C.2.2.1, hsz]) d0 d3 d4 d6 d9 (fun x hx => (ht x hx).elim) hR.1 hR.2.1 hR.2.2.1 hR.2.2.2 C.2.2.2.2.2.1 (fun t _ g1 g2 => ⟨S.1.grow g1 g2, S.2.1.trans (Keep.grow S.1 g1 g2), hp _ g1 g2⟩) S.2.2 hc hs
  · rcases (hat w hw).1 with h | h
    · exact hts w h
    · have h9 : w.before #[] s = true := hz.2.2.2.2.1.1 w h
      have hc9 := (List.mem_filter.mp h).2
      exact va_tabs (by cases w <;> first | (simp [lw_isc] at hc9; done) | rfl) rfl h9
  · rcases List.mem_cons.mp hw with rfl | hw
    · rfl
    · rcases List.mem_cons.mp hw with rfl | hw
      · rfl
      · exact (hat w hw).2
end NseQ
theorem hrx_NSE : decode prog_35_method_4_code 0 = .ok (.aload_n 0, 1) ∧ decode prog_35_method_4_code 1 = .ok (.aload_n 1, 1) ∧ decode prog_35_method_4_code 2 = .ok (.invokespecial 13, 3) ∧ decode prog_35_method_4_code 5 = .ok (.return_, 1) := by decide +kernel
theorem ka_X11_172 : ∀ w ∈ nx_atS RX11 172 "java/util/NoSuchElementException" 13 prog_35_method_4_code thr_names, (w ∈ lw_good ∨ w ∈ lw_cast) ∧ vx_ot w = true := ka_of (by decide +kernel)
