/-! constructors: what they lay down, cell by cell -/
theorem kAI : Cond.arrayClass .int ∈ lw_good := mem_dec (L := [.arrayClass .int]) (by decide +kernel) _ (by simp)
theorem kAB : Cond.arrayClass .byte ∈ lw_good := mem_dec (L := [.arrayClass .byte]) (by decide +kernel) _ (by simp)
theorem kAL : Cond.arrayClass .long ∈ lw_good := mem_dec (L := [.arrayClass .long]) (by decide +kernel) _ (by simp)
def lw_nest : List Cond := [.methodLinkNest RX11 9 yX9_init "HearthMoney", .methodLinkNest RX5 25 yX0_init "HearthMoney", .methodLinkNest RX5 65 yX2_init "HearthMoney", .methodLinkNest RX5 66 yX1_init "HearthMoney"]
theorem lw_nest_cast : ∀ w ∈ lw_nest, w ∈ lw_cast := by
  intro w hw
  have h : (lw_nest.all fun w => decide (w ∈ lw_tbl) && lw_isc w) = true := by decide +kernel
  exact mem_cst (List.all_eq_true.mp h w hw)
def Ao (U : State) : Prop := va_AO RX2 U ∧ va_AO RX1 U ∧ va_AO RX5 U ∧ (Cond.arrayOver (.array .int)).before #[] U = true ∧ ∀ w ∈ lw_nest, va_Nw w U
theorem Ao4_moved {u U : State} (hvm : u.vm.Alike U.vm) (h : (Cond.arrayOver (.array .int)).before #[] u = true) : (Cond.arrayOver (.array .int)).before #[] U = true := by
  obtain ⟨comp, c, k, h1, h2, h3, h4, h5⟩ := arrayOverA_spec h
  obtain ⟨k', hk', he⟩ := hvm.2.2 _ _ h3
  have hi : (U.vm.classes.findIdx? fun (x : Class) => match x.kind with | .array component _ => component == comp | _ => false) = some c := by
    have e1 := va_idx_bare U.vm comp
    have e2 := va_idx_bare u.vm comp
    have e3 : U.vm.bare = u.vm.bare := by first | exact hvm.bare_eq | exact hvm.bare_eq.symm
    rw [e3] at e1
    exact e1.symm.trans (e2.trans h2)
  have hkind : k'.kind = .array comp (.array .int) := by rw [he]; exact h4
  have f1 : U.vm.findClass (FieldType.array .int).toString = some comp := by rw [hvm.findClass]; exact h1
  have f2 : U.vm.findClass ("[" ++ (FieldType.array .int).toString) = some c := by rw [hvm.findClass]; exact h5
  unfold Cond.before Cond.holds
  simp only [Cond.value]
  rw [f1, Option.bind_some]
  refine (congrArg (fun o : Option Nat => (o.bind (fun c => (U.vm.classes[c]?).map fun (k : Class) => match k.kind with | .array _ ty => decide (ty = FieldType.array .int) && decide (U.vm.findClass ("[" ++ (FieldType.array .int).toString) = some c) | _ => false) == some true)) hi).trans ?_
  simp [hk', hkind, f2]
theorem Ao.moved {u U : State} (hW : u.WarmedH U.vm) (h : Ao u) : Ao U := ⟨h.1.moved hW.alike, h.2.1.moved hW.alike, h.2.2.1.moved hW.alike, Ao4_moved hW.alike h.2.2.2.1, fun w hw => by
  have h9 := h.2.2.2.2 w hw
  have hc : lw_isc w = true := (List.mem_filter.mp (lw_nest_cast w hw)).2
  cases w <;> first | (simp [lw_isc] at hc; done) | exact va_Nw.warmC hW h9 | exact va_Nw.warmD hW h9 | exact va_Nw.warmM hW h9⟩
def Cy (A : State → Prop) (D : DD) (p : Program) (s : State) (m : MethodId) (args : Array Value) (meth : Method) (c : Code) (own : String) (cc : ByteArray) (nL : Nat) : Prop :=
  p.tables.exec = Jvm.exec ∧ c.code = cc ∧ c.maxLocals = nL ∧ s.vm.findClass own = some m.cls ∧ (∀ w ∈ lw_good, w.before args s = true) ∧ meth.locks = false ∧ Kn D s ∧ meth.name = "<init>" ∧ A s
/-- what has come so far: so many cells; of the old ones only a0 was written -/
def Nf (H0 H : Heap) (locs : List Loc) (a0 off : Nat) : Prop := H.size = H0.size + off ∧ (∀ q : Nat, q < H0.size → q ≠ a0 → H[q]? = H0[q]?) ∧ ∀ z ∈ locs, z.base = a0 ∨ H0.size ≤ z.base
def PcS (A : State → Prop) (D : DD) (av : List Value) (Pre : Heap → Prop) : Array Value → State → Prop := va_Pc av (fun U => Kn D U ∧ A U ∧ Pre U.heap)
def QS (a0 K : Nat) (post : Heap → Heap → Prop) : Array Value → State → Outcome → State → Prop := fun _ st o t => o = .returned none ∧ t.heap.size = st.heap.size + K ∧ (∀ q : Nat, q < st.heap.size → q ≠ a0 → t.heap[q]? = st.heap[q]?) ∧ post st.heap t.heap
def CS (l : Launch) (A : State → Prop) (D : DD) (y : MethodName) (cc : ByteArray) (nL h mc ms : Nat) (av : List Value) (a0 : Nat) (Pre : Heap → Prop) (post : Heap → Heap → Prop) : Prop :=
  Met l y (wsU y cc nL none) (rmU h mc ms) (PcS A D av Pre) (QS a0 mc post) mc ms (fun q => q = a0)
theorem PcS.blind0 {D : DD} {av : List Value} {Pre : Heap → Prop} : FrameBlind (PcS (fun _ => True) D av Pre) := fun a U g mk h => by
  obtain ⟨h1, h2, h3, h4⟩ := h
  exact ⟨h1, Kn.moved (u := U) (U := U.calling g mk a) (Vm.Alike.refl U.vm) h2, trivial, h4⟩
theorem PcS.blind {D : DD} {av : List Value} {Pre : Heap → Prop} : FrameBlind (PcS Ao D av Pre) := fun a U g mk h => by
  obtain ⟨h1, h2, h3, h4⟩ := h
  exact ⟨h1, Kn.moved (u := U) (U := U.calling g mk a) (Vm.Alike.refl U.vm) h2, Ao.moved (u := U) (U := U.calling g mk a) (State.WarmedH.refl U) h3, h4⟩
theorem oc_mh (c : ClassId) (N h0 : Nat) : ∀ i, (Jvm.Free.Multi.outerC c N h0 i).monitor = {} ∧ (Jvm.Free.Multi.outerC c N h0 i).hash = none
  | 0 => ⟨rfl, rfl⟩
  | i + 1 => by
    obtain ⟨a, b⟩ := oc_mh c N h0 i
    exact ⟨a, b⟩
section Ctor
variable {p : Program} {l : Launch} {e : Env} {R : Room} {s : State} {m : MethodId} {args : Array Value} {below : List Frame} {meth : Method} {c : Code} {H H0 : Heap} {locs : List Loc} {cells slots : Nat} {Q : State → Prop}
variable {cc cc' : ByteArray} {pc nL nL' idx h mc ms mc' ms' a0 off : Nat} {ls : Array Slot} {rest As av : List Value} {D : DD} {own : String} {y : MethodName} {Pre : Heap → Prop} {post : Heap → Heap → Prop} {A : State → Prop}
theorem enterS (hy : plainName y.cls = true) (hlen : (lg_sl av).length ≤ nL) (hin : y.name = "<init>")
    (body : ∀ p e s m args below meth c ls Q, args = av.toArray → Q = MQ below (QS a0 mc post) args s mc ms (fun q => q = a0) → Cy A D p s m args meth c y.cls cc nL → meth.sig.returnType = none → Pre s.heap → lv_has ls nL (lv_args 0 av) → W p l e (rmU h mc ms) s m args below meth c s.heap [] 0 0 Q (F0 m 0 ls [])) :
    CS l A D y cc nL h mc ms av a0 Pre post := by
  refine Met.ofW (cc := cc) (maxL := nL) (ret := none) hy rfl ?_
  intro p e s m args below meth c s₁ X hml hv
  obtain ⟨hav, hk, hA, hpre⟩ := hv
  have hts := atoms_spec (ws := wsU y cc nL none) X.pre
  have hl := lv_entry av (n := nL) hlen
  have g := body p e s m args below meth c _ _ hav rfl ⟨X.exec, X.bytes, hml, findClass_of_methodNamed X.named, fun w hw => hts w (List.mem_cons_of_mem _ hw), X.notSynchronized, hk, (name_of_methodNamed X.named X.method).1.trans hin, hA⟩ X.returns hpre hl
  rw [hav] at g ⊢
  rw [lg_entry_eq]
  exact g
theorem n_obj (C : Cy A D p s m args meth c own cc nL) (hw : ∀ w ∈ ([.methodLink own idx Lib.objectInit, .instanceMethod Lib.objectInit, .code Lib.objectInit ⟨#[0xb1]⟩ 1 none] : List Cond), w ∈ lw_good) (hsz : ls.size = nL) {b : Nat} (hdg : decode cc pc = .ok (.invokespecial idx, 3)) (hR : 1 ≤ R.frames ∧ (rest.map fun v => v.category).sum + 12 ≤ R.locals)
    (kk : W p l e R s m args below meth c H locs cells slots Q (F0 m (pc + 3) ls rest)) : W p l e R s m args below meth c H locs cells slots Q (F0 m pc ls (.ref b :: rest)) := by
  have hts := C.2.2.2.2.1
  exact W.objInit C.1 C.2.1 C.2.2.2.1 (hts _ (hw _ (by simp))) (hts _ (hw _ (by simp))) (hts _ (hw _ (by simp))) rfl (by rw [C.2.2.1]; exact hsz) rfl hdg hR.1 (by show 2 * 0 + _ + 12 ≤ _; simpa using hR.2) kk
theorem n_get (C : Cy A D p s m args meth c own cc nL) {b ci N : Nat} {V : Nat → Value} {Cn : String} {T : u_T} (ob : t_OB b (D.1.1 ci) N (D.1.2 ci) H V) (k : Nat) {index : Nat} {ref : String} {v : Value} (hlink : Cond.fieldLink own index ref (T k).2.1 (T k).2.2.1 ∈ lw_good) (hdg : decode cc pc = .ok (.getfield index, 3)) (hc : vwCl[ci]? = some (Cn, T, N)) (hk : k < N) (hs : ref = (T k).1) (hv : V k = v)
    (kk : W p l e R s m args below meth c H locs cells slots Q (F0 m (pc + 3) ls (v :: rest))) : W p l e R s m args below meth c H locs cells slots Q (F0 m pc ls (.ref b :: rest)) := by
  obtain ⟨hx, hb, hml, hown, hts, -, hK, -⟩ := C
  obtain ⟨cell, q1, q2, q3, q4⟩ := ob
  obtain ⟨hS, hfc, kC, hkC, hkind⟩ := hK.1 ci _ hc
  obtain ⟨cf, kf, fi, f, hi, hsl⟩ := hS k hk
  refine W.getf hx hb hown (hts _ hlink) (by rw [hs]; exact hi) (u_facts hfc hkC (u_lays hts (vw_in hc).1 hk) hi).1 q1 (by rw [q3]; exact fun h => by cases h) (v := v) ?_ rfl rfl hdg kk
  rw [hsl, ← hv]
  exact q4 k hk
theorem Nf.put {H1 : Heap} {i : Nat} (h : Nf H0 H locs a0 off) (e2 : H1.size = H.size) (e3 : ∀ q : Nat, q ≠ a0 → H1[q]? = H[q]?) : Nf H0 H1 (locs ++ [⟨a0, i⟩]) a0 off :=
  ⟨e2.trans h.1, fun q h1 h2 => (e3 q h2).trans (h.2.1 q h1 h2), fun z hz => (List.mem_append.mp hz).elim (h.2.2 z) (fun h1 => by rw [List.mem_singleton.mp h1]; exact Or.inl rfl)⟩
theorem Nf.set {H1 : Heap} {b i : Nat} (h : Nf H0 H locs a0 off) (hb : H0.size ≤ b) (e2 : H1.size = H.size) (e3 : ∀ q : Nat, q ≠ b → H1[q]? = H[q]?) : Nf H0 H1 (locs ++ [⟨b, i⟩]) a0 off :=
  ⟨e2.trans h.1, fun q h1 h2 => (e3 q (fun z => by subst z; omega)).trans (h.2.1 q h1 h2), fun z hz => (List.mem_append.mp hz).elim (h.2.2 z) (fun h1 => by rw [List.mem_singleton.mp h1]; exact Or.inr hb)⟩
theorem Nf.grow {H1 : Heap} {k : Nat} (h : Nf H0 H locs a0 off) (e2 : H1.size = H.size + k) (e3 : ∀ q : Nat, q < H.size → H1[q]? = H[q]?) : Nf H0 H1 locs a0 (off + k) :=
  ⟨by have := h.1; omega, fun q h1 h2 => (e3 q (by have := h.1; omega)).trans (h.2.1 q h1 h2), h.2.2⟩
theorem n_put (C : Cy A D p s m args meth c own cc nL) (N0 : Nf s.heap H locs a0 off) {ci N : Nat} {V : Nat → Value} {Cn : String} {T : u_T} (ob : t_OB a0 (D.1.1 ci) N (D.1.2 ci) H V) (k : Nat) {index : Nat} {ref : String} {v : Value} {ty : FieldType} (hlink : Cond.fieldLink own index ref (T k).2.1 (T k).2.2.1 ∈ lw_good) (hdg : decode cc pc = .ok (.putfield index, 3)) (hc : vwCl[ci]? = some (Cn, T, N)) (hk : k < N) (hs : ref = (T k).1) (hdecl : (T k).1 = own) (hd : parseFieldDescriptor (T k).2.2.1 = some ty) (hn : narrow ty v = v) (hfit : fits ty v = true)
    (kk : ∀ (H1 : Heap) (locs1 : List Loc), Nf s.heap H1 locs1 a0 off → t_OB a0 (D.1.1 ci) N (D.1.2 ci) H1 (updV V k v) → (∀ q : Nat, q ≠ a0 → H1[q]? = H[q]?) → W p l e R s m args below meth c H1 locs1 cells slots Q (F0 m (pc + 3) ls rest)) : W p l e R s m args below meth c H locs cells slots Q (F0 m pc ls (v :: .ref a0 :: rest)) := by
  obtain ⟨hx, hb, hml, hown, hts, -, hK, hin2, -⟩ := C
  obtain ⟨hin, hnm, ty0, hty⟩ := vw_in hc
  have hap := va_apart (own := own) (D := D.1) hts hin ty0 hty hnm hK hc
  obtain ⟨cell, q1, q2, q3, q4⟩ := ob
  obtain ⟨hS, hfc, kC, hkC, hkind⟩ := hK.1 ci _ hc
  obtain ⟨cf, kf, fi, f, hi, hsl⟩ := hS k hk
  have hlay := hts _ (hin _ (u_in_lay hk))
  have hst := (u_facts hfc hkC (u_lays hts hin hk) hi).1
  subst hs
  unfold u_lay at hlay
  by_cases hfin : (T k).2.2.2 = true
  · rw [if_pos hfin] at hlay
    have hcf : m.cls = cf := by
      obtain ⟨_, _, c', _, _, _, -, -, hf', -, -, -, hown2, -⟩ := Cond.laysFinal_spec hlay
      have e1 : c' = cf := by have := hi.symm.trans hf'; simp at this; exact this.1.symm
      rw [hdecl] at hown2
      rw [← e1]; exact Option.some.inj (hown.symm.trans hown2)
    have h6 := u_fits hfc hkC hkind (Or.inr hlay) hi hd hn hfit
    refine W.putFinK hx hb hown (hts _ hlink) hi hst hcf hin2 (by rw [q2]; exact h6) q1 q3 (by rw [hsl]; exact k2_hasslot (q4 k hk)) rfl rfl hdg fun H' e1 e2 e3 => ?_
    rw [hsl] at e1 ⊢
    exact kk H' _ (N0.put e2 e3) ⟨_, e1, q2, q3, t_set q4 hap hk v⟩ e3
  · rw [if_neg hfin] at hlay
    have h6 := u_store hfc hkC hkind hlay hi hd hn hfit
    refine W.putK hx hb (f := f) ⟨hown, hts _ hlink, ⟨_, _, _, hi⟩, hst⟩ (by rw [q2]; exact h6) q1 q3 (by rw [hsl]; exact k2_hasslot (q4 k hk)) rfl rfl hdg fun H' e1 e2 e3 => ?_
    rw [hsl] at e1 ⊢
    exact kk H' _ (N0.put e2 e3) ⟨_, e1, q2, q3, t_set q4 hap hk v⟩ e3
/-- what a field holds at its object's birth -/
def dflt (d : String) : Value := match parseFieldDescriptor d with | some ty => defaultValue ty | none => .null
theorem n_new (C : Cy A D p s m args meth c own cc nL) (N0 : Nf s.heap H locs a0 off) {ci N index b : Nat} {Cn : String} {T : u_T} (hb0 : b = s.heap.size + off) (hw : ∀ w ∈ ([.classLink own index Cn, .instantiable Cn N, .initialized Cn] : List Cond), w ∈ lw_good) (hdg : decode cc pc = .ok (.new index, 3)) (hc : vwCl[ci]? = some (Cn, T, N)) (hR : cells + 1 ≤ R.cells ∧ slots + N ≤ R.slots)
    (kk : ∀ H1 : Heap, Nf s.heap H1 locs a0 (off + 1) → t_OB b (D.1.1 ci) N (D.1.2 ci) H1 (fun k => dflt (T k).2.2.1) → (∀ q : Nat, q < b → H1[q]? = H[q]?) → W p l e R s m args below meth c H1 locs (cells + 1) (slots + N) Q (F0 m (pc + 3) ls (.ref b :: rest))) : W p l e R s m args below meth c H locs cells slots Q (F0 m pc ls rest) := by
  obtain ⟨hx, hb, hml, hown, hts, -, hK, -⟩ := C
  obtain ⟨hin, hnm, ty0, hty⟩ := vw_in hc
  have hKn := hK.1 ci _ hc
  have hh : H.size = b := by rw [hb0]; exact N0.1
  refine W.newcK hx hb hown (hts _ (hw _ (by simp))) (hts _ (hw _ (by simp))) (hts _ (hw _ (by simp))) rfl hdg hR.1 hR.2 hKn.2.1 hh fun H1 kC hkC e1 z1 o1 => ?_
  refine kk H1 (N0.grow (by omega) (fun q hq => o1 q (by omega))) ((u_born ty0 hts hin hKn hkC e1 hty).to (fun j hj => ?_)) o1
  show defaultValue (ty0 j) = dflt (T j).2.2.1
  unfold dflt
  rw [hty j hj]
theorem n_ai (C : Cy A D p s m args meth c own cc nL) (N0 : Nf s.heap H locs a0 off) {n : Int32} {N b : Nat} (hb0 : b = s.heap.size + off) (harr : Cond.arrayClass .int ∈ lw_good) (hn : ¬ n < 0) (hN : n.toNatClampNeg = N) (hb : N * 4 ≤ 536870912) (hR : cells + 1 ≤ R.cells ∧ slots + N ≤ R.slots) (hdg : decode cc pc = .ok (.newarray .int, 2))
    (kk : ∀ H1 : Heap, Nf s.heap H1 locs a0 (off + 1) → H1[b]? = some (arrCell (D.2 0) N (fun _ => 0)) → (∀ q : Nat, q < b → H1[q]? = H[q]?) → W p l e R s m args below meth c H1 locs (cells + 1) (slots + N) Q (F0 m (pc + 2) ls (.ref b :: rest))) : W p l e R s m args below meth c H locs cells slots Q (F0 m pc ls (.int n :: rest)) := by
  have hh : H.size = b := by rw [hb0]; exact N0.1
  refine va_newaK C.1 C.2.1 (atype := .int) (C.2.2.2.2.1 _ harr) rfl hdg rfl hn hN hb hR.1 hR.2 hh fun H1 cA e1 z1 o1 _ hNm => ?_
  have hcA : cA = D.2 0 := Option.some.inj (hNm.symm.trans (C.2.2.2.2.2.2.1.2 0 _ rfl).2)
  subst hcA
  exact kk H1 (N0.grow (by omega) (fun q hq => o1 q (by omega))) e1 o1
theorem n_ab (C : Cy A D p s m args meth c own cc nL) (N0 : Nf s.heap H locs a0 off) {n : Int32} {N b : Nat} (hb0 : b = s.heap.size + off) (harr : Cond.arrayClass .byte ∈ lw_good) (hn : ¬ n < 0) (hN : n.toNatClampNeg = N) (hb : N * 1 ≤ 536870912) (hR : cells + 1 ≤ R.cells ∧ slots + N ≤ R.slots) (hdg : decode cc pc = .ok (.newarray .byte, 2))
    (kk : ∀ H1 : Heap, Nf s.heap H1 locs a0 (off + 1) → H1[b]? = some (arrCell (D.2 1) N (fun _ => 0)) → (∀ q : Nat, q < b → H1[q]? = H[q]?) → W p l e R s m args below meth c H1 locs (cells + 1) (slots + N) Q (F0 m (pc + 2) ls (.ref b :: rest))) : W p l e R s m args below meth c H locs cells slots Q (F0 m pc ls (.int n :: rest)) := by
  have hh : H.size = b := by rw [hb0]; exact N0.1
  refine va_newaK C.1 C.2.1 (atype := .byte) (C.2.2.2.2.1 _ harr) rfl hdg rfl hn hN hb hR.1 hR.2 hh fun H1 cA e1 z1 o1 _ hNm => ?_
  have hcA : cA = D.2 1 := Option.some.inj (hNm.symm.trans (C.2.2.2.2.2.2.1.2 1 _ rfl).2)
  subst hcA
  exact kk H1 (N0.grow (by omega) (fun q hq => o1 q (by omega))) e1 o1
/-- a new array of references, all null -/
theorem n_aq (C : Cy A D p s m args meth c own cc nL) (N0 : Nf s.heap H locs a0 off) {n : Int32} {N b t index : Nat} {Cn : String} (hb0 : b = s.heap.size + off) (hcl : Cond.classLink own index Cn ∈ lw_good) (hov : va_AO Cn s) (ht : (kn_tys D)[t]? = some (D.2 t, .object Cn)) (hn : ¬ n < 0) (hN : n.toNatClampNeg = N) (hb : N * 4 ≤ 536870912) (hR : cells + 1 ≤ R.cells ∧ slots + N ≤ R.slots) (hdg : decode cc pc = .ok (.anewarray index, 3))
    (kk : ∀ H1 : Heap, Nf s.heap H1 locs a0 (off + 1) → H1[b]? = some (arrV (D.2 t) N (fun _ => .null)) → (∀ q : Nat, q < b → H1[q]? = H[q]?) → W p l e R s m args below meth c H1 locs (cells + 1) (slots + N) Q (F0 m (pc + 3) ls (.ref b :: rest))) : W p l e R s m args below meth c H locs cells slots Q (F0 m pc ls (.int n :: rest)) := by
  have hh : H.size = b := by rw [hb0]; exact N0.1
  subst hN
  refine W.anew C.1 C.2.1 C.2.2.2.1 (C.2.2.2.2.1 _ hcl) hov.use rfl hdg rfl hn hb hR.1 hR.2 fun cA kA comp f1 f2 f3 f4 => ?_
  have hcA : cA = D.2 t := by
    obtain ⟨kA', comp', k1, k2, k3, k4⟩ := (C.2.2.2.2.2.2.1.2 t _ ht).2
    exact Option.some.inj (f1.symm.trans k4)
  subst hcA
  rw [hh]
  refine kk _ (N0.grow (k := 1) (by rw [Array.size_push]) (fun q hq => by rw [Array.getElem?_push, if_neg (Nat.ne_of_lt hq)])) (by rw [← hh, Array.getElem?_push_size, ← arrV_new]) (fun q hq => by rw [Array.getElem?_push, if_neg (by omega)])
/-- rows of numbers: an array of arrays -/
theorem n_mu (C : Cy Ao D p s m args meth c own cc nL) (N0 : Nf s.heap H locs a0 off) {n k : Int32} {N M b index : Nat} (hb0 : b = s.heap.size + off) (hcl : Cond.classLink own index ("[" ++ (FieldType.array .int).toString) ∈ lw_good) (hn : ¬ n < 0) (hk : ¬ k < 0) (hN : n.toNatClampNeg = N) (hM : k.toNatClampNeg = M) (hb : N * 4 ≤ 536870912 ∧ M * 4 ≤ 536870912) (hR : cells + (1 + N) ≤ R.cells ∧ slots + (N + N * M) ≤ R.slots) (hdg : decode cc pc = .ok (.multianewarray index 2, 4))
    (kk : ∀ H1 : Heap, Nf s.heap H1 locs a0 (off + (1 + N)) → H1[b]? = some (arrV (D.2 6) N (fun j => .ref (b + 1 + j))) → (∀ j : Nat, j < N → H1[b + 1 + j]? = some (arrCell (D.2 0) M (fun _ => 0))) → (∀ q : Nat, q < b → H1[q]? = H[q]?) → W p l e R s m args below meth c H1 locs (cells + 1 + N) (slots + N + N * M) Q (F0 m (pc + 4) ls (.ref b :: rest))) : W p l e R s m args below meth c H locs cells slots Q (F0 m pc ls (.int k :: .int n :: rest)) := by
  have hh : H.size = b := by rw [hb0]; exact N0.1
  subst hN
  subst hM
  intro T hT X
  subst hT
  obtain ⟨vm₁, cA, comp, hW, hfA, hfC, -, -, X1, step⟩ := X.multianewarray2F C.1 C.2.2.2.1 (C.2.2.2.2.1 _ hcl) C.2.2.2.2.2.2.2.2.2.2.2.1 (C.2.2.2.2.1 _ kAI) (g := F0 m pc ls (.int k :: .int n :: rest)) rfl (by rw [C.2.1]; exact hdg) rfl hn hk hb.1 hb.2 (by omega) rfl rfl hR.1 hR.2
  have hcA : cA = D.2 6 := Option.some.inj (hfA.symm.trans (C.2.2.2.2.2.2.1.2 6 _ rfl).2)
  have hco : comp = D.2 0 := Option.some.inj (hfC.symm.trans (C.2.2.2.2.2.2.1.2 0 _ rfl).2)
  subst hcA
  subst hco
  obtain ⟨f1, f2, -, -⟩ := Jvm.Free.Multi.fill_facts (T.setVm vm₁) (D.2 6) (D.2 0) n.toNatClampNeg k.toNatClampNeg (defaultValue .int) n.toNatClampNeg
  have hs0 : (T.setVm vm₁).heap.size = b := hh
  have f5 : ∀ q : Nat, q < b → (Jvm.Free.Multi.fill (T.setVm vm₁) (D.2 6) (D.2 0) n.toNatClampNeg k.toNatClampNeg (defaultValue .int) n.toNatClampNeg).heap[q]? = T.heap[q]? := fun q hq => Jvm.Free.Multi.fill_old (T.setVm vm₁) _ _ _ _ _ (by rw [hs0]; exact hq) _
  obtain ⟨t, a1, b1⟩ := kk _ (N0.grow (by rw [f1, hs0, hh]; omega) (fun q hq => f5 q (by omega))) (by
      rw [← hs0, f2]
      congr 1
      obtain ⟨o1, o2, o3⟩ := Jvm.Free.Multi.outerC_facts (D.2 6) n.toNatClampNeg (T.setVm vm₁).heap.size n.toNatClampNeg
      have e9 : (Jvm.Free.Multi.outerC (D.2 6) n.toNatClampNeg (T.setVm vm₁).heap.size n.toNatClampNeg).slots = (arrV (D.2 6) n.toNatClampNeg (fun j => .ref ((T.setVm vm₁).heap.size + 1 + j))).slots := by
        apply Array.ext_getElem?
        intro j
        by_cases hj : j < n.toNatClampNeg
        · rw [Jvm.Free.Multi.outerC_slot _ _ _ _ _ hj, if_pos hj, arrV_read _ _ hj]
        · rw [Array.getElem?_eq_none (by rw [o3]; omega), Array.getElem?_eq_none (by rw [arrV_size]; omega)]
      obtain ⟨o4, o5⟩ := oc_mh (D.2 6) n.toNatClampNeg (T.setVm vm₁).heap.size n.toNatClampNeg
      generalize Jvm.Free.Multi.outerC (D.2 6) n.toNatClampNeg (T.setVm vm₁).heap.size n.toNatClampNeg = oc at o1 o2 o3 e9 o4 o5
      obtain ⟨w1, w2, w3, w4, w5⟩ := oc
      dsimp only at o1 o2 e9 o4 o5
      subst o1; subst o2; subst e9; subst o4; subst o5
      rfl) (fun j hj => by
      rw [← hs0, Jvm.Free.Multi.fill_inner (T.setVm vm₁) _ _ _ _ _ _ j hj]
      exact congrArg some (arrV_new (D.2 0) k.toNatClampNeg (.int 0))) f5 _ rfl X1
  rw [show T.heap.size = b from hh] at step
  exact ⟨t, step t a1, b1⟩
/-- a reference into such an array -/
theorem n_as (C : Cy A D p s m args meth c own cc nL) (N0 : Nf s.heap H locs a0 off) {b v t ci N N' : Nat} {i : Int32} {f V : Nat → Value} {Cn : String} {T : u_T} (g1 : H[b]? = some (arrV (D.2 t) N f)) (ob : t_OB v (D.1.1 ci) N' (D.1.2 ci) H V) (hbl : s.heap.size ≤ b) (ht : (kn_tys D)[t]? = some (D.2 t, .object Cn)) (hc : vwCl[ci]? = some (Cn, T, N')) (h1 : 0 ≤ i.toInt) (h2 : i.toInt < N) (hdg : decode cc pc = .ok (.aastore, 1))
    (kk : ∀ (H1 : Heap) (locs1 : List Loc), Nf s.heap H1 locs1 a0 off → H1[b]? = some (arrV (D.2 t) N (updV f i.toInt.toNat (.ref v))) → (∀ q : Nat, q ≠ b → H1[q]? = H[q]?) → W p l e R s m args below meth c H1 locs1 cells slots Q (F0 m (pc + 1) ls rest)) : W p l e R s m args below meth c H locs cells slots Q (F0 m pc ls (.ref v :: .int i :: .ref b :: rest)) := by
  obtain ⟨cellV, q1, q2, q3, -⟩ := ob
  have hcls := (C.2.2.2.2.2.2.1.1 ci _ hc).2
  obtain ⟨kA, comp, k1, k2, k3, -⟩ := (C.2.2.2.2.2.2.1.2 t _ ht).2
  have hcomp : comp = D.1.1 ci := Option.some.inj (k3.symm.trans hcls.1)
  subst hcomp
  obtain ⟨kC, hkC, -⟩ := hcls.2
  have hin := i_vin (n := N) h1 h2
  have h0 : ¬ i < 0 := fun q => hin (Or.inl q)
  have hlt : i.toNatClampNeg < N := Nat.not_le.mp fun q => hin (Or.inr q)
  refine W.aast C.1 C.2.1 g1 (fun q h => by cases h) (fun h => by cases h) k1 k2 rfl hkC ⟨h0, by rw [arrV_size]; exact hlt⟩ q1 (fun q h => by rw [q3] at h; cases h) (by rw [q2]; exact hkC) (by rw [q2]; exact va_assign hcls) rfl rfl hdg fun H1 e1 e2 e3 => ?_
  rw [arrV_store] at e1
  exact kk H1 _ (N0.set hbl e2 e3) e1 e3
theorem n_is (C : Cy A D p s m args meth c own cc nL) (N0 : Nf s.heap H locs a0 off) {b N : Nat} {f : Nat → Int32} {i x : Int32} (g1 : H[b]? = some (arrCell (D.2 0) N f)) (hbl : s.heap.size ≤ b) (h1 : 0 ≤ i.toInt) (h2 : i.toInt < N) (hdg : decode cc pc = .ok (.iastore, 1))
    (kk : ∀ (H1 : Heap) (locs1 : List Loc), Nf s.heap H1 locs1 a0 off → H1[b]? = some (arrCell (D.2 0) N (upd f i.toInt.toNat x)) → (∀ q : Nat, q ≠ b → H1[q]? = H[q]?) → W p l e R s m args below meth c H1 locs1 cells slots Q (F0 m (pc + 1) ls rest)) : W p l e R s m args below meth c H locs cells slots Q (F0 m pc ls (.int x :: .int i :: .ref b :: rest)) := by
  have hA := (C.2.2.2.2.2.2.1).2 0 _ rfl
  refine W.iast C.1 C.2.1 g1 (hA.1 N (fun j => .int (f j))) (fun q => by cases q) (by rw [arr_size]; exact i_vin h1 h2) rfl rfl hdg fun H1 e1 e2 e3 => ?_
  rw [arr_store] at e1
  exact kk H1 _ (N0.set hbl e2 e3) e1 e3
/-- a constructor of another class, or of the parent, on b -/
theorem n_call (C : Cy Ao D p s m args meth c own cc nL) (N0 : Nf s.heap H locs a0 off) {b : Nat} (hM : CS l Ao D y cc' nL' h mc' ms' (.ref b :: As) b Pre post) (hw : ∀ w ∈ ([.methodLink own idx y, .instanceMethod y, .initialized y.cls, .code y cc' nL' none] : List Cond), w ∈ lw_good) (hbl : b = a0 ∨ s.heap.size ≤ b) (hpre : Pre H) (hdg : decode cc pc = .ok (.invokespecial idx, 3)) (hsz : ls.size = nL) (hin : y.name = "<init>") (hd : Cd y As.length)
    (hR : h + 9 ≤ R.frames ∧ 8 + (nL' + 11) + (150 + 40 * h) ≤ R.locals ∧ cells + mc' ≤ R.cells ∧ slots + ms' ≤ R.slots ∧ (rest.map fun v => v.category).sum ≤ 8)
    (kk : ∀ (H1 : Heap) (locs1 : List Loc), Nf s.heap H1 locs1 a0 (off + mc') → (∀ q : Nat, q < s.heap.size + off → q ≠ b → H1[q]? = H[q]?) → post H H1 → W p l e R s m args below meth c H1 locs1 (cells + mc') (slots + ms') Q (F0 m (pc + 3) ls rest)) : W p l e R s m args below meth c H locs cells slots Q (F0 m pc ls (As.reverse ++ .ref b :: rest)) := by
  have hts := C.2.2.2.2.1
  have g := va_runI (g := F0 m pc ls (As.reverse ++ .ref b :: rest)) (rest := rest) (R := R) (locs := locs) (cells := cells) (slots := slots) (below := below) (meth := meth) (H := H) (e := e) (nL := nL) ⟨C.1, C.2.1, C.2.2.1, C.2.2.2.1, hts⟩ hM ⟨callB_of As.length hts (goodU (hw _ (by simp))) rfl rfl rfl (hts _ (hw _ (by simp))) (hts _ (hw _ (by simp))) hd ⟨hR.1, hR.2.1⟩, hin, hts _ (hw _ (by simp))⟩
    ⟨PcS.blind, fun U hU hW => ⟨rfl, C.2.2.2.2.2.2.1.moved hW.alike, C.2.2.2.2.2.2.2.2.moved hW, by rw [hU]; exact hpre⟩⟩ rfl rfl hsz rfl (by show 2 * 0 + _ ≤ 8; simpa using hR.2.2.2.2) hdg ⟨hR.2.2.1, hR.2.2.2.1⟩
  intro T hT X
  obtain ⟨v, st₀, t, T', L, h0, X', hL, e1, e2, ⟨hv, hz, hf, hp⟩, st⟩ := g T hT X
  cases hv
  rw [h0] at hp hf hz
  have hN := N0.1
  have hNf : Nf s.heap t.heap (locs ++ L) a0 (off + mc') := by
    refine ⟨by omega, fun q h1 h2 => ?_, fun z hz9 => ?_⟩
    · rw [hf q (by omega) (fun z => by rcases hbl with hbl | hbl <;> omega)]
      exact N0.2.1 q h1 h2
    · rcases List.mem_append.mp hz9 with h9 | h9
      · exact N0.2.2 z h9
      · have h8 : z.base = b := hL z h9
        rw [h8]
        exact hbl
  obtain ⟨t2, a1, b1⟩ := kk t.heap (locs ++ L) hNf (fun q h1 h2 => hf q (by omega) h2) hp T' e1 X'
  exact ⟨t2, st t2 a1, b1⟩
/-- the same, by a nest mate -/
theorem n_callN (C : Cy Ao D p s m args meth c own cc nL) (N0 : Nf s.heap H locs a0 off) {b : Nat} (hM : CS l Ao D y cc' nL' h mc' ms' (.ref b :: As) b Pre post) {host : String} (hl9 : Cond.methodLinkNest own idx y host ∈ lw_nest) (hw : ∀ w ∈ ([.instanceMethod y, .initialized y.cls, .code y cc' nL' none] : List Cond), w ∈ lw_good) (hbl : b = a0 ∨ s.heap.size ≤ b) (hpre : Pre H) (hdg : decode cc pc = .ok (.invokespecial idx, 3)) (hsz : ls.size = nL) (hin : y.name = "<init>") (hd : Cd y As.length)
    (hR : h + 9 ≤ R.frames ∧ 8 + (nL' + 11) + (150 + 40 * h) ≤ R.locals ∧ cells + mc' ≤ R.cells ∧ slots + ms' ≤ R.slots ∧ (rest.map fun v => v.category).sum ≤ 8)
    (kk : ∀ (H1 : Heap) (locs1 : List Loc), Nf s.heap H1 locs1 a0 (off + mc') → (∀ q : Nat, q < s.heap.size + off → q ≠ b → H1[q]? = H[q]?) → post H H1 → W p l e R s m args below meth c H1 locs1 (cells + mc') (slots + ms') Q (F0 m (pc + 3) ls rest)) : W p l e R s m args below meth c H locs cells slots Q (F0 m pc ls (As.reverse ++ .ref b :: rest)) := by
  have hts := C.2.2.2.2.1
  have g := va_runIN (g := F0 m pc ls (As.reverse ++ .ref b :: rest)) (rest := rest) (R := R) (locs := locs) (cells := cells) (slots := slots) (below := below) (meth := meth) (H := H) (e := e) (nL := nL) ⟨C.1, C.2.1, C.2.2.1, C.2.2.2.1, hts⟩ hM ⟨va_cnB As.length hts (goodU (hw _ (by simp))) rfl rfl rfl (C.2.2.2.2.2.2.2.2.2.2.2.2 _ hl9) (hts _ (hw _ (by simp))) hd ⟨hR.1, hR.2.1⟩, hin, hts _ (hw _ (by simp))⟩
    ⟨PcS.blind, fun U hU hW => ⟨rfl, C.2.2.2.2.2.2.1.moved hW.alike, C.2.2.2.2.2.2.2.2.moved hW, by rw [hU]; exact hpre⟩⟩ rfl rfl hsz rfl (by show 2 * 0 + _ ≤ 8; simpa using hR.2.2.2.2) hdg ⟨hR.2.2.1, hR.2.2.2.1⟩
  intro T hT X
  obtain ⟨v, st₀, t, T', L, h0, X', hL, e1, e2, ⟨hv, hz, hf, hp⟩, st⟩ := g T hT X
  cases hv
  rw [h0] at hp hf hz
  have hN := N0.1
  have hNf : Nf s.heap t.heap (locs ++ L) a0 (off + mc') := by
    refine ⟨by omega, fun q h1 h2 => ?_, fun z hz9 => ?_⟩
    · rw [hf q (by omega) (fun z => by rcases hbl with hbl | hbl <;> omega)]
      exact N0.2.1 q h1 h2
    · rcases List.mem_append.mp hz9 with h9 | h9
      · exact N0.2.2 z h9
      · have h8 : z.base = b := hL z h9
        rw [h8]
        exact hbl
  obtain ⟨t2, a1, b1⟩ := kk t.heap (locs ++ L) hNf (fun q h1 h2 => hf q (by omega) h2) hp T' e1 X'
  exact ⟨t2, st t2 a1, b1⟩
theorem n_ret (hQ : Q = MQ below (QS a0 mc post) args s mc ms (fun q => q = a0)) (C : Cy A D p s m args meth c own cc nL) (N0 : Nf s.heap H locs a0 mc) (hr : meth.sig.returnType = none) (hdg : decode cc pc = .ok (.return_, 1)) (hc : cells ≤ mc) (hs : slots ≤ ms) (hp : post s.heap H) : W p l e R s m args below meth c H locs cells slots Q (F0 m pc ls []) := by
  subst hQ
  refine W.relocs (locs' := locs.filter fun y => decide (y.base < s.heap.size)) (fun y hy hlt => List.mem_filter.mpr ⟨hy, by simpa using hlt⟩) ?_
  refine W.widen hc hs (W.vret C.1 C.2.1 hr (fun t ht hW => ⟨rfl, by rw [ht]; exact N0.1, fun q h1 h2 => by rw [ht]; exact N0.2.1 q h1 h2, by rw [ht]; exact hp⟩) (fun z hz => ?_) hdg (hlocks := C.2.2.2.2.2.1))
  obtain ⟨h1, h2⟩ := List.mem_filter.mp hz
  have h2 : z.base < s.heap.size := by simpa using h2
  rcases N0.2.2 z h1 with h3 | h3
  · exact h3
  · exact absurd h3 (Nat.not_le.mpr h2)
end Ctor
theorem kNe_X11_9 : Cond.methodLinkNest RX11 9 yX9_init "HearthMoney" ∈ lw_nest := List.mem_of_getElem? (i := 0) rfl
theorem kNe_X5_25 : Cond.methodLinkNest RX5 25 yX0_init "HearthMoney" ∈ lw_nest := List.mem_of_getElem? (i := 1) rfl
theorem kNe_X5_65 : Cond.methodLinkNest RX5 65 yX2_init "HearthMoney" ∈ lw_nest := List.mem_of_getElem? (i := 2) rfl
theorem kNe_X5_66 : Cond.methodLinkNest RX5 66 yX1_init "HearthMoney" ∈ lw_nest := List.mem_of_getElem? (i := 3) rfl
