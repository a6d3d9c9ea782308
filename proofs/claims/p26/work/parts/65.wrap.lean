/-! the law's helpers: a call, what it answers or throws -/
def wsW (y : MethodName) (cc : ByteArray) (nL : Nat) (hh : List (Nat × Nat × Nat × Nat)) : List Cond := .codeWith y cc nL (some .int) hh :: lw_good
def LA (D : DD) (H : Heap) (o : Nat) : Prop := ∃ f : Nat → Int64, H[o]? = some (arrV (D.2 2) 1 (fun j => .long (f j)))
def KeepO (D : DD) (G : Nat → Nat) (E : List (Nat × Nat)) (o : Nat) (H H' : Heap) : Prop :=
  H.size ≤ H'.size ∧ (∀ q : Nat, q < H.size → G q = 0 → q ≠ o → H'[q]? = H[q]?) ∧ ∀ q r : Nat, G q = r → r ≠ 0 →
    (∀ ci N, ro r = some (ci, N) → ∀ k, k < N → (r, k) ∉ E → fV D H' ci q k = fV D H ci q k) ∧ (ro r = none → (r, 0) ∉ E → H'[q]? = H[q]?) ∧ (r = 31 → (31, 1) ∉ E → ∀ k, k < 22 → eI H' q (vy k) = eI H q (vy k))
def tln (D : DD) (H : Heap) (a : Nat) : Int := (fI D H 9 (fR D H 10 a 0) 1).toInt
def PcW (D : DD) (G : Nat → Nat) (av : List Value) (o : Nat) (Pre : Heap → Prop) : Array Value → State → Prop := va_Pc av (fun U => Kn D U ∧ Zs D G U U.heap ∧ Ok D G U.heap ∧ Pre U.heap ∧ LA D U.heap o)
def QW (D : DD) (G : Nat → Nat) (E : List (Nat × Nat)) (o a0 : Nat) (T : Heap → Int32 → Heap → Prop) : Array Value → State → Outcome → State → Prop := fun _ st oc t => ∃ (r : Int32) (G' : Nat → Nat), oc = .returned (some (.int r)) ∧ (∀ q : Nat, q < st.heap.size → G' q = G q) ∧ (∀ q : Nat, st.heap.size ≤ q → G' q ≠ 23 ∧ G' q ≠ 25) ∧ Ok D G' t.heap ∧ KeepO D G E o st.heap t.heap ∧ LA D t.heap o ∧ T st.heap r t.heap
def CW (l : Launch) (D : DD) (G : Nat → Nat) (y : MethodName) (cc : ByteArray) (nL : Nat) (hh : List (Nat × Nat × Nat × Nat)) (h mc ms : Nat) (av : List Value) (o a0 : Nat) (Pre : Heap → Prop) (E : List (Nat × Nat)) (T : Heap → Int32 → Heap → Prop) : Prop :=
  l.stackTraces = false → Met l y (wsW y cc nL hh) (rmU h mc ms) (PcW D G av o Pre) (QW D G E o a0 T) mc ms (fun q => G q ≠ 0 ∨ q = o)
theorem PcW.blind {D : DD} {G : Nat → Nat} {av : List Value} {o : Nat} {Pre : Heap → Prop} : FrameBlind (PcW D G av o Pre) := fun a U g mk h => by
  obtain ⟨h1, h2, h3, h4⟩ := h
  exact ⟨h1, Kn.moved (u := U) (U := U.calling g mk a) (Vm.Alike.refl U.vm) h2, Zs.move (U := U.calling g mk a) h3 (State.WarmedH.refl U) (fun _ _ _ => rfl), h4⟩
/-- where a helper stands -/
def Ws (D : DD) (G G' : Nat → Nat) (E : List (Nat × Nat)) (o : Nat) (H0 H : Heap) (locs : List Loc) : Prop :=
  Ok D G' H ∧ KeepO D G E o H0 H ∧ LA D H o ∧ (∀ z ∈ locs, z.base < H0.size → G z.base ≠ 0 ∨ z.base = o) ∧ (∀ q : Nat, q < H0.size → G' q = G q) ∧ ∀ q : Nat, H0.size ≤ q → G' q ≠ 23 ∧ G' q ≠ 25
theorem Keep.o {D : DD} {G : Nat → Nat} {E : List (Nat × Nat)} {H H' : Heap} (h : Keep D G E H H') (o : Nat) : KeepO D G E o H H' := ⟨h.1, fun q h1 h2 _ => h.2.1 q h1 h2, h.2.2⟩
section Wrap
variable {p : Program} {l : Launch} {e : Env} {R : Room} {s : State} {m : MethodId} {args : Array Value} {below : List Frame} {meth : Method} {c : Code} {H H0 : Heap} {locs : List Loc} {cells slots : Nat} {Q : State → Prop}
variable {cc cc' : ByteArray} {pc nL nL' idx h mc ms mc' ms' o a0 : Nat} {ls : Array Slot} {rest As av : List Value} {D : DD} {G G' : Nat → Nat} {own : String} {E Ec : List (Nat × Nat)} {y : MethodName} {ret : Option FieldType} {Pre : Heap → Prop} {T : Heap → Int32 → Heap → Prop} {hh : List (Nat × Nat × Nat × Nat)} {postE : Heap → Option Value → Heap → Prop} {px : Heap → String → Heap → Prop}
theorem Sd.ws (S : Sd D G E H0 H locs) (hO : Ok D G H0) (h0 : G o = 0) (hla : LA D H0 o) : Ws D G G E o H0 H locs := by
  refine ⟨S.1, S.2.1.o o, ?_, fun z hz _ => Or.inl (S.2.2 z hz), fun _ _ => rfl, fun q hq => ?_⟩
  · obtain ⟨f, hf⟩ := hla
    exact ⟨f, by rw [S.2.1.2.1 o (Array.getElem?_eq_some_iff.mp hf).1 h0]; exact hf⟩
  · have : G q = 0 := Classical.not_not.mp (fun z => Nat.lt_irrefl _ (Nat.lt_of_lt_of_le (hO.lt z) hq))
    rw [this]; decide
theorem enterW (hy : plainName y.cls = true) (hlen : (lg_sl av).length ≤ nL)
    (body : l.stackTraces = false → ∀ p e s m args below meth c ls Q, args = av.toArray → Q = MQ below (QW D G E o a0 T) args s mc ms (fun q => G q ≠ 0 ∨ q = o) → c.exceptionTable.toList = tableOf hh → Cx D G p s m args meth c y.cls cc nL → meth.sig.returnType = some .int → Ok D G s.heap → Pre s.heap → LA D s.heap o → lv_has ls nL (lv_args 0 av) → W p l e (rmU h mc ms) s m args below meth c s.heap [] 0 0 Q (F0 m 0 ls [])) :
    CW l D G y cc nL hh h mc ms av o a0 Pre E T := by
  intro hl0
  refine va_MetW (cc := cc) (maxL := nL) (ret := some .int) (hh := hh) hy rfl ?_
  intro p e s m args below meth c s₁ X hml hv
  obtain ⟨hav, hk, hz, hB, hpre, hla⟩ := hv
  have hts := atoms_spec (ws := wsW y cc nL hh) X.pre
  have hl := lv_entry av (n := nL) hlen
  have g := body hl0 p e s m args below meth c _ _ hav rfl (vx_table (x := y) X (hts _ List.mem_cons_self)) ⟨X.exec, X.bytes, hml, findClass_of_methodNamed X.named, fun w hw => hts w (List.mem_cons_of_mem _ hw), X.notSynchronized, hk, hz⟩ X.returns hB hpre hla hl
  rw [hav] at g ⊢
  rw [lg_entry_eq]
  exact g
theorem w_ret (hQ : Q = MQ below (QW D G E o a0 T) args s mc ms (fun q => G q ≠ 0 ∨ q = o)) (C : Cx D G p s m args meth c own cc nL) (S : Ws D G G' E o s.heap H locs) (hr : meth.sig.returnType = some .int) {v : Int32} (hdg : decode cc pc = .ok (.ireturn, 1)) (hc : cells ≤ mc) (hs : slots ≤ ms) (hp : T s.heap v H) : W p l e R s m args below meth c H locs cells slots Q (F0 m pc ls [.int v]) := by
  subst hQ
  refine W.relocs (locs' := locs.filter fun y => decide (y.base < s.heap.size)) (fun y hy hlt => List.mem_filter.mpr ⟨hy, by simpa using hlt⟩) ?_
  refine W.widen hc hs (W.iret C.1 C.2.1 hr (fun t ht hW => ⟨v, G', rfl, S.2.2.2.2.1, S.2.2.2.2.2, by rw [ht]; exact S.1, by rw [ht]; exact S.2.1, by rw [ht]; exact S.2.2.1, by rw [ht]; exact hp⟩) (fun z hz => ?_) hdg (hlocks := C.2.2.2.2.2.1))
  obtain ⟨h1, h2⟩ := List.mem_filter.mp hz
  exact S.2.2.2.1 z h1 (by simpa using h2)
/-- what out[0] holds -/
def vL (v : Value) : Int64 := match v with | .long x => x | _ => 0
def eL (H : Heap) (o : Nat) : Int64 := vL (eV H o 0)
/-- out[0] = .. -/
theorem w_last (C : Cx D G p s m args meth c own cc nL) (S : Ws D G G' E o s.heap H locs) (hg : G' o = 0) (h0 : G o = 0) (ha : G' a0 = 1) {x : Int64} (hdg : decode cc pc = .ok (.lastore, 1))
    (kk : ∀ (H1 : Heap) (locs1 : List Loc), Ws D G G' E o s.heap H1 locs1 → tln D H1 a0 = tln D H a0 → eL H1 o = x → (∀ q : Nat, q ≠ o → H1[q]? = H[q]?) → W p l e R s m args below meth c H1 locs1 cells slots Q (F0 m (pc + 1) ls rest)) : W p l e R s m args below meth c H locs cells slots Q (F0 m pc ls (.long x :: .int 0 :: .ref o :: rest)) := by
  obtain ⟨hO, hK, ⟨f, hf⟩, hL, hg1, hg2⟩ := S
  have hA := (C.2.2.2.2.2.2.1).2 2 _ rfl
  refine W.last C.1 C.2.1 hf (hA.1 1 (fun j => .long (f j))) (fun q => by cases q) (by rw [arrV_size]; decide) rfl rfl hdg fun H1 e1 e2 e3 => ?_
  rw [arrV_store] at e1
  have hne : ∀ q, G' q ≠ 0 → q ≠ o := fun q hq z => hq (by rw [z]; exact hg)
  refine kk H1 _ ⟨hO.raw (by rw [e2]; exact Nat.le_refl _) (fun q _ h1 _ => e3 q (hne q h1)), ⟨by rw [e2]; exact hK.1, fun q h1 h2 h3 => (e3 q h3).trans (hK.2.1 q h1 h2 h3), fun q r hq hr => ?_⟩, ⟨fun j => if j = 0 then x else f j, ?_⟩, fun z hz hlt => ?_, hg1, hg2⟩ ?_ ?_ e3
  · have hqo : q ≠ o := fun z => hr (by rw [← hq, z]; exact h0)
    obtain ⟨k1, k2, k3⟩ := hK.2.2 q r hq hr
    exact ⟨fun ci N h9 k hk h8 => (fV_of (e3 q hqo) _ _).trans (k1 ci N h9 k hk h8), fun h9 h8 => (e3 q hqo).trans (k2 h9 h8), fun h9 h8 k9 h7 => (congrArg vI (eV_of (e3 q hqo) _)).trans (k3 h9 h8 k9 h7)⟩
  · rw [e1]
    refine congrArg some ?_
    refine arrV_congr (fun j hj => ?_)
    have : j = 0 := by omega
    subst this
    simp [updV]
  · rcases List.mem_append.mp hz with h1 | h1
    · exact hL z h1 hlt
    · rw [List.mem_singleton.mp h1]; exact Or.inr rfl
  · unfold tln
    have g2 : G' (fR D H 10 a0 0) = 2 := hO.rol ha rfl (by decide) rfl
    have e5 : fR D H1 10 a0 0 = fR D H 10 a0 0 := congrArg vR (fV_of (e3 a0 (hne a0 (by rw [ha]; decide))) 10 0)
    rw [e5]
    exact congrArg Int32.toInt (congrArg vI (fV_of (e3 _ (hne _ (by rw [g2]; decide))) 9 1))
  · unfold eL eV
    rw [e1]
    show vL ((arrV (D.2 2) 1 _).slots[0]?.getD .null) = x
    rw [arrV_read _ _ (by decide)]
    rfl
/-- a thrown one, caught by the first row or by the second -/
theorem w_c1 (C : Cx D G p s m args meth c own cc nL) {a1 b1 c1 d1 : Nat} {tl1 : List (Nat × Nat × Nat × Nat)} (htab : c.exceptionTable.toList = tableOf ((a1, b1, c1, d1) :: tl1)) {En : String} {q : Nat} {ce : Cell} (hcov : a1 ≤ pc ∧ pc < b1) (hd0 : d1 ≠ 0) (hlink : Cond.classLink own d1 En ∈ lw_good) (hcast : Cond.castable En En ∈ lw_cast) (hcell : H[q]? = some ce) (hv : ce.vm = .none) (hcl : s.vm.findClass En = some ce.cls)
    (kk : W p l e R s m args below meth c H locs cells slots Q (F0 m c1 ls [.ref q])) : vx_W p l e R s m args below meth c H locs cells slots Q (F0 m pc ls rest) q := by
  have hcs : (Cond.castable En En).before args s = true := va_tabs rfl rfl (C.2.2.2.2.2.2.2.2.2.2.2.1.1 _ hcast)
  exact vx_catch (name := En) C.2.2.2.1 [] ⟨a1, b1, c1, d1⟩ (tableOf tl1) htab (fun z hz => nomatch hz) (by simp [covers]; exact hcov) hd0 (C.2.2.2.2.1 _ hlink) hcs hcell hv hcl kk
theorem w_c2 (C : Cx D G p s m args meth c own cc nL) {a1 b1 c1 d1 a2 b2 c2 d2 : Nat} (htab : c.exceptionTable.toList = tableOf ((a1, b1, c1, d1) :: (a2, b2, c2, d2) :: [])) {En E1 : String} {q : Nat} {ce : Cell} (hcov : a2 ≤ pc ∧ pc < b2) (hd1 : d1 ≠ 0) (hd0 : d2 ≠ 0) (hlink1 : Cond.classLink own d1 E1 ∈ lw_good) (hnc : (En, E1) ∈ lw_ncs) (hlink : Cond.classLink own d2 En ∈ lw_good) (hcast : Cond.castable En En ∈ lw_cast) (hcell : H[q]? = some ce) (hv : ce.vm = .none) (hcl : s.vm.findClass En = some ce.cls)
    (kk : W p l e R s m args below meth c H locs cells slots Q (F0 m c2 ls [.ref q])) : vx_W p l e R s m args below meth c H locs cells slots Q (F0 m pc ls rest) q := by
  have hcs : (Cond.castable En En).before args s = true := va_tabs rfl rfl (C.2.2.2.2.2.2.2.2.2.2.2.1.1 _ hcast)
  exact vx_catch (name := En) C.2.2.2.1 [⟨a1, b1, c1, d1⟩] ⟨a2, b2, c2, d2⟩ [] htab (fun z hz => Or.inr ⟨by rw [List.mem_singleton.mp hz]; exact hd1, E1, by rw [List.mem_singleton.mp hz]; exact C.2.2.2.2.1 _ hlink1, C.2.2.2.2.2.2.2.2.2.2.2.1.2 _ hnc⟩) (by simp [covers]; exact hcov) hd0 (C.2.2.2.2.1 _ hlink) hcs hcell hv hcl kk
theorem callV_XG (hl0 : l.stackTraces = false) (C : Cx D G p s m args meth c own cc nL) (hO : Ok D G s.heap) (h0 : G o = 0) (hla : LA D s.heap o) {b r ci N : Nat} {T : u_T} (hM : CXG l D G y cc' nL' ret h mc' ms' (.ref b :: As) Pre E postE px) (hw : ∀ w ∈ ([.methodLink own idx y, .instanceMethod y, .selects y.cls y y, .initialized y.cls, .code y cc' nL' ret] : List Cond), w ∈ lw_good)
    (hb : G b = r) (hpre : Pre s.heap) (hdg : decode cc pc = .ok (.invokevirtual idx, 3)) (hsz : ls.size = nL) (hr : ro r = some (ci, N)) (hc : vwCl[ci]? = some (y.cls, T, N)) (hr0 : r ≠ 0) (hd : Cd y As.length) (hR : Rx R h nL' cells slots mc' ms' rest)
    (kk : ∀ v G' H1 locs1, Ws D G G' E o s.heap H1 locs1 → postE s.heap v H1 → W p l e R s m args below meth c H1 locs1 (cells + mc') (slots + ms') Q (F0 m (pc + 3) ls (v.toList ++ rest)))
    (kx : ∀ En H1 locs1 q ce, Ws D G G E o s.heap H1 locs1 → px s.heap En H1 → H1[q]? = some ce → ce.vm = .none → s.vm.findClass En = some ce.cls → vx_W p l e R s m args below meth c H1 locs1 (cells + mc') (slots + ms') Q (F0 m pc ls rest) q) :
    W p l e R s m args below meth c s.heap [] cells slots Q (F0 m pc ls (As.reverse ++ .ref b :: rest)) := by
  have hts := C.2.2.2.2.1
  have g := vx_runV (g := F0 m pc ls (As.reverse ++ .ref b :: rest)) (rest := rest) (R := R) (locs := []) (cells := cells) (slots := slots) (below := below) (meth := meth) (H := s.heap) (e := e) (nL := nL) ⟨C.1, C.2.1, C.2.2.1, C.2.2.2.1, hts⟩ (hM hl0)
    ⟨callB_of As.length hts (goodU (hw _ (by simp))) rfl rfl rfl (hts _ (hw _ (by simp))) (hts _ (hw _ (by simp))) hd ⟨hR.1, hR.2.1⟩, hts _ (hw _ (by simp)), hts _ (hw _ (by simp))⟩
    ⟨PcU.blind, recvU C hO hb hr hc hr0, fun U hU hW => ⟨rfl, C.2.2.2.2.2.2.1.moved hW.alike, by rw [hU]; exact C.2.2.2.2.2.2.2.move hW (fun _ _ _ => rfl), by rw [hU]; exact hO, by rw [hU]; exact hpre⟩⟩ rfl rfl hsz rfl (by show 2 * 0 + _ ≤ 8; simpa using hR.2.2.2.2) hdg ⟨hR.2.2.1, hR.2.2.2.1⟩
  intro T hT X
  rcases g T hT X with ⟨v, st₀, t, T', L, e0, X', hL, e1, e2, ⟨v', G', hv, k1, k2, hO1, hK1, hp1⟩, st⟩ | ⟨q, st₀, t, T', L, En, ce, e0, X', hL, e1, e2, ⟨hO1, hK1, hp1⟩, hce, hcv, hcl, st⟩
  · cases hv
    rw [e0] at hp1 hK1 k1 k2
    have hS : Ws D G G' E o s.heap t.heap ([] ++ L) := by
      refine ⟨hO1, hK1.o o, ?_, fun z hz _ => Or.inl (hL z (by simpa using hz)), k1, k2⟩
      obtain ⟨f, hf⟩ := hla
      exact ⟨f, by rw [hK1.2.1 o (Array.getElem?_eq_some_iff.mp hf).1 h0]; exact hf⟩
    obtain ⟨t2, a1, b1⟩ := kk v G' t.heap ([] ++ L) hS hp1 T' e1 X'
    exact ⟨t2, st t2 a1, b1⟩
  · rw [e0] at hp1 hK1
    have hS : Sd D G E s.heap t.heap ([] ++ L) := ⟨hO1, hK1, fun z hz => hL z (by simpa using hz)⟩
    obtain ⟨t2, a1, b1⟩ := kx En t.heap ([] ++ L) q ce (hS.ws hO h0 hla) hp1 hce hcv hcl T' e1 X'
    exact ⟨t2, st.trans a1, b1⟩
theorem callV_XW (hl0 : l.stackTraces = false) (C : Cx D G p s m args meth c own cc nL) (hO : Ok D G s.heap) (h0 : G o = 0) (hla : LA D s.heap o) {b r ci N : Nat} {T : u_T} (hM : CX l D G y cc' nL' ret h mc' ms' (.ref b :: As) Pre E postE px) (hw : ∀ w ∈ ([.methodLink own idx y, .instanceMethod y, .selects y.cls y y, .initialized y.cls, .code y cc' nL' ret] : List Cond), w ∈ lw_good)
    (hb : G b = r) (hpre : Pre s.heap) (hdg : decode cc pc = .ok (.invokevirtual idx, 3)) (hsz : ls.size = nL) (hr : ro r = some (ci, N)) (hc : vwCl[ci]? = some (y.cls, T, N)) (hr0 : r ≠ 0) (hd : Cd y As.length) (hR : Rx R h nL' cells slots mc' ms' rest)
    (kk : ∀ v H1 locs1, Ws D G G E o s.heap H1 locs1 → Keep D G E s.heap H1 → postE s.heap v H1 → W p l e R s m args below meth c H1 locs1 (cells + mc') (slots + ms') Q (F0 m (pc + 3) ls (v.toList ++ rest)))
    (kx : ∀ En H1 locs1 q ce, Ws D G G E o s.heap H1 locs1 → Keep D G E s.heap H1 → px s.heap En H1 → H1[q]? = some ce → ce.vm = .none → s.vm.findClass En = some ce.cls → vx_W p l e R s m args below meth c H1 locs1 (cells + mc') (slots + ms') Q (F0 m pc ls rest) q) :
    W p l e R s m args below meth c s.heap [] cells slots Q (F0 m pc ls (As.reverse ++ .ref b :: rest)) :=
  callV_X hl0 C (Sd.start (E := E) hO) hM hw hb hpre (fun _ h => h) hdg hsz hr hc hr0 hd hR (fun v H1 L1 S1 K1 hp => kk v H1 L1 (S1.ws hO h0 hla) K1 hp) (fun En H1 L1 q ce S1 K1 hp h1 h2 h3 => kx En H1 L1 q ce (S1.ws hO h0 hla) K1 hp h1 h2 h3)
end Wrap
theorem tlW {D : DD} {G : Nat → Nat} {E : List (Nat × Nat)} {H H1 : Heap} {a0 : Nat} (hO : Ok D G H) (ga0 : G a0 = 1) (K : Keep D G E H H1) (h1 : (1, 0) ∉ E) (h2 : (2, 1) ∉ E) : tln D H1 a0 = tln D H a0 := congrArg Int32.toInt (tlK hO ga0 K h1 h2)
theorem kc_IAE : Cond.castable "java/lang/IllegalArgumentException" "java/lang/IllegalArgumentException" ∈ lw_cast := mem_cst (by decide +kernel)
theorem kc_UOE : Cond.castable "java/lang/UnsupportedOperationException" "java/lang/UnsupportedOperationException" ∈ lw_cast := mem_cst (by decide +kernel)
theorem kc_IOB : Cond.castable "java/lang/IndexOutOfBoundsException" "java/lang/IndexOutOfBoundsException" ∈ lw_cast := mem_cst (by decide +kernel)
theorem kc_NSE : Cond.castable "java/util/NoSuchElementException" "java/util/NoSuchElementException" ∈ lw_cast := mem_cst (by decide +kernel)
theorem kc_ISE : Cond.castable "java/lang/IllegalStateException" "java/lang/IllegalStateException" ∈ lw_cast := mem_cst (by decide +kernel)
theorem kl_13 : Cond.classLink RL 13 "java/lang/IllegalArgumentException" ∈ lw_good := mem_dec (L := [.classLink RL 13 "java/lang/IllegalArgumentException"]) (by decide +kernel) _ (List.mem_singleton.mpr rfl)
theorem kl_15 : Cond.classLink RL 15 "java/lang/UnsupportedOperationException" ∈ lw_good := mem_dec (L := [.classLink RL 15 "java/lang/UnsupportedOperationException"]) (by decide +kernel) _ (List.mem_singleton.mpr rfl)
theorem kl_24 : Cond.classLink RL 24 "java/lang/IndexOutOfBoundsException" ∈ lw_good := mem_dec (L := [.classLink RL 24 "java/lang/IndexOutOfBoundsException"]) (by decide +kernel) _ (List.mem_singleton.mpr rfl)
theorem kl_26 : Cond.classLink RL 26 "java/util/NoSuchElementException" ∈ lw_good := mem_dec (L := [.classLink RL 26 "java/util/NoSuchElementException"]) (by decide +kernel) _ (List.mem_singleton.mpr rfl)
theorem kl_35 : Cond.classLink RL 35 "java/lang/IllegalStateException" ∈ lw_good := mem_dec (L := [.classLink RL 35 "java/lang/IllegalStateException"]) (by decide +kernel) _ (List.mem_singleton.mpr rfl)
