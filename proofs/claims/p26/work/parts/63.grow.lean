/-! a call behind which there are more roles -/
def QG (D : DD) (G : Nat → Nat) (E : List (Nat × Nat)) (post : Heap → Option Value → Heap → Prop) : Array Value → State → Outcome → State → Prop := fun _ st o t => ∃ (v : Option Value) (G' : Nat → Nat), o = .returned v ∧ (∀ q : Nat, q < st.heap.size → G' q = G q) ∧ (∀ q : Nat, st.heap.size ≤ q → G' q ≠ 23 ∧ G' q ≠ 25) ∧ Ok D G' t.heap ∧ Keep D G E st.heap t.heap ∧ post st.heap v t.heap
def CXG (l : Launch) (D : DD) (G : Nat → Nat) (y : MethodName) (cc : ByteArray) (nL : Nat) (ret : Option FieldType) (h mc ms : Nat) (av : List Value) (Pre : Heap → Prop) (E : List (Nat × Nat)) (post : Heap → Option Value → Heap → Prop) (px : Heap → String → Heap → Prop) : Prop :=
  l.stackTraces = false → vx_Met l y (wsU y cc nL ret) (rmU h mc ms) (PcU D G av Pre) (QG D G E post) (XE D G E px) mc ms (fun q => G q ≠ 0)
section Grow
variable {p : Program} {l : Launch} {e : Env} {R : Room} {s : State} {m : MethodId} {args : Array Value} {below : List Frame} {meth : Method} {c : Code} {H H0 : Heap} {locs : List Loc} {cells slots : Nat} {Q : State → Prop}
variable {cc cc' : ByteArray} {pc nL nL' idx h mc ms mc' ms' : Nat} {ls : Array Slot} {rest As av : List Value} {D : DD} {G G' : Nat → Nat} {own : String} {E Ec : List (Nat × Nat)} {y : MethodName} {ret : Option FieldType} {Pre : Heap → Prop} {postE : Heap → Option Value → Heap → Prop} {px : Heap → String → Heap → Prop}
theorem enterG (hy : plainName y.cls = true) (hlen : (lg_sl av).length ≤ nL)
    (body : l.stackTraces = false → ∀ p e s m args below meth c ls Q, args = av.toArray → Q = vx_MQ below (QG D G E postE) (XE D G E px) args s mc ms (fun q => G q ≠ 0) → (∀ x ∈ c.exceptionTable.toList, False) → Cx D G p s m args meth c y.cls cc nL → meth.sig.returnType = ret → Ok D G s.heap → Pre s.heap → lv_has ls nL (lv_args 0 av) → W p l e (rmU h mc ms) s m args below meth c s.heap [] 0 0 Q (F0 m 0 ls [])) :
    CXG l D G y cc nL ret h mc ms av Pre E postE px := by
  intro hl0
  refine vx_ofW (cc := cc) (maxL := nL) (ret := ret) hy rfl ?_
  intro p e s m args below meth c s₁ X hml ht hv
  obtain ⟨hav, hk, hz, hB, hpre⟩ := hv
  have hts := atoms_spec (ws := wsU y cc nL ret) X.pre
  have hl := lv_entry av (n := nL) hlen
  have g := body hl0 p e s m args below meth c _ _ hav rfl ht ⟨X.exec, X.bytes, hml, findClass_of_methodNamed X.named, fun w hw => hts w (List.mem_cons_of_mem _ hw), X.notSynchronized, hk, hz⟩ X.returns hB hpre hl
  rw [hav] at g ⊢
  rw [lg_entry_eq]
  exact g
theorem callV_T (C : Cx D G p s m args meth c own cc nL) (S : Sd D G E s.heap H locs) {b : Nat} (hb : G b = 21) (hpre : Lc D H b) (hw : ∀ w ∈ ([.methodLink own idx yX4_told, .instanceMethod yX4_told, .selects yX4_told.cls yX4_told yX4_told, .initialized yX4_told.cls, .code yX4_told cX4_told 1 (some (.object "HearthMoney$Law"))] : List Cond), w ∈ lw_good) (hE : ∀ x ∈ ([(12, 0), (12, 1), (12, 2), (12, 3), (13, 0), (14, 0), (15, 0)] : List (Nat × Nat)), x ∈ E)
    (hdg : decode cc pc = .ok (.invokevirtual idx, 3)) (hsz : ls.size = nL) (hR : 2 + 9 ≤ R.frames ∧ 8 + (1 + 11) + (150 + 40 * 2) ≤ R.locals ∧ cells + 4 ≤ R.cells ∧ slots + 449 ≤ R.slots ∧ (rest.map fun v => v.category).sum ≤ 8)
    (kk : ∀ (v : Nat) (G' : Nat → Nat) (H1 : Heap) (locs1 : List Loc), G' v = 12 → (∀ q, G q ≠ 0 → G' q = G q) → (∀ q : Nat, q < s.heap.size → G' q = G q) → (∀ q : Nat, s.heap.size ≤ q → G' q ≠ G q → G' q ≠ 23 ∧ G' q ≠ 25) → Cx D G' p s m args meth c own cc nL → Sd D G' E s.heap H1 locs1 → (∀ q : Nat, q < H.size → H1[q]? = H[q]?) → fI D H1 3 v 0 = fI D H 4 b 4 → W p l e R s m args below meth c H1 locs1 (cells + 4) (slots + 449) Q (F0 m (pc + 3) ls (.ref v :: rest))) : W p l e R s m args below meth c H locs cells slots Q (F0 m pc ls (.ref b :: rest)) := by
  have hts := C.2.2.2.2.1
  have hO := S.1
  have hz := S.2.1.2.1
  have u1 := hw _ List.mem_cons_self
  have u2 := hw _ (List.mem_cons_of_mem _ List.mem_cons_self)
  have u3 := hw _ (List.mem_cons_of_mem _ (List.mem_cons_of_mem _ List.mem_cons_self))
  have u4 := hw _ (List.mem_cons_of_mem _ (List.mem_cons_of_mem _ (List.mem_cons_of_mem _ List.mem_cons_self)))
  have u5 := hw _ (List.mem_cons_of_mem _ (List.mem_cons_of_mem _ (List.mem_cons_of_mem _ (List.mem_cons_of_mem _ List.mem_cons_self))))
  have g := va_runV (g := F0 m pc ls ([].reverse ++ .ref b :: rest)) (As := []) (rest := rest) (R := R) (locs := locs) (cells := cells) (slots := slots) (below := below) (meth := meth) (H := H) (e := e) (nL := nL) ⟨C.1, C.2.1, C.2.2.1, C.2.2.2.1, hts⟩ (c_X4_told l D G b hb) ⟨callB_of 0 hts (goodU u5) rfl rfl rfl (hts _ u4) (hts _ u1) (by decide +kernel) ⟨hR.1, hR.2.1⟩, hts _ u2, hts _ u3⟩
    ⟨PcU.blind, recvU (T := TX4) (ci := 4) (N := 5) (r := 21) C hO hb rfl rfl (by decide), fun U hU hW => ⟨rfl, C.2.2.2.2.2.2.1.moved hW.alike, by rw [hU]; exact C.2.2.2.2.2.2.2.move hW hz, by rw [hU]; exact hO, by rw [hU]; exact hpre⟩⟩ rfl rfl hsz rfl (by show 2 * 0 + _ ≤ 8; simpa using hR.2.2.2.2) hdg ⟨hR.2.2.1, hR.2.2.2.1⟩
  intro T hT X
  obtain ⟨v, st₀, t, T', L, h0, X', hL, e1, e2, ⟨b9, G', hv, k1, k2, k3, k4, k5, k6, k7⟩, st⟩ := g T hT X
  cases hv
  rw [h0] at k2 k3 k5 k6 k7
  have hsz0 := S.2.1.1
  have hk : ∀ q, G q ≠ 0 → G' q = G q := fun q hq => k2 q (hO.lt hq)
  have hS1 : Sd D G' E s.heap t.heap (locs ++ L) := by
    refine ⟨k4, ⟨by omega, fun q h1 h2 => ?_, fun q r hq hr => ?_⟩, fun z hz9 => ?_⟩
    · rw [k2 q (by omega)] at h2
      rw [k5 q (by omega)]
      exact hz q h1 h2
    · by_cases hlt : q < H.size
      · rw [k2 q hlt] at hq
        obtain ⟨j1, j2, j3⟩ := S.2.1.2.2 q r hq hr
        exact ⟨fun ci N h9 k hk9 h8 => (fV_of (k5 q hlt) _ _).trans (j1 ci N h9 k hk9 h8), fun h9 h8 => (k5 q hlt).trans (j2 h9 h8), fun h9 h8 k9 h7 => (congrArg vI (eV_of (k5 q hlt) _)).trans (j3 h9 h8 k9 h7)⟩
      · rcases k3 q (by omega) with y | y | y | y | y
        · exact absurd (hq.symm.trans y) hr
        · have : r = 12 := hq.symm.trans y
          subst this
          refine ⟨fun ci N h9 k hk9 h8 => ?_, fun h9 => (by cases h9), fun h31 => absurd h31 (by decide)⟩
          have h7 : (3, 4) = (ci, N) := Option.some.inj h9
          simp only [Prod.mk.injEq] at h7
          obtain ⟨rfl, rfl⟩ := h7
          match k, hk9 with
          | 0, _ => exact absurd (hE (12, 0) (by simp)) h8
          | 1, _ => exact absurd (hE (12, 1) (by simp)) h8
          | 2, _ => exact absurd (hE (12, 2) (by simp)) h8
          | 3, _ => exact absurd (hE (12, 3) (by simp)) h8
          | k + 4, h => omega
        · have : r = 13 := hq.symm.trans y
          subst this
          exact ⟨fun ci N h9 => (by cases h9), fun _ h8 => absurd (hE (13, 0) (by simp)) h8, fun h31 => absurd h31 (by decide)⟩
        · have : r = 14 := hq.symm.trans y
          subst this
          exact ⟨fun ci N h9 => (by cases h9), fun _ h8 => absurd (hE (14, 0) (by simp)) h8, fun h31 => absurd h31 (by decide)⟩
        · have : r = 15 := hq.symm.trans y
          subst this
          exact ⟨fun ci N h9 => (by cases h9), fun _ h8 => absurd (hE (15, 0) (by simp)) h8, fun h31 => absurd h31 (by decide)⟩
    · rcases List.mem_append.mp hz9 with h9 | h9
      · rw [hk _ (S.2.2 z h9)]; exact S.2.2 z h9
      · rw [hk _ (hL z h9)]; exact hL z h9
  obtain ⟨t2, a1, b1⟩ := kk b9 G' t.heap (locs ++ L) k1 hk (fun q hq => k2 q (by omega)) (fun q hq hne => by
      by_cases hlt : q < H.size
      · exact absurd (k2 q hlt) hne
      · rcases k3 q (by omega) with y | y | y | y | y <;> rw [y] <;> decide) (C.ext (fun q h1 h2 => by rw [k2 q (by omega)]; exact h2)) hS1 k5 k7 T' e1 X'
  exact ⟨t2, st t2 a1, b1⟩
theorem retG_i {f : Heap → Int32 → Heap → Prop} {XC : String → State → State → Prop} (hQ : Q = vx_MQ below (QG D G E (xI f)) XC args s mc ms (fun q => G q ≠ 0)) (C : Cx D G' p s m args meth c own cc nL) (S : Sd D G' E s.heap H locs) (hO : Ok D G s.heap) (hk : ∀ q : Nat, q < s.heap.size → G' q = G q) (hn : ∀ q : Nat, s.heap.size ≤ q → G' q ≠ G q → G' q ≠ 23 ∧ G' q ≠ 25) (hr : meth.sig.returnType = some .int) {v : Int32} (hdg : decode cc pc = .ok (.ireturn, 1)) (hc : cells ≤ mc) (hs : slots ≤ ms) (hp : f s.heap v H) : W p l e R s m args below meth c H locs cells slots Q (F0 m pc ls [.int v]) := by
  subst hQ
  have hG0 : ∀ q : Nat, s.heap.size ≤ q → G q = 0 := fun q hq => Classical.not_not.mp (fun z => Nat.lt_irrefl _ (Nat.lt_of_lt_of_le (hO.lt z) hq))
  have K : Keep D G E s.heap H := ⟨S.2.1.1, fun q h1 h2 => S.2.1.2.1 q h1 (by rw [hk q h1]; exact h2), fun q r hq hr9 => by
    have hlt : q < s.heap.size := hO.lt (by rw [hq]; exact hr9)
    exact S.2.1.2.2 q r (by rw [hk q hlt]; exact hq) hr9⟩
  refine W.relocs (locs' := locs.filter fun y => decide (y.base < s.heap.size)) (fun y hy hlt => List.mem_filter.mpr ⟨hy, by simpa using hlt⟩) ?_
  have hpost : ∀ t : State, t.heap = H → s.WarmedH t.vm → QG D G E (xI f) args s (.returned (some (.int v))) t := by
    intro t ht _
    refine ⟨_, G', rfl, hk, fun q hq => ?_, by rw [ht]; exact S.1, by rw [ht]; exact K, v, rfl, by rw [ht]; exact hp⟩
    by_cases h9 : G' q = G q
    · rw [h9, hG0 q hq]; decide
    · exact hn q hq h9
  refine vx_ret (W.widen hc hs (W.iret C.1 C.2.1 hr hpost (fun z hz => ?_) hdg (hlocks := C.2.2.2.2.2.1)))
  obtain ⟨h1, h2⟩ := List.mem_filter.mp hz
  have h2 : z.base < s.heap.size := by simpa using h2
  have h3 := S.2.2 z h1
  rw [hk _ h2] at h3
  exact h3
end Grow
theorem kV_X11_told : ∀ w ∈ ([.methodLink RX11 112 yX4_told, .instanceMethod yX4_told, .selects yX4_told.cls yX4_told yX4_told, .initialized yX4_told.cls, .code yX4_told cX4_told 1 (some (.object "HearthMoney$Law"))] : List Cond), w ∈ lw_good := mem_dec (by decide +kernel)
theorem Lc.pt {D : DD} {G : Nat → Nat} {H H1 : Heap} {a b ci N k r : Nat} {v : Value} (h : Lc D H a) (hO : Ok D G H) (ga : G a = 21) (P : Pt D H H1 ci N b k v) (hb : G b = r) (h1 : r ≠ 21) (h2 : r ≠ 22) : Lc D H1 a := by
  obtain ⟨k0, i, g1, g2, g3⟩ := h
  have e := P.f (ci' := 4) (j := 3) (ne_role ga hb (fun z => h1 z.symm))
  have gc : G (fR D H 4 a 2) = 22 := hO.rol ga rfl (by decide) rfl
  refine ⟨k0, i, Rcn.mono k0 i g1 (fun j hj => ?_), by rw [e]; exact g2, by rw [e]; exact g3⟩
  show eI H1 (fR D H1 4 a 2) j = _
  rw [P.r (ne_role ga hb (fun z => h1 z.symm)), P.e (ne_role gc hb (fun z => h2 z.symm))]
theorem tlG {D : DD} {G : Nat → Nat} {H H1 : Heap} {a0 : Nat} (hO : Ok D G H) (ga0 : G a0 = 1) (e9 : ∀ q : Nat, q < H.size → H1[q]? = H[q]?) : fI D H1 9 (fR D H1 10 a0 0) 1 = fI D H 9 (fR D H 10 a0 0) 1 := by
  have e1 : fR D H1 10 a0 0 = fR D H 10 a0 0 := congrArg vR (fV_of (e9 a0 (hO.lt (by rw [ga0]; decide))) 10 0)
  have g2 : G (fR D H 10 a0 0) = 2 := hO.rol ga0 rfl (by decide) rfl
  rw [e1]
  exact congrArg vI (fV_of (e9 _ (hO.lt (by rw [g2]; decide))) 9 1)
