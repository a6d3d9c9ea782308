/-! rows over Ok: a field, an element, a call -/
def wsU (y : MethodName) (cc : ByteArray) (nL : Nat) (ret : Option FieldType) : List Cond := .code y cc nL ret :: lw_good
def rmU (h mc ms : Nat) : Room := { frames := h + 8, cells := mc, slots := ms, locals := 150 + 40 * h }
def Cx (D : DD) (G : Nat → Nat) (p : Program) (s : State) (m : MethodId) (args : Array Value) (meth : Method) (c : Code) (own : String) (cc : ByteArray) (nL : Nat) : Prop :=
  p.tables.exec = Jvm.exec ∧ c.code = cc ∧ c.maxLocals = nL ∧ s.vm.findClass own = some m.cls ∧ (∀ w ∈ lw_good, w.before args s = true) ∧ meth.locks = false ∧ Kn D s ∧ Zs D G s s.heap
/-- what a walk keeps: the roles hold, what isn't of E is as at the start, only cells with a role were written -/
def Sd (D : DD) (G : Nat → Nat) (E : List (Nat × Nat)) (H0 H : Heap) (locs : List Loc) : Prop := Ok D G H ∧ Keep D G E H0 H ∧ ∀ z ∈ locs, G z.base ≠ 0
theorem Sd.start {D : DD} {G : Nat → Nat} {E : List (Nat × Nat)} {H : Heap} (h : Ok D G H) : Sd D G E H H [] := ⟨h, Keep.refl, fun _ h => nomatch h⟩
section Rows
variable {p : Program} {l : Launch} {e : Env} {R : Room} {s : State} {m : MethodId} {args : Array Value} {below : List Frame} {meth : Method} {c : Code} {H H0 : Heap} {locs : List Loc} {cells slots : Nat} {Q : State → Prop}
variable {cc : ByteArray} {pc nL : Nat} {ls : Array Slot} {rest : List Value} {D : DD} {G : Nat → Nat} {own : String} {E : List (Nat × Nat)}
theorem vw_in {ci : Nat} {q : vw_C} (h : vwCl[ci]? = some q) : (∀ w ∈ u_ws q.1 q.2.1 q.2.2, w ∈ lw_good) ∧ (∀ a, a < q.2.2 → ∀ b, b < q.2.2 → a ≠ b → (q.2.1 a).2.1 ≠ (q.2.1 b).2.1) ∧ ∃ ty : Nat → FieldType, ∀ k, k < q.2.2 → parseFieldDescriptor (q.2.1 k).2.2.1 = some (ty k) := by
  match ci, h with
  | 0, h => obtain rfl := Option.some.inj h; exact ⟨kW_X0, nmX0, _, tyX0_ok⟩
  | 1, h => obtain rfl := Option.some.inj h; exact ⟨kW_X1, nmX1, _, tyX1_ok⟩
  | 2, h => obtain rfl := Option.some.inj h; exact ⟨kW_X2, nmX2, _, tyX2_ok⟩
  | 3, h => obtain rfl := Option.some.inj h; exact ⟨kW_X3, nmX3, _, tyX3_ok⟩
  | 4, h => obtain rfl := Option.some.inj h; exact ⟨kW_X4, nmX4, _, tyX4_ok⟩
  | 5, h => obtain rfl := Option.some.inj h; exact ⟨kW_X5, nmX5, _, tyX5_ok⟩
  | 6, h => obtain rfl := Option.some.inj h; exact ⟨kW_X6, nmX6, _, tyX6_ok⟩
  | 7, h => obtain rfl := Option.some.inj h; exact ⟨kW_X7, nmX7, _, tyX7_ok⟩
  | 8, h => obtain rfl := Option.some.inj h; exact ⟨kW_X8, nmX8, _, tyX8_ok⟩
  | 9, h => obtain rfl := Option.some.inj h; exact ⟨kW_X9, nmX9, _, tyX9_ok⟩
  | 10, h => obtain rfl := Option.some.inj h; exact ⟨kW_X11, nmX11, _, tyX11_ok⟩
  | 11, h => obtain rfl := Option.some.inj h; exact ⟨kW_X12, nmX12, _, tyX12_ok⟩
  | n + 12, h => exact absurd h (by simp [vwCl])
theorem q_get (C : Cx D G p s m args meth c own cc nL) (hO : Ok D G H) {a r ci N : Nat} {Cn : String} {T : u_T} (ha : G a = r) (hr : ro r = some (ci, N)) (hc : vwCl[ci]? = some (Cn, T, N)) {k index : Nat} {ref : String} (hk : k < N) (hlink : Cond.fieldLink own index ref (T k).2.1 (T k).2.2.1 ∈ lw_good) (hs : ∀ x, s.fieldFound? (T k).1 (T k).2.1 (T k).2.2.1 = some x → s.fieldFound? ref (T k).2.1 (T k).2.2.1 = some x) (h0 : r ≠ 0) (hdg : decode cc pc = .ok (.getfield index, 3))
    (kk : W p l e R s m args below meth c H locs cells slots Q (F0 m (pc + 3) ls (fV D H ci a k :: rest))) : W p l e R s m args below meth c H locs cells slots Q (F0 m pc ls (.ref a :: rest)) := by
  obtain ⟨hx, hb, hml, hown, hts, -, hK, -⟩ := C
  obtain ⟨⟨cell, q1, q2, q3, q4⟩, -⟩ := hO.ob ha hr h0
  obtain ⟨hS, hfc, kC, hkC, hkind⟩ := hK.1 ci _ hc
  obtain ⟨cf, kf, fi, f, hi, hsl⟩ := hS k hk
  refine W.getf hx hb hown (hts _ hlink) (hs _ hi) (u_facts hfc hkC (u_lays hts (vw_in hc).1 hk) hi).1 q1 (by rw [q3]; exact fun h => by cases h) (v := fV D H ci a k) ?_ rfl rfl hdg kk
  rw [hsl]
  exact q4 k hk
theorem q_gi (C : Cx D G p s m args meth c own cc nL) (hO : Ok D G H) {a r ci N : Nat} {Cn : String} {T : u_T} (ha : G a = r) (k : Nat) {index : Nat} {ref : String} (hlink : Cond.fieldLink own index ref (T k).2.1 (T k).2.2.1 ∈ lw_good) (hdg : decode cc pc = .ok (.getfield index, 3)) (hr : ro r = some (ci, N)) (hc : vwCl[ci]? = some (Cn, T, N)) (hk : k < N) (ht : (ft r k).1 = 0) (h0 : r ≠ 0) (hs : ref = (T k).1)
    (kk : W p l e R s m args below meth c H locs cells slots Q (F0 m (pc + 3) ls (.int (fI D H ci a k) :: rest))) : W p l e R s m args below meth c H locs cells slots Q (F0 m pc ls (.ref a :: rest)) := by
  refine q_get C hO ha hr hc hk hlink (fun x h => by rw [hs]; exact h) h0 hdg ?_
  rw [(hO.fi ha hr hk ht h0).1]
  exact kk
theorem q_gr (C : Cx D G p s m args meth c own cc nL) (hO : Ok D G H) {a r ci N : Nat} {Cn : String} {T : u_T} (ha : G a = r) (k : Nat) {index q : Nat} {x y : Int} {ref : String} (hlink : Cond.fieldLink own index ref (T k).2.1 (T k).2.2.1 ∈ lw_good) (hdg : decode cc pc = .ok (.getfield index, 3)) (hr : ro r = some (ci, N)) (hc : vwCl[ci]? = some (Cn, T, N)) (hk : k < N) (ht : ft r k = (1, q, q, x, y)) (h0 : r ≠ 0) (hs : ref = (T k).1)
    (kk : G (fR D H ci a k) = q → W p l e R s m args below meth c H locs cells slots Q (F0 m (pc + 3) ls (.ref (fR D H ci a k) :: rest))) : W p l e R s m args below meth c H locs cells slots Q (F0 m pc ls (.ref a :: rest)) := by
  refine q_get C hO ha hr hc hk hlink (fun x h => by rw [hs]; exact h) h0 hdg ?_
  rw [(hO.fr ha hr hk ht h0).1]
  exact kk (hO.rol ha hr hk ht h0)
/-- what a put leaves -/
def Pt (D : DD) (H H' : Heap) (ci N a k : Nat) (v : Value) : Prop := fV D H' ci a k = v ∧ (∀ j, j < N → j ≠ k → fV D H' ci a j = fV D H ci a j) ∧ (∀ q : Nat, q ≠ a → H'[q]? = H[q]?) ∧ H'.size = H.size
theorem q_put (C : Cx D G p s m args meth c own cc nL) (S : Sd D G E H0 H locs) {a r ci N : Nat} {Cn : String} {T : u_T} (ha : G a = r) (k : Nat) {index : Nat} {ref : String} {v : Value} {ty : FieldType} (hlink : Cond.fieldLink own index ref (T k).2.1 (T k).2.2.1 ∈ lw_good) (hdg : decode cc pc = .ok (.putfield index, 3)) (hr : ro r = some (ci, N)) (hc : vwCl[ci]? = some (Cn, T, N)) (hk : k < N) (h0 : r ≠ 0) (hs : ref = (T k).1)
    (hfin : (T k).2.2.2 = false) (hd : parseFieldDescriptor (T k).2.2.1 = some ty) (hn : narrow ty v = v) (hfit : fits ty v = true) (hv : vok G (ft r k) v) (hE : (r, k) ∈ E)
    (kk : ∀ (H1 : Heap) (locs1 : List Loc), Sd D G E H0 H1 locs1 → Pt D H H1 ci N a k v → W p l e R s m args below meth c H1 locs1 cells slots Q (F0 m (pc + 3) ls rest)) : W p l e R s m args below meth c H locs cells slots Q (F0 m pc ls (v :: .ref a :: rest)) := by
  obtain ⟨hx, hb, hml, hown, hts, -, hK, -⟩ := C
  obtain ⟨hO, hKp, hL⟩ := S
  obtain ⟨hin, hnm, ty0, hty⟩ := vw_in hc
  have hap := va_apart (own := own) (D := D.1) hts hin ty0 hty hnm hK hc
  obtain ⟨⟨cell, q1, q2, q3, q4⟩, hvs⟩ := hO.ob ha hr h0
  obtain ⟨hS, hfc, kC, hkC, hkind⟩ := hK.1 ci _ hc
  obtain ⟨cf, kf, fi, f, hi, hsl⟩ := hS k hk
  have hlay := hts _ (hin _ (u_in_lay hk))
  unfold u_lay at hlay
  rw [if_neg (by rw [hfin]; decide)] at hlay
  have hst := (u_facts hfc hkC (u_lays hts hin hk) hi).1
  have h6 := u_store hfc hkC hkind hlay hi hd hn hfit
  subst hs
  refine W.putK hx hb (f := f) ⟨hown, hts _ hlink, ⟨_, _, _, hi⟩, hst⟩ (by rw [q2]; exact h6) q1 q3 (by rw [hsl]; exact k2_hasslot (q4 k hk)) rfl rfl hdg fun H' e1 e2 e3 => ?_
  rw [hsl] at e1 ⊢
  have ob' : t_OB a (D.1.1 ci) N (D.1.2 ci) H' (updV (fV D H ci a) k v) := ⟨_, e1, q2, q3, t_set q4 hap hk v⟩
  have hP : Pt D H H' ci N a k v := ⟨by rw [ob_V ob' hk]; simp [updV], fun j hj hjk => by rw [ob_V ob' hj]; simp [updV, hjk], e3, e2⟩
  have hO' : Ok D G H' := by
    intro q rq hq hq0
    by_cases hqa : q = a
    · subst hqa
      have : rq = r := hq.symm.trans ha
      subst this
      refine ⟨fun ci' N' h' => ?_, fun t h' => ?_, fun t n q' h' => ?_, ?_⟩
      · have h2 := hr.symm.trans h'
        simp only [Option.some.injEq, Prod.mk.injEq] at h2
        obtain ⟨rfl, rfl⟩ := h2
        refine ⟨_, ob', fun j hj => ?_⟩
        by_cases hjk : j = k
        · subst hjk
          simp only [updV, if_true]
          exact hv
        · simp only [updV, if_neg hjk]
          exact hvs j hj
      · obtain ⟨n, g, hcell, -⟩ := (hO q rq ha hq0).2.1 t h'
        exfalso
        exact ro_ri hr h'
      · exfalso
        exact ro_rr hr h'
      · exact (Array.getElem?_eq_some_iff.mp e1).1
    · obtain ⟨g1, g2, g3, g4⟩ := hO q rq hq hq0
      refine ⟨fun ci' N' h' => ?_, fun t h' => ?_, fun t n q' h' => ?_, by rw [e2]; exact g4⟩
      · obtain ⟨V, w1, w2⟩ := g1 ci' N' h'
        exact ⟨V, w1.kept (e3 q hqa), w2⟩
      · obtain ⟨n, g, w1, w2⟩ := g2 t h'
        exact ⟨n, g, by rw [e3 q hqa]; exact w1, w2⟩
      · obtain ⟨g, w1, w2⟩ := g3 t n q' h'
        exact ⟨g, by rw [e3 q hqa]; exact w1, w2⟩
  refine kk H' _ ⟨hO', hKp.trans ⟨by rw [e2]; exact Nat.le_refl _, fun q _ hq => e3 q (fun z => by rw [z, ha] at hq; exact h0 hq), fun q rq hq hq0 => ⟨fun ci' N' h' j hj hjE => ?_, fun h' _ => e3 q (fun z => ?_), fun h31 _ k9 _ => congrArg vI (eV_of (e3 q (fun z => ?_)) _)⟩⟩, ?_⟩ hP
  · by_cases hqa : q = a
    · subst hqa
      have : rq = r := hq.symm.trans ha
      subst this
      have h2 := hr.symm.trans h'
      simp only [Option.some.injEq, Prod.mk.injEq] at h2
      obtain ⟨rfl, rfl⟩ := h2
      exact hP.2.1 j hj (fun z => hjE (by rw [z]; exact hE))
    · exact fV_of (e3 q hqa) _ _
  · subst z
    rw [← hq, ha, hr] at h'
    cases h'
  · have z8 : r = 31 := by rw [← ha, ← z, hq, h31]
    rw [z8] at hr
    cases hr
  · intro z hz
    rcases List.mem_append.mp hz with h1 | h1
    · exact hL z h1
    · rw [List.mem_singleton.mp h1]
      show G a ≠ 0
      rw [ha]; exact h0
end Rows
