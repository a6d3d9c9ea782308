/-! a row of numbers is written anew -/
section Copy
variable {p : Program} {l : Launch} {e : Env} {R : Room} {s : State} {m : MethodId} {args : Array Value} {below : List Frame} {meth : Method} {c : Code} {H H0 : Heap} {locs : List Loc} {cells slots : Nat} {Q : State → Prop}
variable {cc : ByteArray} {pc nL idx : Nat} {ls : Array Slot} {rest : List Value} {D : DD} {G : Nat → Nat} {own : String} {E : List (Nat × Nat)}
theorem q_setA {a r t : Nat} {n : Nat} {f : Nat → Int32} {H' : Heap} {L : List Loc} (S : Sd D G E H0 H locs) (ha : G a = r) (hr : ri r = some t) (h0 : r ≠ 0) (hE : (r, 0) ∈ E) (hn : n < 2147483648) (hok : aok r n f)
    (e1 : H'[a]? = some (arrCell (D.2 t) n f)) (e2 : H'.size = H.size) (e3 : ∀ q : Nat, q ≠ a → H'[q]? = H[q]?) (hL : ∀ z ∈ L, z.base = a) (h31 : r ≠ 31 := by decide) : Sd D G E H0 H' (locs ++ L) := by
  obtain ⟨hO, hKp, hL0⟩ := S
  have hro : ro r = none := by
    cases h : ro r with
    | none => rfl
    | some x => exact (ro_ri h hr).elim
  refine ⟨?_, hKp.trans ⟨by rw [e2]; exact Nat.le_refl _, fun q _ hq => e3 q (fun z => by rw [z, ha] at hq; exact h0 hq), fun q rq hq hq0 => ⟨fun ci' N' h' j hj hjE => ?_, fun h' hn => e3 q (fun z => ?_), fun z8 _ k9 _ => congrArg vI (eV_of (e3 q (fun z => h31 (by rw [← ha, ← z, hq, z8]))) _)⟩⟩, ?_⟩
  · intro q rq hq hq0
    by_cases hqa : q = a
    · subst hqa
      have : rq = r := hq.symm.trans ha
      subst this
      refine ⟨fun ci' N' h' => ?_, fun t' h' => ?_, fun t' n q' h' => ?_, (Array.getElem?_eq_some_iff.mp e1).1⟩
      · rw [hro] at h'; cases h'
      · have h2 := hr.symm.trans h'
        simp only [Option.some.injEq] at h2
        subst h2
        exact ⟨_, _, e1, hn, hok⟩
      · exact (ri_rr hr h').elim
    · obtain ⟨w1, w2, w3, w4⟩ := hO q rq hq hq0
      refine ⟨fun ci' N' h' => ?_, fun t h' => ?_, fun t n q' h' => ?_, by rw [e2]; exact w4⟩
      · obtain ⟨V, z1, z2⟩ := w1 ci' N' h'
        exact ⟨V, z1.kept (e3 q hqa), z2⟩
      · obtain ⟨n, g, z1, z2⟩ := w2 t h'
        exact ⟨n, g, by rw [e3 q hqa]; exact z1, z2⟩
      · obtain ⟨g, z1, z2⟩ := w3 t n q' h'
        exact ⟨g, by rw [e3 q hqa]; exact z1, z2⟩
  · refine fV_of (e3 q (fun z => ?_)) _ _
    subst z
    rw [← hq, ha, hro] at h'
    cases h'
  · subst z
    exact hn (by rw [← hq, ha]; exact hE)
  · intro z hz
    rcases List.mem_append.mp hz with h1 | h1
    · exact hL0 z h1
    · rw [hL z h1, ha]; exact h0
/-- System.arraycopy of a whole row of 60 into another -/
theorem q_cpy (C : Cx D G p s m args meth c own cc nL) (S : Sd D G E H0 H locs) {a b : Nat} (ha : G a = 11) (hb : G b = 11) (hE : (11, 0) ∈ E) (hw : ∀ w ∈ ([.methodLink own idx arraycopyName, .native arraycopyName, .static arraycopyName, .initialized "java/lang/System"] : List Cond), w ∈ lw_good) (hdg : decode cc pc = .ok (.invokestatic idx, 3)) (hsz : ls.size = nL) (hR : 1 ≤ R.frames ∧ (rest.map fun v => v.category).sum + (nativeFrameWords "java/lang/System" "arraycopy" 5 + 11) ≤ R.locals)
    (kk : ∀ (H1 : Heap) (locs1 : List Loc), Sd D G E H0 H1 locs1 → W p l e R s m args below meth c H1 locs1 cells slots Q (F0 m (pc + 3) ls rest)) : W p l e R s m args below meth c H locs cells slots Q (F0 m pc ls (.int 60 :: .int 0 :: .ref b :: .int 0 :: .ref a :: rest)) := by
  have hts := C.2.2.2.2.1
  obtain ⟨f, f1, f2, f3, f4⟩ := S.1.ia ha rfl
  obtain ⟨g, g1, g2, g3, g4⟩ := S.1.ia hb rfl
  have n0 : aN H a = 60 := f3
  have n1 : aN H b = 60 := g3
  rw [n0] at f1
  rw [n1] at g1
  have hK := C.2.2.2.2.2.2.1
  intro T hT X
  obtain ⟨-, k0, hk0, cm0, hkk0⟩ := (hK.2 0 _ rfl).1 60 (fun j => .int (f j))
  obtain ⟨vm', X', step⟩ := X.arraycopy C.1 C.2.2.2.1 (hts (.methodLink own idx arraycopyName) (hw _ (by simp))) (hts _ (hw _ (by simp))) (hts _ (hw _ (by simp))) (hts _ (hw _ (by simp))) (src := a) (dst := b) (cs := vp_cell (D.2 0) (60, .inl f)) (cd := vp_cell (D.2 0) (60, .inl g)) (srcPos := 0) (destPos := 0) (n := 60) (by rw [hT]; exact f1) (by rw [hT]; exact g1)
    (fun _ h => by cases h) (fun _ h => by cases h) (fun h => by cases h) (fun h => by cases h) hk0 hk0 hkk0 hkk0 (by simp [refKind]) (by decide) (by decide) (by decide)
    (by show ¬ _ > ((arrV (D.2 0) 60 (fun j => .int (f j))).slots.size : Int); rw [arrV_size]; decide)
    (by show ¬ _ > ((arrV (D.2 0) 60 (fun j => .int (g j))).slots.size : Int); rw [arrV_size]; decide)
    (fun vm₁ _ i hi => by
      have hi' : i < 60 := hi
      have e : (vp_cell (D.2 0) (60, .inl f)).slots.getD ((0 : Int32).toNatClampNeg + i) .null = .int (f ((0 : Int32).toNatClampNeg + i)) := by
        show (arrV (D.2 0) 60 (fun j => .int (f j))).slots.getD _ _ = _
        rw [Array.getD_eq_getD_getElem?, arrV_read _ _ (by show 0 + i < 60; omega)]
        rfl
      refine ⟨?_, ?_⟩
      · rw [e]; rfl
      · rw [e]
        exact trivial)
    (g := F0 m pc ls (.int 60 :: .int 0 :: .ref b :: .int 0 :: .ref a :: rest)) rfl (by rw [C.2.2.1, hsz]) (rest := rest) rfl (by rw [C.2.1]; exact hdg) hR.1 (by show 2 * 0 + _ + _ ≤ _; have := hR.2; omega)
  have e1 : copied (vp_cell (D.2 0) (60, .inl f)) (vp_cell (D.2 0) (60, .inl g)) 0 0 60 = vp_cell (D.2 0) (60, .inl (va_cpy f g (0 : Int32).toNatClampNeg (0 : Int32).toNatClampNeg (60 : Int32).toNatClampNeg)) := va_copied (fun z => .int z) (D.2 0) (D.2 0) f g (by show (0 : Int32).toNatClampNeg + (60 : Int32).toNatClampNeg ≤ 60; decide)
  rw [e1] at X' step
  generalize va_cpy f g (0 : Int32).toNatClampNeg (0 : Int32).toNatClampNeg (60 : Int32).toNatClampNeg = h9 at X' step
  have hl : b < H.size := (Array.getElem?_eq_some_iff.mp g1).1
  have hheap : ((T.setVm vm').setCell b (vp_cell (D.2 0) (60, .inl h9))).heap = H.setIfInBounds b (vp_cell (D.2 0) (60, .inl h9)) := by rw [← hT]; rfl
  obtain ⟨t, a1, b1⟩ := kk _ _ (q_setA (a := b) (t := 0) (n := 60) (f := h9) S hb rfl (by decide) hE (by decide) (by show (60 : Nat) = 60; rfl) (show (H.setIfInBounds b (vp_cell (D.2 0) (60, .inl h9)))[b]? = some _ by simp [Array.getElem?_setIfInBounds, hl]; rfl) (by simp) (fun q hq => by simp [Array.getElem?_setIfInBounds, Ne.symm hq]) (fun z hz => by
      obtain ⟨w, -, hw⟩ := List.mem_map.mp hz
      rw [← hw])) _ hheap X'
  exact ⟨t, step t a1, b1⟩
end Copy
