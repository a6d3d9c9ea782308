/-! the same, with what back looks at -/
section LRows
variable {p : Program} {l : Launch} {e : Env} {R : Room} {s : State} {m : MethodId} {args : Array Value} {below : List Frame} {meth : Method} {c : Code} {H : Heap} {locs : List Loc} {cells slots : Nat} {Q : State → Prop}
variable {cc cc' : ByteArray} {pc nL nL' idx h mc' ms' x mo o : Nat} {ls : Array Slot} {rest As av : List Value} {D : DD} {G : Nat → Nat} {own : String} {Ec : List (Nat × Nat)} {y : MethodName} {ret9 : Option FieldType} {Pre : Heap → Prop} {T : Heap → Int} {hh : List (Nat × Nat × Nat × Nat)} {postE : Heap → Option Value → Heap → Prop}
theorem l_V (hl0 : l.stackTraces = false) (C : Cx D G p s m args meth c own cc nL) (I : Iv D G s.heap H locs x mo o) (hM : CW l D G y cc' nL' hh h mc' ms' As o x Pre Ec T) (hw : ∀ w ∈ ([.methodLink own idx y, .static y, .initialized y.cls, .codeWith y cc' nL' (some .int) hh] : List Cond), w ∈ lw_good)
    (hpre : Pre H) (hE : eK5 Ec) (hE9 : (30, 6) ∉ Ec ∧ (1, 8) ∉ Ec) (hdg : decode cc pc = .ok (.invokestatic idx, 3)) (hsz : ls.size = nL) (hd : Cd y As.length) (hR : h + 9 ≤ R.frames ∧ 8 + (nL' + 11) + (150 + 40 * h) ≤ R.locals ∧ cells + mc' ≤ R.cells ∧ slots + ms' ≤ R.slots ∧ (rest.map fun v => v.category).sum ≤ 8)
    (kk : ∀ (r : Int32) (G' : Nat → Nat) (H1 : Heap) (locs1 : List Loc), Iv D G' s.heap H1 locs1 x mo o → Cx D G' p s m args meth c own cc nL → fI D H1 11 mo 6 = fI D H 11 mo 6 → fI D H1 10 x 8 = fI D H 10 x 8 → W p l e R s m args below meth c H1 locs1 (cells + mc') (slots + ms') Q (F0 m (pc + 3) ls (.int r :: rest))) : W p l e R s m args below meth c H locs cells slots Q (F0 m pc ls (As.reverse ++ rest)) := by
  have hts := C.2.2.2.2.1
  have hO := I.1
  have hz : ∀ q : Nat, q < s.heap.size → G q = 0 → H[q]? = s.heap[q]? := fun q h1 _ => (I.2.2.2.2.1 q h1).2
  have hgi : GoodIn lw_good (va_wsS own idx y (wsW y cc' nL' hh)) := by
    intro w h9
    have hm : w ∈ lw_good := by
      rcases List.mem_append.mp h9 with h8 | h8
      · exact hw w (by
          simp only [List.mem_cons, List.not_mem_nil, or_false] at h8 ⊢
          rcases h8 with h8 | h8 | h8 <;> simp [h8])
      · rcases List.mem_cons.mp h8 with rfl | h8
        · exact hw _ (by simp)
        · exact h8
    exact ⟨hm, good_word hm⟩
  have g := vx_runSW (g := F0 m pc ls (As.reverse ++ rest)) (rest := rest) (R := R) (locs := locs) (cells := cells) (slots := slots) (below := below) (meth := meth) (H := H) (e := e) (nL := nL) ⟨C.1, C.2.1, C.2.2.1, C.2.2.2.1, hts⟩ (hM hl0) (vx_cwSW As.length hts hgi rfl rfl rfl hd ⟨hR.1, hR.2.1⟩)
    ⟨PcW.blind, fun U hU hW => ⟨rfl, C.2.2.2.2.2.2.1.moved hW.alike, by rw [hU]; exact C.2.2.2.2.2.2.2.move hW hz, by rw [hU]; exact hO, by rw [hU]; exact hpre, by rw [hU]; exact I.2.2.1⟩⟩ rfl rfl hsz rfl (by show 2 * 0 + _ ≤ 8; simpa using hR.2.2.2.2) hdg ⟨hR.2.2.1, hR.2.2.2.1⟩
  intro T9 hT X
  obtain ⟨v, st₀, t, T', L, h0, X', hL, e1, e2, ⟨r, G', hv, k1, k2, k3, k4, k5, k6⟩, st⟩ := g T9 hT X
  cases hv
  rw [h0] at k1 k2 k4 k6
  have I1 := I.wrap k1 k2 k3 k4 k5 hL hE.1 hE.2.1 hE.2.2.1 hE.2.2.2.1 hE.2.2.2.2
  have hsz9 := I.2.2.2.2.2.1
  obtain ⟨t2, a1, b1⟩ := kk r G' t.heap (locs ++ L) I1 (C.ext (fun q h1 h2 => by rw [k1 q (by omega)]; exact h2)) (congrArg vI (k4.f (N := 18) I.2.1.2.1 rfl (by decide) hE9.1 (by decide))) (congrArg vI (k4.f (N := 10) I.2.1.1 rfl (by decide) hE9.2 (by decide))) T' e1 X'
  exact ⟨t2, st t2 a1, b1⟩
end LRows
