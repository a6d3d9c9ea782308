/-! the law's own loop: what stands between two calls -/
def Iv (D : DD) (G : Nat → Nat) (H0 H : Heap) (locs : List Loc) (x mo o : Nat) : Prop := Ok D G H ∧ (G x = 1 ∧ G mo = 30 ∧ G o = 0) ∧ LA D H o ∧ H0.size ≤ o ∧ (∀ q : Nat, q < H0.size → G q = 0 ∧ H[q]? = H0[q]?) ∧ H0.size ≤ H.size ∧ (∀ z ∈ locs, H0.size ≤ z.base) ∧ Dr D G H (fR D H 10 x 2) ∧ G (fR D H 6 (fR D H 10 x 6) 2) = 23
theorem Iv.S {D : DD} {G : Nat → Nat} {H0 H : Heap} {locs : List Loc} {x mo o : Nat} (h : Iv D G H0 H locs x mo o) : va_S (fun q => H0.size ≤ q) H0 H locs := ⟨h.2.2.2.2.2.1, fun q h1 _ => (h.2.2.2.2.1 q h1).2, h.2.2.2.2.2.2.1⟩
theorem Iv.keep {D : DD} {G : Nat → Nat} {E : List (Nat × Nat)} {H0 H H1 : Heap} {locs L : List Loc} {x mo o : Nat} (h : Iv D G H0 H locs x mo o) (hO1 : Ok D G H1) (K : Keep D G E H H1) (hL : ∀ z ∈ L, G z.base ≠ 0) (e1 : (1, 2) ∉ E) (e2 : (1, 6) ∉ E) (e3 : (20, 2) ∉ E) (e4 : (23, 1) ∉ E) (e5 : (24, 0) ∉ E) : Iv D G H0 H1 (locs ++ L) x mo o := by
  obtain ⟨hO, ⟨gx, gm, go⟩, ⟨f, hf⟩, ho, hq, hsz, hl, hd, hr⟩ := h
  have olt : o < H.size := (Array.getElem?_eq_some_iff.mp hf).1
  refine ⟨hO1, ⟨gx, gm, go⟩, ⟨f, by rw [K.2.1 o olt go]; exact hf⟩, ho, fun q h1 => ⟨(hq q h1).1, by rw [K.2.1 q (by omega) (hq q h1).1]; exact (hq q h1).2⟩, by have := K.1; omega, fun z hz => ?_, ?_, ?_⟩
  · rcases List.mem_append.mp hz with h9 | h9
    · exact hl z h9
    · refine Classical.byContradiction (fun y => hL z h9 (hq z.base (Nat.lt_of_not_le y)).1)
  · rw [K.fR gx rfl (by decide) e1]
    exact Dr.keep hO hd K e4 e5
  · rw [K.fR gx rfl (by decide) e2, K.fR (hO.rol gx rfl (by decide) rfl) rfl (by decide) e3]
    exact hr
theorem KeepO.f {D : DD} {G : Nat → Nat} {E : List (Nat × Nat)} {o : Nat} {H H1 : Heap} (h : KeepO D G E o H H1) {q r ci N k : Nat} (hq : G q = r) (hr : ro r = some (ci, N)) (hk : k < N) (hE : (r, k) ∉ E) (h0 : r ≠ 0) : fV D H1 ci q k = fV D H ci q k := (h.2.2 q r hq h0).1 ci N hr k hk hE
theorem Iv.wrap {D : DD} {G G' : Nat → Nat} {E : List (Nat × Nat)} {H0 H H1 : Heap} {locs L : List Loc} {x mo o : Nat} (h : Iv D G H0 H locs x mo o) (k1 : ∀ q : Nat, q < H.size → G' q = G q) (k2 : ∀ q : Nat, H.size ≤ q → G' q ≠ 23 ∧ G' q ≠ 25) (hO1 : Ok D G' H1) (K : KeepO D G E o H H1) (hla : LA D H1 o) (hL : ∀ z ∈ L, G z.base ≠ 0 ∨ z.base = o) (e1 : (1, 2) ∉ E) (e2 : (1, 6) ∉ E) (e3 : (20, 2) ∉ E) (e4 : (23, 1) ∉ E) (e5 : (24, 0) ∉ E) : Iv D G' H0 H1 (locs ++ L) x mo o := by
  obtain ⟨hO, ⟨gx, gm, go⟩, ⟨f, hf⟩, ho, hq, hsz, hl, hd, hr⟩ := h
  have olt : o < H.size := (Array.getElem?_eq_some_iff.mp hf).1
  have xlt : x < H.size := hO.lt (by rw [gx]; decide)
  have mlt : mo < H.size := hO.lt (by rw [gm]; decide)
  have f1 : fR D H1 10 x 2 = fR D H 10 x 2 := congrArg vR (K.f (N := 10) gx rfl (by decide) e1 (by decide))
  have f2 : fR D H1 10 x 6 = fR D H 10 x 6 := congrArg vR (K.f (N := 10) gx rfl (by decide) e2 (by decide))
  have g20 : G (fR D H 10 x 6) = 20 := hO.rol gx rfl (by decide) rfl
  have f3 : fR D H1 6 (fR D H 10 x 6) 2 = fR D H 6 (fR D H 10 x 6) 2 := congrArg vR (K.f (N := 3) g20 rfl (by decide) e3 (by decide))
  have g24 : G (fR D H 5 (fR D H 10 x 2) 1) = 24 := hO.rol hd.1 rfl (by decide) rfl
  have f4 : fR D H1 5 (fR D H 10 x 2) 1 = fR D H 5 (fR D H 10 x 2) 1 := congrArg vR (K.f (N := 14) hd.1 rfl (by decide) e4 (by decide))
  have f5 : H1[fR D H 5 (fR D H 10 x 2) 1]? = H[fR D H 5 (fR D H 10 x 2) 1]? := (K.2.2 _ 24 g24 (by decide)).2.1 rfl e5
  refine ⟨hO1, ⟨by rw [k1 x xlt]; exact gx, by rw [k1 mo mlt]; exact gm, by rw [k1 o olt]; exact go⟩, hla, ho, fun q h1 => ⟨by rw [k1 q (by omega)]; exact (hq q h1).1, by rw [K.2.1 q (by omega) (hq q h1).1 (by omega)]; exact (hq q h1).2⟩, by have := K.1; omega, fun z hz => ?_, ?_, ?_⟩
  · rcases List.mem_append.mp hz with h9 | h9
    · exact hl z h9
    · rcases hL z h9 with h8 | h8
      · refine Classical.byContradiction (fun y => h8 (hq z.base (Nat.lt_of_not_le y)).1)
      · rw [h8]; exact ho
  · rw [f1]
    refine ⟨by rw [k1 _ (hO.lt (by rw [hd.1]; decide))]; exact hd.1, fun a ha => ?_⟩
    have alt : a < H.size := Nat.lt_of_not_le (fun y => (k2 a y).2 ha)
    rw [k1 a alt] at ha
    obtain ⟨j, hj, e9⟩ := hd.2 a ha
    refine ⟨j, hj, ?_⟩
    rw [f4, e9]
    exact (congrArg vR (eV_of f5 j)).symm
  · rw [f2, f3, k1 _ (hO.lt (by rw [hr]; decide))]
    exact hr
section LRows
variable {p : Program} {l : Launch} {e : Env} {R : Room} {s : State} {m : MethodId} {args : Array Value} {below : List Frame} {meth : Method} {c : Code} {H : Heap} {locs : List Loc} {cells slots : Nat} {Q : State → Prop}
variable {cc cc' : ByteArray} {pc nL nL' idx h mc' ms' x mo o : Nat} {ls : Array Slot} {rest As av : List Value} {D : DD} {G : Nat → Nat} {own : String} {Ec : List (Nat × Nat)} {y : MethodName} {ret9 : Option FieldType} {Pre : Heap → Prop} {T : Heap → Int32 → Heap → Prop} {hh : List (Nat × Nat × Nat × Nat)} {postE : Heap → Option Value → Heap → Prop}
abbrev eK5 (E : List (Nat × Nat)) : Prop := (1, 2) ∉ E ∧ (1, 6) ∉ E ∧ (20, 2) ∉ E ∧ (23, 1) ∉ E ∧ (24, 0) ∉ E
theorem l_E (C : Cx D G p s m args meth c own cc nL) (I : Iv D G s.heap H locs x mo o) {b r ci N : Nat} {T : u_T} (hM : CE l D G y cc' nL' ret9 h (.ref b :: As) Pre Ec postE) (hw : ∀ w ∈ ([.methodLink own idx y, .instanceMethod y, .selects y.cls y y, .initialized y.cls, .code y cc' nL' ret9] : List Cond), w ∈ lw_good)
    (hb : G b = r) (hpre : Pre H) (hE : eK5 Ec) (hdg : decode cc pc = .ok (.invokevirtual idx, 3)) (hsz : ls.size = nL) (hr : ro r = some (ci, N)) (hc : vwCl[ci]? = some (y.cls, T, N)) (h0 : r ≠ 0) (hd : Cd y As.length) (hR : Rm R h nL' cells slots rest)
    (kk : ∀ v H1 locs1, Iv D G s.heap H1 locs1 x mo o → Keep D G Ec H H1 → postE H v H1 → W p l e R s m args below meth c H1 locs1 cells slots Q (F0 m (pc + 3) ls (v.toList ++ rest))) : W p l e R s m args below meth c H locs cells slots Q (F0 m pc ls (As.reverse ++ .ref b :: rest)) := by
  have hts := C.2.2.2.2.1
  have hO := I.1
  have hz : ∀ q : Nat, q < s.heap.size → G q = 0 → H[q]? = s.heap[q]? := fun q h1 _ => (I.2.2.2.2.1 q h1).2
  have g := va_runV (g := F0 m pc ls (As.reverse ++ .ref b :: rest)) (rest := rest) (R := R) (locs := locs) (cells := cells) (slots := slots) (below := below) (meth := meth) (H := H) (e := e) (nL := nL) ⟨C.1, C.2.1, C.2.2.1, C.2.2.2.1, hts⟩ hM ⟨cbU C (hw _ (by simp)) (hw _ (by simp)) (hw _ (by simp)) hd hR, hts _ (hw _ (by simp)), hts _ (hw _ (by simp))⟩
    ⟨PcU.blind, recvU C hO hb hr hc h0, fun U hU hW => ⟨rfl, C.2.2.2.2.2.2.1.moved hW.alike, by rw [hU]; exact C.2.2.2.2.2.2.2.move hW hz, by rw [hU]; exact hO, by rw [hU]; exact hpre⟩⟩ rfl rfl hsz rfl (by show 2 * 0 + _ ≤ 8; simpa using hR.2.2.2.2) hdg ⟨hR.2.2.1, hR.2.2.2.1⟩
  intro T hT X
  obtain ⟨v, st₀, t, T', L, h0, X', hL, e1, e2, ⟨v', hv, hO1, hK, hp⟩, st⟩ := g T hT X
  cases hv
  rw [h0] at hp hK
  obtain ⟨t2, a1, b1⟩ := kk v t.heap (locs ++ L) (I.keep hO1 hK hL hE.1 hE.2.1 hE.2.2.1 hE.2.2.2.1 hE.2.2.2.2) hK hp T' e1 X'
  exact ⟨t2, st t2 a1, b1⟩
theorem l_W (hl0 : l.stackTraces = false) (C : Cx D G p s m args meth c own cc nL) (I : Iv D G s.heap H locs x mo o) (hM : CW l D G y cc' nL' hh h mc' ms' As o x Pre Ec T) (hw : ∀ w ∈ ([.methodLink own idx y, .static y, .initialized y.cls, .codeWith y cc' nL' (some .int) hh] : List Cond), w ∈ lw_good)
    (hpre : Pre H) (hE : eK5 Ec) (hE9 : (30, 9) ∉ Ec) (hdg : decode cc pc = .ok (.invokestatic idx, 3)) (hsz : ls.size = nL) (hd : Cd y As.length) (hR : h + 9 ≤ R.frames ∧ 8 + (nL' + 11) + (150 + 40 * h) ≤ R.locals ∧ cells + mc' ≤ R.cells ∧ slots + ms' ≤ R.slots ∧ (rest.map fun v => v.category).sum ≤ 8)
    (kk : ∀ (r : Int32) (G' : Nat → Nat) (H1 : Heap) (locs1 : List Loc), Iv D G' s.heap H1 locs1 x mo o → Cx D G' p s m args meth c own cc nL → fI D H1 11 mo 9 = fI D H 11 mo 9 → T H r H1 → KeepO D G Ec o H H1 → W p l e R s m args below meth c H1 locs1 (cells + mc') (slots + ms') Q (F0 m (pc + 3) ls (.int r :: rest))) : W p l e R s m args below meth c H locs cells slots Q (F0 m pc ls (As.reverse ++ rest)) := by
  have hts := C.2.2.2.2.1
  have hO := I.1
  have hz : ∀ q : Nat, q < s.heap.size → G q = 0 → H[q]? = s.heap[q]? := fun q h1 _ => (I.2.2.2.2.1 q h1).2
  have hgi : GoodIn lw_good (va_wsS own idx y (wsW y cc' nL' hh)) := by
    intro w h9
    have hm : w ∈ lw_good := by
      rcases List.mem_append.mp h9 with h8 | h8
      · exact hw w (by
          simp only [List.mem_cons, List.not_mem_nil, or_false] at h8 ⊢
          rcases h8 with h8 | h8 | h8 <;> simp [h8])
      · rcases List.mem_cons.mp h8 with rfl | h8
        · exact hw _ (by simp)
        · exact h8
    exact ⟨hm, good_word hm⟩
  have g := vx_runSW (g := F0 m pc ls (As.reverse ++ rest)) (rest := rest) (R := R) (locs := locs) (cells := cells) (slots := slots) (below := below) (meth := meth) (H := H) (e := e) (nL := nL) ⟨C.1, C.2.1, C.2.2.1, C.2.2.2.1, hts⟩ (hM hl0) (vx_cwSW As.length hts hgi rfl rfl rfl hd ⟨hR.1, hR.2.1⟩)
    ⟨PcW.blind, fun U hU hW => ⟨rfl, C.2.2.2.2.2.2.1.moved hW.alike, by rw [hU]; exact C.2.2.2.2.2.2.2.move hW hz, by rw [hU]; exact hO, by rw [hU]; exact hpre, by rw [hU]; exact I.2.2.1⟩⟩ rfl rfl hsz rfl (by show 2 * 0 + _ ≤ 8; simpa using hR.2.2.2.2) hdg ⟨hR.2.2.1, hR.2.2.2.1⟩
  intro T9 hT X
  obtain ⟨v, st₀, t, T', L, h0, X', hL, e1, e2, ⟨r, G', hv, k1, k2, k3, k4, k5, k6⟩, st⟩ := g T9 hT X
  cases hv
  rw [h0] at k1 k2 k4 k6
  have I1 := I.wrap k1 k2 k3 k4 k5 hL hE.1 hE.2.1 hE.2.2.1 hE.2.2.2.1 hE.2.2.2.2
  have hsz9 := I.2.2.2.2.2.1
  obtain ⟨t2, a1, b1⟩ := kk r G' t.heap (locs ++ L) I1 (C.ext (fun q h1 h2 => by rw [k1 q (by omega)]; exact h2)) (congrArg vI (k4.f (N := 18) I.2.1.2.1 rfl (by decide) hE9 (by decide))) k6 k4 T' e1 X'
  exact ⟨t2, st t2 a1, b1⟩
end LRows
