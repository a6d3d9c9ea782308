/-! roles for new cells -/
def Ge (G G' : Nat → Nat) : Prop := ∀ q, G q ≠ 0 → G q ≠ 99 → G' q = G q
def ft_nz (r k : Nat) : Bool := (ft r k).1 == 0 || ((ft r k).2.1 != 0 && (ft r k).2.2.1 != 0 && (ft r k).2.1 != 99 && (ft r k).2.2.1 != 99 && (ft r k).2.1 != 40 && (ft r k).2.2.1 != 40)
theorem ft_nz_all : ∀ r, r < 64 → ∀ k, k < 20 → ft_nz r k = true := by decide +kernel
theorem ft_nz_of {r ci N k : Nat} (h : ro r = some (ci, N)) (hk : k < N) : (ft r k).1 = 0 ∨ ((ft r k).2.1 ≠ 0 ∧ (ft r k).2.2.1 ≠ 0 ∧ (ft r k).2.1 ≠ 99 ∧ (ft r k).2.2.1 ≠ 99 ∧ (ft r k).2.1 ≠ 40 ∧ (ft r k).2.2.1 ≠ 40) := by
  have h1 := ro_lt h
  have h2 := ft_nz_all r h1.1 k (by omega)
  unfold ft_nz at h2
  simp only [Bool.or_eq_true, Bool.and_eq_true, beq_iff_eq, bne_iff_ne, ne_eq] at h2
  rcases h2 with h2 | ⟨⟨⟨⟨⟨a1, a2⟩, a3⟩, a4⟩, a5⟩, a6⟩
  · exact Or.inl h2
  · exact Or.inr ⟨a1, a2, a3, a4, a5, a6⟩
theorem rr_nz {r t n q : Nat} (h : rr r = some (t, n, q)) : q ≠ 0 ∧ q ≠ 99 ∧ q ≠ 40 := by
  unfold rr at h
  split at h <;> simp at h <;> (obtain ⟨-, -, rfl⟩ := h) <;> decide
theorem cok_ext {D : DD} {G G' : Nat → Nat} {H : Heap} {a r : Nat} (hG : ∀ q, G q ≠ 0 → G q ≠ 99 → G q ≠ 40 → G' q = G q) (h : cok D G H a r) : cok D G' H a r := by
  obtain ⟨c1, c2, c3, c4⟩ := h
  refine ⟨fun ci N hro => ?_, c2, fun t n q hrr => ?_, c4⟩
  · obtain ⟨V, h1, h2⟩ := c1 ci N hro
    refine ⟨V, h1, fun k hk => ?_⟩
    have hv := h2 k hk
    rcases ft_nz_of hro hk with h3 | ⟨a1, a2, a3, a4, a5, a6⟩
    · exact ⟨hv.1, fun z => (by rw [h3] at z; cases z), fun z => (by rw [h3] at z; cases z)⟩
    · have key : ∀ b, (G b = (ft r k).2.1 ∨ G b = (ft r k).2.2.1) → (G' b = (ft r k).2.1 ∨ G' b = (ft r k).2.2.1) := fun b hb => by
        rcases hb with hb | hb
        · left; rw [hG b (by rw [hb]; exact a1) (by rw [hb]; exact a3) (by rw [hb]; exact a5)]; exact hb
        · right; rw [hG b (by rw [hb]; exact a2) (by rw [hb]; exact a4) (by rw [hb]; exact a6)]; exact hb
      refine ⟨hv.1, fun z => ?_, fun z => ?_⟩
      · obtain ⟨b, e1, e2⟩ := hv.2.1 z
        exact ⟨b, e1, key b e2⟩
      · rcases hv.2.2 z with e1 | ⟨b, e1, e2⟩
        · exact Or.inl e1
        · exact Or.inr ⟨b, e1, key b e2⟩
  · obtain ⟨g, h1, h2⟩ := c3 t n q hrr
    have hz := rr_nz hrr
    exact ⟨g, h1, fun i hi => by rw [hG _ (by rw [h2 i hi]; exact hz.1) (by rw [h2 i hi]; exact hz.2.1) (by rw [h2 i hi]; exact hz.2.2)]; exact h2 i hi⟩
theorem Ok.ext {D : DD} {G G' : Nat → Nat} {H : Heap} (h : Ok D G H) (hG : Ge G G') (hn : ∀ a r, (G a = 0 ∨ G a = 99) → G' a = r → r ≠ 0 → cok D G' H a r) : Ok D G' H := fun a r ha hr => by
  by_cases h1 : G a = 0 ∨ G a = 99
  · exact hn a r h1 ha hr
  · have h2 : G' a = G a := hG a (fun z => h1 (Or.inl z)) (fun z => h1 (Or.inr z))
    exact cok_ext (fun q q1 q2 _ => hG q q1 q2) (h a r (by rw [← h2]; exact ha) hr)
theorem cok99 {D : DD} {G : Nat → Nat} {H : Heap} {a : Nat} (h : a < H.size) : cok D G H a 99 := ⟨fun ci N z => (by cases z), fun t z => (by cases z), fun t n q z => (by cases z), h⟩
theorem Ok.lt {D : DD} {G : Nat → Nat} {H : Heap} {a : Nat} (h : Ok D G H) (ha : G a ≠ 0) : a < H.size := (h a (G a) rfl ha).2.2.2
/-- cells that play no role yet may be written, new ones may come -/
theorem Ok.raw {D : DD} {G : Nat → Nat} {H H1 : Heap} (h : Ok D G H) (h1 : H.size ≤ H1.size) (h2 : ∀ q : Nat, q < H.size → G q ≠ 0 → G q ≠ 99 → H1[q]? = H[q]?) : Ok D G H1 := fun a r ha hr => by
  obtain ⟨w1, w2, w3, w4⟩ := h a r ha hr
  by_cases h9 : r = 99
  · subst h9; exact cok99 (by omega)
  · have e := h2 a w4 (by rw [ha]; exact hr) (by rw [ha]; exact h9)
    exact ⟨fun ci N z => by obtain ⟨V, z1, z2⟩ := w1 ci N z; exact ⟨V, z1.kept e, z2⟩, fun t z => by obtain ⟨n, f, z1, z2⟩ := w2 t z; exact ⟨n, f, by rw [e]; exact z1, z2⟩, fun t n q z => by obtain ⟨g, z1, z2⟩ := w3 t n q z; exact ⟨g, by rw [e]; exact z1, z2⟩, by omega⟩
theorem vx_Zq.ext {C n d : String} {A A' : Nat → Prop} {U : State} {H : Heap} (h : vx_Zq C n d A U H) (hA : ∀ q : Nat, q < H.size → ¬ A q → ¬ A' q) : vx_Zq C n d A' U H := by
  obtain ⟨h1, c, k, i, f, a, cell, g1, g2, g3, g4, g5, g6, g7, g8, g9, g10⟩ := h
  refine ⟨?_, c, k, i, f, a, cell, g1, g2, g3, g4, g5, g6, g7, g8, g9, hA a (Array.getElem?_eq_some_iff.mp g5).1 g10⟩
  rcases h1 with ⟨cf, kf, fi, f, a, cell, z1, z2, z3, z4, z5, z6, z7, z8⟩ | ⟨t, cf, kf, fi, f, a, cell, z1, z2, z3, z4, z5, z6, z7, z8⟩
  · exact Or.inl ⟨cf, kf, fi, f, a, cell, z1, z2, z3, z4, z5, z6, z7, hA a (Array.getElem?_eq_some_iff.mp z5).1 z8⟩
  · exact Or.inr ⟨t, cf, kf, fi, f, a, cell, z1, z2, z3, z4, z5, z6, z7, hA a (Array.getElem?_eq_some_iff.mp z5).1 z8⟩
theorem va_Z.ext {C n d : String} {v : Value} {A A' : Nat → Prop} {U : State} {H : Heap} (h : va_Z C n d v A U H) (hA : ∀ q : Nat, q < H.size → ¬ A q → ¬ A' q) : va_Z C n d v A' U H := by
  obtain ⟨cf, kf, fi, f, a, cell, z1, z2, z3, z4, z5, z6, z7, z8⟩ := h
  exact ⟨cf, kf, fi, f, a, cell, z1, z2, z3, z4, z5, z6, z7, hA a (Array.getElem?_eq_some_iff.mp z5).1 z8⟩
theorem Zs.ext {D : DD} {G G' : Nat → Nat} {U : State} {H : Heap} (h : Zs D G U H) (hA : ∀ q : Nat, q < H.size → G q = 0 → G' q = 0) : Zs D G' U H := by
  have hA' : ∀ q : Nat, q < H.size → ¬ G q ≠ 0 → ¬ G' q ≠ 0 := fun q h1 h2 h3 => h3 (hA q h1 (Classical.not_not.mp h2))
  obtain ⟨h1, h2, h3, h4, h5, h6, h6b, h7⟩ := h
  refine ⟨h1.ext hA', h2.elim (fun z => Or.inl (z.ext hA')) (fun ⟨t, z⟩ => Or.inr ⟨t, z.ext hA'⟩), h3.ext hA', h4.ext hA', h5, fun a n z => ?_, fun b n z => ?_, h7⟩
  · obtain ⟨⟨c1, g1, g2, g3, g4⟩, ⟨cf, k, i, f, c2, k1, k2, k3, k4, k5, k6⟩, b, ⟨cf', k', i', f', c3, l1, l2, l3, l4, l5, l6⟩, h8⟩ := h6 a n z
    exact ⟨⟨c1, g1, g2, g3, hA' a (Array.getElem?_eq_some_iff.mp g1).1 g4⟩, ⟨cf, k, i, f, c2, k1, k2, k3, k4, k5, hA' a (Array.getElem?_eq_some_iff.mp k3).1 k6⟩, b, ⟨cf', k', i', f', c3, l1, l2, l3, l4, l5, hA' a (Array.getElem?_eq_some_iff.mp l3).1 l6⟩, h8⟩
  · obtain ⟨g1, g2, cell, g3, g4⟩ := h6b b n z
    exact ⟨hA b (Array.getElem?_eq_some_iff.mp g3).1 g1, g2, cell, g3, g4⟩
theorem Cx.ext {D : DD} {G G' : Nat → Nat} {p : Program} {s : State} {m : MethodId} {args : Array Value} {meth : Method} {c : Code} {own : String} {cc : ByteArray} {nL : Nat} (C : Cx D G p s m args meth c own cc nL) (hA : ∀ q : Nat, q < s.heap.size → G q = 0 → G' q = 0) : Cx D G' p s m args meth c own cc nL := by
  obtain ⟨h1, h2, h3, h4, h5, h6, h7, h8⟩ := C
  exact ⟨h1, h2, h3, h4, h5, h6, h7, h8.ext hA⟩
theorem W.relocs {p : Program} {l : Launch} {e : Env} {R : Room} {s : State} {m : MethodId} {args : Array Value} {below : List Frame} {meth : Method} {c : Code} {H : Heap} {locs locs' : List Loc} {cells slots : Nat} {Q : State → Prop} {g : JFrame} (h : ∀ y ∈ locs, y.base < s.heap.size → y ∈ locs') (kk : W p l e R s m args below meth c H locs' cells slots Q g) : W p l e R s m args below meth c H locs cells slots Q g :=
  fun T hT X => kk T hT { X with same := X.same.weaken h (Nat.le_refl _) (Nat.le_refl _) }
section NewA
variable {p : Program} {l : Launch} {e : Env} {R : Room} {s : State} {m : MethodId} {args : Array Value} {below : List Frame} {meth : Method} {c : Code} {H H0 : Heap} {locs : List Loc} {cells slots : Nat} {Q : State → Prop}
variable {cc : ByteArray} {pc nL : Nat} {ls : Array Slot} {rest : List Value} {D : DD} {G : Nat → Nat} {own : String} {E : List (Nat × Nat)}
theorem arrV_I {cA : ClassId} {N : Nat} {f : Nat → Int32} : arrV cA N (fun j => .int (f j)) = arrCell cA N f := rfl
/-- a new array of numbers -/
theorem n_newI (C : Cx D G p s m args meth c own cc nL) {n : Int32} {N : Nat} (harr : Cond.arrayClass .int ∈ lw_good) (hn : ¬ n < 0) (hN : n.toNatClampNeg = N) (hb : N * 4 ≤ 536870912) (hR : cells + 1 ≤ R.cells ∧ slots + N ≤ R.slots) (hdg : decode cc pc = .ok (.newarray .int, 2))
    (kk : ∀ H1 : Heap, H1[H.size]? = some (arrCell (D.2 0) N (fun _ => 0)) → H1.size = H.size + 1 → (∀ q : Nat, q < H.size → H1[q]? = H[q]?) → W p l e R s m args below meth c H1 locs (cells + 1) (slots + N) Q (F0 m (pc + 2) ls (.ref H.size :: rest))) : W p l e R s m args below meth c H locs cells slots Q (F0 m pc ls (.int n :: rest)) := by
  refine va_newaK C.1 C.2.1 (atype := .int) (C.2.2.2.2.1 _ harr) rfl hdg rfl hn hN hb hR.1 hR.2 rfl fun H1 cA e1 z1 o1 _ hNm => ?_
  have hA := (C.2.2.2.2.2.2.1.2 0 _ rfl).2
  have hcA : cA = D.2 0 := Option.some.inj (hNm.symm.trans hA)
  subst hcA
  exact kk H1 e1 z1 o1
theorem n_newB (C : Cx D G p s m args meth c own cc nL) {n : Int32} {N : Nat} (harr : Cond.arrayClass .byte ∈ lw_good) (hn : ¬ n < 0) (hN : n.toNatClampNeg = N) (hb : N * 1 ≤ 536870912) (hR : cells + 1 ≤ R.cells ∧ slots + N ≤ R.slots) (hdg : decode cc pc = .ok (.newarray .byte, 2))
    (kk : ∀ H1 : Heap, H1[H.size]? = some (arrCell (D.2 1) N (fun _ => 0)) → H1.size = H.size + 1 → (∀ q : Nat, q < H.size → H1[q]? = H[q]?) → W p l e R s m args below meth c H1 locs (cells + 1) (slots + N) Q (F0 m (pc + 2) ls (.ref H.size :: rest))) : W p l e R s m args below meth c H locs cells slots Q (F0 m pc ls (.int n :: rest)) := by
  refine va_newaK C.1 C.2.1 (atype := .byte) (C.2.2.2.2.1 _ harr) rfl hdg rfl hn hN hb hR.1 hR.2 rfl fun H1 cA e1 z1 o1 _ hNm => ?_
  have hA := (C.2.2.2.2.2.2.1.2 1 _ rfl).2
  have hcA : cA = D.2 1 := Option.some.inj (hNm.symm.trans hA)
  subst hcA
  exact kk H1 e1 z1 o1
/-- a new array of numbers that plays a role at once -/
theorem q_newR (C : Cx D G p s m args meth c own cc nL) (S : Sd D G E s.heap H locs) {n : Int32} {N : Nat} (r : Nat) (hr : ri r = some 0) (h0 : r ≠ 0) (hE : (r, 0) ∈ E) (hok : aok r N (fun _ => 0)) (hN2 : N < 2147483648) (harr : Cond.arrayClass .int ∈ lw_good) (hn : ¬ n < 0) (hN : n.toNatClampNeg = N) (hb : N * 4 ≤ 536870912) (hR : cells + 1 ≤ R.cells ∧ slots + N ≤ R.slots) (hdg : decode cc pc = .ok (.newarray .int, 2))
    (kk : ∀ (G1 : Nat → Nat) (H1 : Heap) (a1 : Nat), G1 a1 = r → (∀ q, G q ≠ 0 → G1 q = G q) → (∀ q, G1 q ≠ G q → G1 q = r ∧ s.heap.size ≤ q) → Cx D G1 p s m args meth c own cc nL → Sd D G1 E s.heap H1 locs → (∀ q : Nat, q < H.size → H1[q]? = H[q]?) → W p l e R s m args below meth c H1 locs (cells + 1) (slots + N) Q (F0 m (pc + 2) ls (.ref a1 :: rest))) (hr31 : r ≠ 31 := by decide) : W p l e R s m args below meth c H locs cells slots Q (F0 m pc ls (.int n :: rest)) := by
  refine n_newI C harr hn hN hb hR hdg fun H1 e1 e2 e3 => ?_
  have hsz := S.2.1.1
  have g0 : G H.size = 0 := Classical.not_not.mp (fun z => Nat.lt_irrefl _ (S.1.lt z))
  have hro : ro r = none := by
    cases h : ro r with
    | none => rfl
    | some x => exact (ro_ri h hr).elim
  have hk : ∀ q, G q ≠ 0 → (fun q => if q = H.size then r else G q) q = G q := fun q hq => if_neg (fun z => hq (by rw [z]; exact g0))
  have hch : ∀ q, (fun q => if q = H.size then r else G q) q ≠ G q → (fun q => if q = H.size then r else G q) q = r ∧ s.heap.size ≤ q := fun q hq => by
    by_cases z : q = H.size
    · subst z; exact ⟨if_pos rfl, hsz⟩
    · exact absurd (if_neg z) hq
  have hO1 : Ok D (fun q => if q = H.size then r else G q) H1 := Ok.ext (S.1.grow (by omega) e3) (fun q h1 _ => hk q h1) (fun a q ha hq h0q => by
    by_cases z : a = H.size
    · subst z
      have hq' : r = q := by rw [← hq]; exact (if_pos rfl).symm
      subst hq'
      refine ⟨fun ci N9 h9 => (by rw [hro] at h9; cases h9), fun t h9 => ?_, fun t n9 q9 h9 => (ri_rr hr h9).elim, by omega⟩
      have h2 := hr.symm.trans h9
      simp only [Option.some.injEq] at h2
      subst h2
      exact ⟨_, _, e1, hN2, hok⟩
    · have hq' : G a = q := by rw [← hq]; exact (if_neg z).symm
      rcases ha with ha | ha
      · exact absurd (hq'.symm.trans ha) h0q
      · have : q = 99 := hq'.symm.trans ha
        subst this
        exact cok99 (by have := S.1.lt (a := a) (by rw [ha]; decide); omega))
  refine kk (fun q => if q = H.size then r else G q) H1 H.size (if_pos rfl) hk hch (C.ext (fun q h1 h2 => by rw [if_neg (by omega)]; exact h2)) ⟨hO1, ⟨by omega, fun q h1 h2 => ?_, fun q rq hq hq0 => ?_⟩, fun z hz => ?_⟩ e3
  · have h3 : G q = 0 := by rw [← h2]; exact (if_neg (by omega)).symm
    rw [e3 q (by omega)]
    exact S.2.1.2.1 q h1 h3
  · by_cases z : q = H.size
    · subst z
      have hq' : r = rq := by rw [← hq]; exact (if_pos rfl).symm
      subst hq'
      exact ⟨fun ci N9 h9 => (by rw [hro] at h9; cases h9), fun _ h9 => absurd hE h9, fun h31 _ _ _ => absurd h31 hr31⟩
    · have hq' : G q = rq := by rw [← hq]; exact (if_neg z).symm
      have hlt : q < H.size := S.1.lt (by rw [hq']; exact hq0)
      obtain ⟨k1, k2, k3⟩ := S.2.1.2.2 q rq hq' hq0
      exact ⟨fun ci N9 h9 k hk9 h8 => (fV_of (e3 q hlt) _ _).trans (k1 ci N9 h9 k hk9 h8), fun h9 h8 => (e3 q hlt).trans (k2 h9 h8), fun h9 h8 k9 h7 => (congrArg vI (eV_of (e3 q hlt) _)).trans (k3 h9 h8 k9 h7)⟩
  · rw [hk _ (S.2.2 z hz)]
    exact S.2.2 z hz
/-- back to the roles of the start: the new arrays are nobody's -/
theorem Sd.drop {G2 : Nat → Nat} (S : Sd D G2 E H0 H locs) (hk : ∀ q, G q ≠ 0 → G2 q = G q) (hn : ∀ q, G2 q ≠ G q → G2 q = 40 ∧ H0.size ≤ q) : Sd D G E H0 H (locs.filter fun y => decide (y.base < H0.size)) := by
  have back : ∀ q, G2 q ≠ 0 → G2 q ≠ 99 → G2 q ≠ 40 → G q = G2 q := fun q _ _ h3 => by
    by_cases z : G2 q = G q
    · exact z.symm
    · exact absurd (hn q z).1 h3
  refine ⟨fun a r ha hr => ?_, ⟨S.2.1.1, fun q h1 h2 => ?_, fun q r hq hr => ?_⟩, fun z hz => ?_⟩
  · exact cok_ext back (S.1 a r (by rw [hk a (by rw [ha]; exact hr)]; exact ha) hr)
  · refine S.2.1.2.1 q h1 ?_
    by_cases z : G2 q = G q
    · rw [z]; exact h2
    · exact absurd (hn q z).2 (by omega)
  · exact S.2.1.2.2 q r (by rw [hk q (by rw [hq]; exact hr)]; exact hq) hr
  · obtain ⟨h1, h2⟩ := List.mem_filter.mp hz
    have h3 := S.2.2 z h1
    have h2 : z.base < H0.size := by simpa using h2
    by_cases y : G2 z.base = G z.base
    · rw [← y]; exact h3
    · exact absurd (hn _ y).2 (Nat.not_le.mpr h2)
theorem retXN_i {mc ms : Nat} {f : Heap → Int32 → Heap → Prop} {XC : String → State → State → Prop} {G2 : Nat → Nat} (hQ : Q = vx_MQ below (QE D G E (xI f)) XC args s mc ms (fun q => G q ≠ 0)) (C : Cx D G2 p s m args meth c own cc nL) (S : Sd D G2 E s.heap H locs) (hk : ∀ q, G q ≠ 0 → G2 q = G q) (hn : ∀ q, G2 q ≠ G q → G2 q = 40 ∧ s.heap.size ≤ q) (hr : meth.sig.returnType = some .int) {v : Int32} (hdg : decode cc pc = .ok (.ireturn, 1)) (hc : cells ≤ mc) (hs : slots ≤ ms) (hp : f s.heap v H) : W p l e R s m args below meth c H locs cells slots Q (F0 m pc ls [.int v]) := by
  subst hQ
  have S1 := Sd.drop (G := G) S hk hn
  refine W.relocs (locs' := locs.filter fun y => decide (y.base < s.heap.size)) (fun y hy hlt => List.mem_filter.mpr ⟨hy, by simpa using hlt⟩) ?_
  exact vx_ret (W.widen hc hs (W.iret C.1 C.2.1 hr (fun t ht hW => ⟨_, rfl, by rw [ht]; exact S1.1, by rw [ht]; exact S1.2.1, v, rfl, by rw [ht]; exact hp⟩) S1.2.2 hdg (hlocks := C.2.2.2.2.2.1)))
end NewA
