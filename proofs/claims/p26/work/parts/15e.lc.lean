/-! the reader of the law: its code so far -/
def Lw (D : DD) (H H1 : Heap) (a : Nat) : Prop := (fI D H 4 a 3).toInt ≤ (fI D H1 4 a 3).toInt ∧ ∀ j : Nat, (j : Int) < (fI D H 4 a 3).toInt → eI H1 (fR D H1 4 a 2) j = eI H (fR D H 4 a 2) j
theorem Lw.refl {D : DD} {H : Heap} {a : Nat} : Lw D H H a := ⟨Int.le_refl _, fun _ _ => rfl⟩
theorem Lw.trans {D : DD} {H H1 H2 : Heap} {a : Nat} (h : Lw D H H1 a) (k : Lw D H1 H2 a) : Lw D H H2 a := ⟨Int.le_trans h.1 k.1, fun j hj => (k.2 j (by have := h.1; omega)).trans (h.2 j hj)⟩
theorem Lw.keep {D : DD} {G : Nat → Nat} {E : List (Nat × Nat)} {H H1 : Heap} {a : Nat} (hO : Ok D G H) (ga : G a = 21) (K : Keep D G E H H1) (h1 : (21, 2) ∉ E) (h2 : (21, 3) ∉ E) (h3 : (22, 0) ∉ E) : Lw D H H1 a := by
  refine ⟨by rw [K.fI ga rfl (by decide) h2]; exact Int.le_refl _, fun j _ => ?_⟩
  rw [K.fR ga rfl (by decide) h1]
  exact congrArg vI (eV_of (K.c (hO.rol ga rfl (by decide) rfl) rfl h3) j)
/-- k lines, the next one would begin at u -/
def Rcn (f : Nat → Int32) : Nat → Nat → Prop
  | 0, u => u = 0
  | k + 1, u => ∃ i, Rcn f k i ∧ i + 3 ≤ u ∧ (f (i + 2)).toInt = u
theorem Rcn.mono {f g : Nat → Int32} : ∀ k u, Rcn f k u → (∀ j, j < u → g j = f j) → Rcn g k u
  | 0, _, h, _ => h
  | k + 1, u, ⟨i, h1, h2, h3⟩, hg => ⟨i, Rcn.mono k i h1 (fun j hj => hg j (by omega)), h2, by rw [hg (i + 2) (by omega)]; exact h3⟩
theorem CH_of {n : Nat} {f : Nat → Int32} : ∀ k0 i, Rcn f k0 i → i ≤ n → (∀ k, CH n f k i) → ∀ k, CH n f k 0
  | 0, i, h, _, hc => by have h : i = 0 := h; subst h; exact hc
  | k0 + 1, i, ⟨i', h1, h2, h3⟩, hi, hc => CH_of k0 i' h1 (by omega) (fun k => by
      cases k with
      | zero => exact True.intro
      | succ k => 
        intro _
        refine ⟨by omega, ?_⟩
        rw [show min n (f (i' + 2)).toInt.toNat = i by omega]
        exact hc k)
def Lc (D : DD) (H : Heap) (a : Nat) : Prop := ∃ k i : Nat, Rcn (fun j => eI H (fR D H 4 a 2) j) k i ∧ (i : Int) ≤ (fI D H 4 a 3).toInt ∧ ((i : Int) = (fI D H 4 a 3).toInt ∨ ((fI D H 4 a 3).toInt = 400 ∧ 397 < i))
theorem Lc.zero {D : DD} {H : Heap} {a : Nat} (h : (fI D H 4 a 3).toInt = 0) : Lc D H a := ⟨0, 0, rfl, by omega, Or.inl (by omega)⟩
theorem Lc.ch {D : DD} {H : Heap} {a : Nat} (h : Lc D H a) {n : Nat} (hn : (n : Int) = (fI D H 4 a 3).toInt) {f : Nat → Int32} (hf : ∀ j, j < n → f j = eI H (fR D H 4 a 2) j) (k : Nat) : CH n f k 0 := by
  obtain ⟨k0, i, h1, h2, h3⟩ := h
  refine CH_of k0 i (Rcn.mono k0 i h1 (fun j hj => hf j (by omega))) (by omega) (fun k => ?_) k
  cases k with
  | zero => exact True.intro
  | succ k => intro h9; omega
theorem Lc.keep {D : DD} {G : Nat → Nat} {E : List (Nat × Nat)} {H H1 : Heap} {a : Nat} (h : Lc D H a) (hO : Ok D G H) (ga : G a = 21) (K : Keep D G E H H1) (h1 : (21, 2) ∉ E) (h2 : (21, 3) ∉ E) (h3 : (22, 0) ∉ E) : Lc D H1 a := by
  obtain ⟨k0, i, g1, g2, g3⟩ := h
  have e := K.fI ga rfl (by decide) h2
  exact ⟨k0, i, Rcn.mono k0 i g1 (fun j hj => (Lw.keep hO ga K h1 h2 h3).2 j (by omega)), by rw [e]; exact g2, by rw [e]; exact g3⟩
theorem Lc.put {D : DD} {G : Nat → Nat} {H H1 : Heap} {a : Nat} {v : Value} (h : Lc D H a) (hO : Ok D G H) (ga : G a = 21) (P : Pt D H H1 4 5 a 4 v) : Lc D H1 a := by
  obtain ⟨k0, i, g1, g2, g3⟩ := h
  have e := P.o (j := 3) (by decide) (by decide)
  have gc : G (fR D H 4 a 2) = 22 := hO.rol ga rfl (by decide) rfl
  refine ⟨k0, i, Rcn.mono k0 i g1 (fun j hj => ?_), by rw [e]; exact g2, by rw [e]; exact g3⟩
  show eI H1 (fR D H1 4 a 2) j = _
  rw [P.or (j := 2) (by decide) (by decide), P.e (ne_role gc ga (by decide))]
theorem Lc.wr {D : DD} {G : Nat → Nat} {H0 H H1 : Heap} {a e : Nat} (hO : Ok D G H) (ga : G a = 21) (P : Pa H H1 (fR D H 4 a 2) e (fI D H 4 a 3)) (hw : Lw D H0 H a) (he : (e : Int) = (fI D H0 4 a 3).toInt + 2) (h3 : (fI D H0 4 a 3).toInt + 3 ≤ (fI D H 4 a 3).toInt) (h400 : (fI D H 4 a 3).toInt ≤ 400) (h : Lc D H0 a) : Lc D H1 a := by
  obtain ⟨k0, i, g1, g2, g3⟩ := h
  have gc : G (fR D H 4 a 2) = 22 := hO.rol ga rfl (by decide) rfl
  have hn : aN H (fR D H 4 a 2) = 400 := len_22 hO gc
  have e1 : fI D H1 4 a 3 = fI D H 4 a 3 := P.f (ne_role ga gc (by decide))
  have e2 : fR D H1 4 a 2 = fR D H 4 a 2 := P.r (ne_role ga gc (by decide))
  have hi : (i : Int) = (fI D H0 4 a 3).toInt := by omega
  refine ⟨k0 + 1, (fI D H 4 a 3).toInt.toNat, ⟨i, Rcn.mono k0 i g1 (fun j hj => ?_), by omega, ?_⟩, by rw [e1]; omega, Or.inl (by rw [e1]; omega)⟩
  · show eI H1 (fR D H1 4 a 2) j = _
    rw [e2, P.1 j (by omega), if_neg (by omega)]
    exact hw.2 j (by omega)
  · show (eI H1 (fR D H1 4 a 2) (i + 2)).toInt = _
    rw [e2, P.1 (i + 2) (by omega), if_pos (by omega)]
    omega
theorem Lc.full {D : DD} {H0 H : Heap} {a : Nat} (hw : Lw D H0 H a) (h3 : 398 ≤ (fI D H0 4 a 3).toInt) (h400 : (fI D H 4 a 3).toInt = 400) (h : Lc D H0 a) : Lc D H a := by
  obtain ⟨k0, i, g1, g2, g3⟩ := h
  refine ⟨k0, i, Rcn.mono k0 i g1 (fun j hj => hw.2 j (by omega)), by have := hw.1; omega, Or.inr ⟨h400, by omega⟩⟩
theorem Lw.put {D : DD} {G : Nat → Nat} {H H1 H2 : Heap} {a i : Nat} {x y : Int32} (hO : Ok D G H) (ga : G a = 21) (P : Pa H H1 (fR D H 4 a 2) i x) (hi : (i : Int) = (fI D H 4 a 3).toInt) (P2 : Pt D H1 H2 4 5 a 3 (.int y)) (hy : y.toInt = (fI D H 4 a 3).toInt + 1) : (fI D H2 4 a 3).toInt = (fI D H 4 a 3).toInt + 1 ∧ Lw D H H2 a := by
  have gc : G (fR D H 4 a 2) = 22 := hO.rol ga rfl (by decide) rfl
  have hn : aN H (fR D H 4 a 2) = 400 := len_22 hO gc
  have hr : 0 ≤ (fI D H 4 a 3).toInt ∧ (fI D H 4 a 3).toInt ≤ 400 := hO.rng ga rfl (by decide) rfl
  have e1 : (fI D H2 4 a 3).toInt = (fI D H 4 a 3).toInt + 1 := by rw [P2.i]; exact hy
  refine ⟨e1, by omega, fun j hj => ?_⟩
  rw [P2.or (j := 2) (by decide) (by decide), P.r (ne_role ga gc (by decide)), P2.e (ne_role gc ga (by decide)), P.1 j (by omega), if_neg (by omega)]
