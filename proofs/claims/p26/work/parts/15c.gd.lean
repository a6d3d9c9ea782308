/-! the tape's length, the draft's rows, the reader's code: facts that calls carry on -/
theorem tlK {D : DD} {G : Nat → Nat} {E : List (Nat × Nat)} {H H1 : Heap} {a0 : Nat} (hO : Ok D G H) (ga0 : G a0 = 1) (K : Keep D G E H H1) (h1 : (1, 0) ∉ E) (h2 : (2, 1) ∉ E) : fI D H1 9 (fR D H1 10 a0 0) 1 = fI D H 9 (fR D H 10 a0 0) 1 := by
  rw [K.fR ga0 rfl (by decide) h1]
  exact K.fI (hO.rol ga0 rfl (by decide) rfl) rfl (by decide) h2
/-- all rows of the draft are good -/
def Gd (D : DD) (G : Nat → Nat) (H : Heap) : Prop := ∀ a, G a = 25 → 0 ≤ (fI D H 1 a 0).toInt ∧ (fI D H 1 a 0).toInt ≤ 5
theorem Gd.keep {D : DD} {G : Nat → Nat} {E : List (Nat × Nat)} {H H1 : Heap} (h : Gd D G H) (K : Keep D G E H H1) (hE : (25, 0) ∉ E) : Gd D G H1 := fun a ha => by
  rw [K.fI ha rfl (by decide) hE]
  exact h a ha
theorem Gd.put {D : DD} {G : Nat → Nat} {H H1 : Heap} {ci N a k r : Nat} {v : Value} (h : Gd D G H) (hr : G a = r) (P : Pt D H H1 ci N a k v) (hn : r ≠ 25 ∨ (ci = 1 ∧ 0 < N ∧ k ≠ 0)) : Gd D G H1 := fun b hb => by
  by_cases e : b = a
  · subst e
    rcases hn with hn | ⟨h1, h2, h3⟩
    · exact absurd (hr.symm.trans hb) hn
    · subst h1
      have e1 : fI D H1 1 b 0 = fI D H 1 b 0 := congrArg vI (P.2.1 0 h2 (fun z => h3 z.symm))
      rw [e1]; exact h b hb
  · have e1 : fI D H1 1 b 0 = fI D H 1 b 0 := congrArg vI (fV_of (P.2.2.1 b e) _ _)
    rw [e1]; exact h b hb
theorem Gd.put0 {D : DD} {G : Nat → Nat} {H H1 : Heap} {N a : Nat} {x : Int32} (h : ∀ b, G b = 25 → b ≠ a → 0 ≤ (fI D H 1 b 0).toInt ∧ (fI D H 1 b 0).toInt ≤ 5) (P : Pt D H H1 1 N a 0 (.int x)) (h1 : 0 ≤ x.toInt ∧ x.toInt ≤ 5) : Gd D G H1 := fun b hb => by
  by_cases e : b = a
  · subst e
    have e1 : fI D H1 1 b 0 = x := congrArg vI P.1
    rw [e1]; exact h1
  · have e1 : fI D H1 1 b 0 = fI D H 1 b 0 := congrArg vI (fV_of (P.2.2.1 b e) _ _)
    rw [e1]; exact h b hb e
/-- what retagging does to the kinds of fields -/
def up_ok (r k : Nat) : Bool := (ft r k).1 == (ft (rtn r) k).1 && ((r == 25 && k == 0) || (ft r k).1 != 0 || ft r k == ft (rtn r) k) && ((ft r k).1 == 0 || ((rtn (ft r k).2.1 == (ft (rtn r) k).2.1 || rtn (ft r k).2.1 == (ft (rtn r) k).2.2.1) && (rtn (ft r k).2.2.1 == (ft (rtn r) k).2.1 || rtn (ft r k).2.2.1 == (ft (rtn r) k).2.2.1)))
theorem up_all : ∀ r, r < 64 → ∀ k, k < 20 → up_ok r k = true := by decide +kernel
theorem ro_lt {r ci N : Nat} (h : ro r = some (ci, N)) : r < 64 ∧ N < 20 := by
  unfold ro at h
  split at h <;> simp at h <;> omega
theorem rr_up {r t n q : Nat} (h : rr (rtn r) = some (t, n, q)) : ∃ q0, rr r = some (t, n, q0) ∧ rtn q0 = q := by
  by_cases h1 : r = 23
  · subst h1; have h9 : rr (rtn 23) = none := rfl
    rw [h9] at h; cases h
  by_cases h2 : r = 24
  · subst h2; have : rr (rtn 24) = some (4, 12, 8) := rfl
    rw [this] at h; simp at h; obtain ⟨rfl, rfl, rfl⟩ := h; exact ⟨25, rfl, rfl⟩
  by_cases h3 : r = 25
  · subst h3; have h9 : rr (rtn 25) = none := rfl
    rw [h9] at h; cases h
  rw [rtn_id h1 h2 h3] at h
  refine ⟨q, h, ?_⟩
  unfold rr at h
  split at h <;> simp at h <;> (obtain ⟨-, -, rfl⟩ := h) <;> first | rfl | exact absurd rfl h2
theorem Ok.up {D : DD} {G : Nat → Nat} {H : Heap} (h : Ok D G H) (hg : Gd D G H) : Ok D (rt G) H := by
  intro a r ha hr
  have ha' : rtn (G a) = r := ha
  have hz : G a ≠ 0 := fun z => hr (by rw [← ha', z]; rfl)
  obtain ⟨c1, c2, c3, c4⟩ := h a (G a) rfl hz
  subst ha'
  refine ⟨fun ci N hro => ?_, fun t hri => ?_, fun t n q hrr => ?_, c4⟩
  · rw [rtn_ro] at hro
    obtain ⟨V, h1, h2⟩ := c1 ci N hro
    refine ⟨V, h1, fun k hk => ?_⟩
    have hlt := ro_lt hro
    have hu := up_all (G a) hlt.1 k (by omega)
    have hv := h2 k hk
    unfold up_ok at hu
    simp only [Bool.and_eq_true, Bool.or_eq_true, beq_iff_eq, bne_iff_ne, ne_eq] at hu
    obtain ⟨⟨u1, u2⟩, u3⟩ := hu
    refine ⟨fun z => ?_, fun z => ?_, fun z => ?_⟩
    · have z' : (ft (G a) k).1 = 0 := u1.trans z
      rcases u2 with (⟨u4, u5⟩ | u4) | u4
      · obtain ⟨x, hx, -⟩ := hv.1 z'
        have hci : (ci, N) = (1, 6) := by rw [u4] at hro; exact (Option.some.inj hro).symm
        simp only [Prod.mk.injEq] at hci
        obtain ⟨rfl, rfl⟩ := hci
        subst u5
        have e1 : fI D H 1 a 0 = x := by unfold fI; rw [ob_V h1 hk, hx]; rfl
        have h9 := hg a u4
        rw [e1] at h9
        refine ⟨x, hx, ?_⟩
        rw [u4]
        exact h9
      · exact absurd z' u4
      · rw [← u4]
        exact hv.1 z'
    · have z' : (ft (G a) k).1 = 1 := u1.trans z
      obtain ⟨b, hb, hq⟩ := hv.2.1 z'
      refine ⟨b, hb, ?_⟩
      rcases u3 with u3 | ⟨u4, u5⟩
      · rw [z'] at u3; exact absurd u3 (by decide)
      · rcases hq with hq | hq
        · rcases u4 with u4 | u4
          · left; rw [← u4, ← hq]; rfl
          · right; rw [← u4, ← hq]; rfl
        · rcases u5 with u4 | u4
          · left; rw [← u4, ← hq]; rfl
          · right; rw [← u4, ← hq]; rfl
    · have z' : (ft (G a) k).1 = 2 := u1.trans z
      rcases hv.2.2 z' with hb | ⟨b, hb, hq⟩
      · exact Or.inl hb
      refine Or.inr ⟨b, hb, ?_⟩
      rcases u3 with u3 | ⟨u4, u5⟩
      · rw [z'] at u3; exact absurd u3 (by decide)
      · rcases hq with hq | hq
        · rcases u4 with u4 | u4
          · left; rw [← u4, ← hq]; rfl
          · right; rw [← u4, ← hq]; rfl
        · rcases u5 with u4 | u4
          · left; rw [← u4, ← hq]; rfl
          · right; rw [← u4, ← hq]; rfl
  · rw [rtn_ri] at hri
    obtain ⟨n, f, h1, h2, h3⟩ := c2 t hri
    refine ⟨n, f, h1, h2, ?_⟩
    have hne : rtn (G a) = G a := by
      apply rtn_id <;> (intro z; rw [z] at hri; cases hri)
    rw [hne]; exact h3
  · obtain ⟨q0, h1, h2⟩ := rr_up hrr
    obtain ⟨g, h3, h4⟩ := c3 t n q0 h1
    exact ⟨g, h3, fun i hi => by show rtn (G (g i)) = q; rw [h4 i hi]; exact h2⟩
theorem Ok.dn {D : DD} {G : Nat → Nat} {H : Heap} (h : Ok D (rt G) H) : Gd D G H := fun a ha =>
  h.rng (r := 8) (ci := 1) (N := 6) (k := 0) (lo := 0) (hi := 5) (by show rtn (G a) = 8; rw [ha]; rfl) rfl (by decide) rfl
theorem CE.weak {l : Launch} {D : DD} {G : Nat → Nat} {y : MethodName} {cc : ByteArray} {nL : Nat} {ret : Option FieldType} {h : Nat} {av : List Value} {Pre Pre' : Heap → Prop} {E : List (Nat × Nat)} {post post' : Heap → Option Value → Heap → Prop}
    (hc : CE l D G y cc nL ret h av Pre E post) (hp : ∀ H, Ok D G H → Pre' H → Pre H) (hq : ∀ H v H1, Ok D G H → Pre' H → Ok D G H1 → Keep D G E H H1 → post H v H1 → post' H v H1) : CE l D G y cc nL ret h av Pre' E post' :=
  Met.re hc (fun _ _ h => ⟨h.1, h.2.1, h.2.2.1, h.2.2.2.1, hp _ h.2.2.2.1 h.2.2.2.2⟩)
    (fun _ _ _ _ hp9 hq9 => by
      obtain ⟨v, e1, h1, h2, h3⟩ := hq9
      exact ⟨v, e1, h1, h2, hq _ _ _ hp9.2.2.2.1 hp9.2.2.2.2 h1 h2 h3⟩)
    (fun q hq => hq)
/-- the draft's twelve rows are all there are -/
def Dr (D : DD) (G : Nat → Nat) (H : Heap) (b : Nat) : Prop := G b = 23 ∧ ∀ a, G a = 25 → ∃ j, j < 12 ∧ a = eR H (fR D H 5 b 1) j
theorem Dr.keep {D : DD} {G : Nat → Nat} {E : List (Nat × Nat)} {H H1 : Heap} {b : Nat} (hO : Ok D G H) (h : Dr D G H b) (K : Keep D G E H H1) (h1 : (23, 1) ∉ E) (h2 : (24, 0) ∉ E) : Dr D G H1 b := ⟨h.1, fun a ha => by
  obtain ⟨j, hj, e⟩ := h.2 a ha
  refine ⟨j, hj, ?_⟩
  rw [K.fR h.1 rfl (by decide) h1]
  rw [e]
  exact (congrArg vR (eV_of (K.c (hO.rol h.1 rfl (by decide) rfl) rfl h2) j)).symm⟩
theorem dK {D : DD} {G : Nat → Nat} {E : List (Nat × Nat)} {H H1 : Heap} {a k : Nat} (ga : G a = 20) (hd : G (fR D H 6 a 2) = 23) (K : Keep D G E H H1) (h1 : (20, 2) ∉ E) (h2 : (23, k) ∉ E) (hk : k < 14) : fI D H1 5 (fR D H1 6 a 2) k = fI D H 5 (fR D H 6 a 2) k := by
  rw [K.fR ga rfl (by decide) h1]
  exact K.fI hd rfl hk h2
theorem dP {D : DD} {G : Nat → Nat} {H H1 : Heap} {a k ci N b j r : Nat} {v : Value} (ga : G a = 20) (hd : G (fR D H 6 a 2) = 23) (P : Pt D H H1 ci N b j v) (hb : G b = r) (h1 : r ≠ 20) (h2 : r ≠ 23) : fI D H1 5 (fR D H1 6 a 2) k = fI D H 5 (fR D H 6 a 2) k := by
  rw [P.r (ne_role ga hb (fun z => h1 z.symm)), P.f (ne_role hd hb (fun z => h2 z.symm))]
