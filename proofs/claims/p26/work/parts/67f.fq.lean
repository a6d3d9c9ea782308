/-! both tapes hold the same bytes; the law's reader reads the tape, twelve lines at most -/
def BQ (D : DD) (H : Heap) (x mo : Nat) : Prop := ∀ i : Nat, nrm (eI H (fR D H 9 (fR D H 10 x 0) 0) i).toInt = nrm (eI H (fR D H 11 mo 8) i).toInt
def RQ (D : DD) (H : Heap) (x : Nat) : Prop := fR D H 4 (fR D H 10 x 7) 0 = fR D H 10 x 0 ∧ (fI D H 4 (fR D H 10 x 7) 1).toInt = 12
def noX (E : List (Nat × Nat)) : Bool := decide ((1, 0) ∉ E) && decide ((2, 0) ∉ E) && decide ((3, 0) ∉ E)
def noY (E : List (Nat × Nat)) : Bool := decide ((30, 8) ∉ E) && decide ((36, 0) ∉ E)
def noR (E : List (Nat × Nat)) : Bool := decide ((1, 0) ∉ E) && decide ((1, 7) ∉ E) && decide ((21, 0) ∉ E) && decide ((21, 1) ∉ E)
section Fq
variable {D : DD} {G : Nat → Nat} {E : List (Nat × Nat)} {H H1 : Heap} {x mo o : Nat}
theorem bx_keep (hO : Ok D G H) (gx : G x = 1) (K : KeepO D G E o H H1) (hE : noX E = true) (i : Nat) : eI H1 (fR D H1 9 (fR D H1 10 x 0) 0) i = eI H (fR D H 9 (fR D H 10 x 0) 0) i := by
  unfold noX at hE
  rw [Bool.and_eq_true, Bool.and_eq_true] at hE
  have h1 := of_decide_eq_true hE.1.1
  have h2 := of_decide_eq_true hE.1.2
  have h3 := of_decide_eq_true hE.2
  have g2 : G (fR D H 10 x 0) = 2 := hO.rol gx rfl (by decide) rfl
  have g3 : G (fR D H 9 (fR D H 10 x 0) 0) = 3 := hO.rol g2 rfl (by decide) rfl
  have e1 : fR D H1 10 x 0 = fR D H 10 x 0 := congrArg vR (K.f (N := 10) gx rfl (by decide) h1 (by decide))
  have e2 : fR D H1 9 (fR D H 10 x 0) 0 = fR D H 9 (fR D H 10 x 0) 0 := congrArg vR (K.f (N := 7) g2 rfl (by decide) h2 (by decide))
  rw [e1, e2]
  exact congrArg vI (eV_of ((K.2.2 _ 3 g3 (by decide)).2.1 rfl h3) i)
theorem bm_keep (hO : Ok D G H) (gm : G mo = 30) (K : KeepO D G E o H H1) (hE : noY E = true) (i : Nat) : eI H1 (fR D H1 11 mo 8) i = eI H (fR D H 11 mo 8) i := by
  unfold noY at hE
  rw [Bool.and_eq_true] at hE
  have h1 := of_decide_eq_true hE.1
  have h2 := of_decide_eq_true hE.2
  have g3 : G (fR D H 11 mo 8) = 36 := hO.rol gm rfl (by decide) rfl
  have e1 : fR D H1 11 mo 8 = fR D H 11 mo 8 := congrArg vR (K.f (N := 18) gm rfl (by decide) h1 (by decide))
  rw [e1]
  exact congrArg vI (eV_of ((K.2.2 _ 36 g3 (by decide)).2.1 rfl h2) i)
theorem BQ.keep (h : BQ D H x mo) (hO : Ok D G H) (gx : G x = 1) (gm : G mo = 30) (K : KeepO D G E o H H1) (hE : noX E = true) (hY : noY E = true) : BQ D H1 x mo := fun i => by
  rw [bx_keep hO gx K hE i, bm_keep hO gm K hY i]
  exact h i
theorem RQ.keep (h : RQ D H x) (hO : Ok D G H) (gx : G x = 1) (K : KeepO D G E o H H1) (hE : noR E = true) : RQ D H1 x := by
  unfold noR at hE
  rw [Bool.and_eq_true, Bool.and_eq_true, Bool.and_eq_true] at hE
  have h1 := of_decide_eq_true hE.1.1.1
  have h2 := of_decide_eq_true hE.1.1.2
  have h3 := of_decide_eq_true hE.1.2
  have h4 := of_decide_eq_true hE.2
  have g2 : G (fR D H 10 x 7) = 21 := hO.rol gx rfl (by decide) rfl
  have e1 : fR D H1 10 x 0 = fR D H 10 x 0 := congrArg vR (K.f (N := 10) gx rfl (by decide) h1 (by decide))
  have e2 : fR D H1 10 x 7 = fR D H 10 x 7 := congrArg vR (K.f (N := 10) gx rfl (by decide) h2 (by decide))
  have e3 : fR D H1 4 (fR D H 10 x 7) 0 = fR D H 4 (fR D H 10 x 7) 0 := congrArg vR (K.f (N := 5) g2 rfl (by decide) h3 (by decide))
  have e4 : fI D H1 4 (fR D H 10 x 7) 1 = fI D H 4 (fR D H 10 x 7) 1 := congrArg vI (K.f (N := 5) g2 rfl (by decide) h4 (by decide))
  unfold RQ
  rw [e2, e1, e3, e4]
  exact h
/-- the texts that both would read -/
theorem tq_eq (h : BQ D H x mo) (ht : tln D H x = (fI D H 11 mo 9).toInt) : tT D H (fR D H 10 x 0) = tM D H mo := by
  unfold tT tM
  refine Prod.ext (funext fun i => h i) ?_
  show (fI D H 9 (fR D H 10 x 0) 1).toInt.toNat = (fI D H 11 mo 9).toInt.toNat
  unfold tln at ht
  rw [ht]
/-- both are fed -/
theorem BQ.feed {B B1 M M1 : Nat → Int} {L : Nat} {x1 x2 x3 x4 x5 : Int32} (h : ∀ i, nrm (B i) = M i) (h1 : ∀ i, B1 i = if L ≤ i ∧ i < L + 20 then fb (pk5 x1 x2 x3 x4 x5 ((i - L) / 4)) ((i - L) % 4) else B i) (h2 : ∀ i, M1 i = if L ≤ i ∧ i < L + 20 then nrm (fb (pk5 x1 x2 x3 x4 x5 ((i - L) / 4)) ((i - L) % 4)) else M i) : ∀ i, nrm (B1 i) = M1 i := fun i => by
  rw [h1 i, h2 i]
  by_cases c : L ≤ i ∧ i < L + 20
  · rw [if_pos c, if_pos c]
  · rw [if_neg c, if_neg c]; exact h i
end Fq
theorem tM_keep {D : DD} {G : Nat → Nat} {E : List (Nat × Nat)} {H H1 : Heap} {mo o : Nat} (hO : Ok D G H) (gm : G mo = 30) (K : KeepO D G E o H H1) (hY : noY E = true) (h9 : (30, 9) ∉ E) : tM D H1 mo = tM D H mo := by
  unfold tM
  refine Prod.ext (funext fun i => ?_) ?_
  · show nrm (eI H1 (fR D H1 11 mo 8) i).toInt = nrm (eI H (fR D H 11 mo 8) i).toInt
    rw [bm_keep hO gm K hY i]
  · show (fI D H1 11 mo 9).toInt.toNat = (fI D H 11 mo 9).toInt.toNat
    rw [show fI D H1 11 mo 9 = fI D H 11 mo 9 from congrArg vI (K.f (N := 18) gm rfl (by decide) h9 (by decide))]
theorem eL_keep {D : DD} {G : Nat → Nat} {E : List (Nat × Nat)} {H H1 : Heap} {o : Nat} (K : Keep D G E H H1) (go : G o = 0) (hla : LA D H o) : eL H1 o = eL H o := by
  obtain ⟨f, hf⟩ := hla
  unfold eL
  exact congrArg vL (eV_of (K.2.1 o (Array.getElem?_eq_some_iff.mp hf).1 go) 0)
theorem law_k {z : Bool} {n e r w t a b c : Int} (h1 : (r = 0 ∧ z = true ∧ a = n ∧ w = -1) ∨ (r = 1 ∧ z = false ∧ w = e)) (h2 : (t = 0 ∧ z = true ∧ b = n ∧ c = -1) ∨ (t = 1 ∧ z = false ∧ c = e)) : r = t := by
  rcases h1 with h1 | h1 <;> rcases h2 with h2 | h2
  · omega
  · exact absurd (h1.2.1.symm.trans h2.2.1) (by decide)
  · exact absurd (h2.2.1.symm.trans h1.2.1) (by decide)
  · omega
theorem law_n {z : Bool} {n e r w t b c : Int} {H H1 : Heap} {o : Nat} (eo : eL H1 o = eL H o) (h1 : (r = 0 ∧ z = true ∧ (eL H o).toInt = n ∧ w = -1) ∨ (r = 1 ∧ z = false ∧ w = e)) (h2 : (t = 0 ∧ z = true ∧ b = n ∧ c = -1) ∨ (t = 1 ∧ z = false ∧ c = e)) (h : r = 0) : (eL H1 o).toInt = b := by
  rw [eo]
  rcases h1 with h1 | h1
  · rcases h2 with h2 | h2
    · rw [h1.2.2.1, h2.2.2.1]
    · exact absurd (h1.2.1.symm.trans h2.2.1) (by decide)
  · omega
section LongRows
variable {p : Program} {l : Launch} {e : Env} {R : Room} {s : State} {m : MethodId} {args : Array Value} {below : List Frame} {meth : Method} {c : Code} {H : Heap} {locs : List Loc} {cells slots : Nat} {Q : State → Prop} {cc : ByteArray} {pc nL o : Nat} {ls : Array Slot} {rest : List Value} {D : DD} {G : Nat → Nat} {own : String}
theorem l_lald (C : Cx D G p s m args meth c own cc nL) (hla : LA D H o) (hdg : decode cc pc = .ok (.laload, 1))
    (kk : W p l e R s m args below meth c H locs cells slots Q (F0 m (pc + 1) ls (.long (eL H o) :: rest))) : W p l e R s m args below meth c H locs cells slots Q (F0 m pc ls (.int 0 :: .ref o :: rest)) := by
  obtain ⟨f, hf⟩ := hla
  have hA := (C.2.2.2.2.2.2.1).2 2 _ rfl
  have e9 : eL H o = f 0 := by
    unfold eL eV
    rw [hf]
    show vL ((arrV (D.2 2) 1 (fun j => .long (f j))).slots[0]?.getD .null) = _
    rw [arrV_read _ _ (by decide)]
    rfl
  rw [e9] at kk
  exact W.lald (v := .long (f 0)) C.1 C.2.1 hf (hA.1 1 (fun j => .long (f j))) (fun q => by cases q) (by rw [arrV_size]; decide) (by show (arrV _ _ _).slots[_]? = _; rw [arrV_read _ _ (by decide)]; rfl) rfl rfl hdg kk
theorem lg_eq {x y : Int64} (h : x.toInt = y.toInt) : (lg_cmp x y).toInt = 0 := by
  have e9 : x = y := Int64.toInt_inj.mp h
  subst e9
  simp [lg_cmp]
end LongRows
