/-! the tape of the class and that of the reference as texts; where each reader stands -/
def tT (D : DD) (H : Heap) (a : Nat) : Tx := (fun i => nrm (eI H (fR D H 9 a 0) i).toInt, (fI D H 9 a 1).toInt.toNat)
def TSp (D : DD) (H : Heap) (a : Nat) (T : Tx) (b : Nat) : Prop := tT D H a = T ∧ (fI D H 9 a 2).toInt = -1 ∧ (fI D H 9 a 5).toInt = b
def TS (D : DD) (H : Heap) (a : Nat) (T : Tx) (b : Nat) : Prop := TSp D H a T (af T b) ∧ (fI D H 9 a 3).toInt = kd T b ∧ (fI D H 9 a 4).toInt = b ∧ (kd T b = 2 → (fI D H 9 a 6).toInt = nv T b) ∧ (kd T b = 3 → nrm (fI D H 9 a 6).toInt = T.1 b)
/-- what a reader of the class answers -/
def Rs (D : DD) (H : Heap) (a : Nat) (T : Tx) (z : Rz) (r : Int32) : Prop := (∃ c, z = (true, c) ∧ r.toInt = 1 ∧ TS D H a T c) ∨ ∃ e, z = (false, e) ∧ r.toInt = 0 ∧ (fI D H 9 a 2).toInt = ((e : Nat) : Int)
def mT (D : DD) (H : Heap) (a : Nat) : Tx := (fun i => nrm (eI H (fR D H 11 a 8) i).toInt, (fI D H 11 a 11).toInt.toNat)
def RB (D : DD) (H : Heap) (a : Nat) (T : Tx) (b : Nat) : Prop := mT D H a = T ∧ (fI D H 11 a 10).toInt.toNat ≤ T.2 ∧ sk T (fI D H 11 a 10).toInt.toNat = b
def LB (D : DD) (H : Heap) (a : Nat) (T : Tx) (b : Nat) : Prop := mT D H a = T ∧ (sk T b = b ∧ (fI D H 11 a 10).toInt.toNat ≤ T.2) ∧ (fI D H 11 a 12).toInt = b ∧ (kd T b = 1 → (fI D H 11 a 10).toInt = af T b) ∧ (kd T b ≠ 1 → (fI D H 11 a 10).toInt = b)
/-- what one of the reference answers -/
def RR (D : DD) (H : Heap) (a : Nat) (T : Tx) (z : Rz) (r : Int32) : Prop := (∃ c, z = (true, c) ∧ r.toInt = 1 ∧ RB D H a T c) ∨ ∃ e, z = (false, e) ∧ r.toInt = 0 ∧ (fI D H 11 a 12).toInt = ((e : Nat) : Int)
section TSt
variable {D : DD} {G : Nat → Nat} {E : List (Nat × Nat)} {H H1 : Heap} {a b c e : Nat} {T : Tx} {z : Rz} {r : Int32}
theorem Rs.ok (h : z = (true, c)) (hr : r.toInt = 1) (ht : TS D H a T c) : Rs D H a T z r := Or.inl ⟨c, h, hr, ht⟩
theorem Rs.no (h : z = (false, e)) (hr : r.toInt = 0) (ht : (fI D H 9 a 2).toInt = ((e : Nat) : Int)) : Rs D H a T z r := Or.inr ⟨e, h, hr, ht⟩
theorem RR.ok (h : z = (true, c)) (hr : r.toInt = 1) (ht : RB D H a T c) : RR D H a T z r := Or.inl ⟨c, h, hr, ht⟩
theorem RR.no (h : z = (false, e)) (hr : r.toInt = 0) (ht : (fI D H 11 a 12).toInt = ((e : Nat) : Int)) : RR D H a T z r := Or.inr ⟨e, h, hr, ht⟩
theorem tT_le (hO : Ok D G H) (ga : G a = 2) : (tT D H a).2 ≤ 400 := by
  have h : 0 ≤ (fI D H 9 a 1).toInt ∧ (fI D H 9 a 1).toInt ≤ 400 := hO.rng ga rfl (by decide) rfl
  show (fI D H 9 a 1).toInt.toNat ≤ 400
  omega
theorem mT_le (hO : Ok D G H) (ga : G a = 30) : (mT D H a).2 ≤ 400 := by
  have h : 0 ≤ (fI D H 11 a 11).toInt ∧ (fI D H 11 a 11).toInt ≤ 400 := hO.rng ga rfl (by decide) rfl
  show (fI D H 11 a 11).toInt.toNat ≤ 400
  omega
theorem TS.le (h : TS D H a T b) (hO : Ok D G H) (ga : G a = 2) : T.2 ≤ 400 := by rw [← h.1.1]; exact tT_le hO ga
theorem RB.le (h : RB D H a T b) (hO : Ok D G H) (ga : G a = 30) : T.2 ≤ 400 := by rw [← h.1]; exact mT_le hO ga
theorem LB.le (h : LB D H a T b) (hO : Ok D G H) (ga : G a = 30) : T.2 ≤ 400 := by rw [← h.1]; exact mT_le hO ga
theorem tT_of (h1 : H1[a]? = H[a]?) (h2 : H1[fR D H 9 a 0]? = H[fR D H 9 a 0]?) : tT D H1 a = tT D H a := by
  have e1 : ∀ k, fV D H1 9 a k = fV D H 9 a k := fun k => fV_of h1 9 k
  have e0 : fR D H1 9 a 0 = fR D H 9 a 0 := congrArg vR (e1 0)
  have el : fI D H1 9 a 1 = fI D H 9 a 1 := congrArg vI (e1 1)
  unfold tT
  rw [e0, el]
  refine Prod.ext (funext fun i => ?_) rfl
  show nrm (eI H1 (fR D H 9 a 0) i).toInt = _
  rw [show eI H1 (fR D H 9 a 0) i = eI H (fR D H 9 a 0) i from congrArg vI (eV_of h2 i)]
theorem mT_of (h1 : H1[a]? = H[a]?) (h2 : H1[fR D H 11 a 8]? = H[fR D H 11 a 8]?) : mT D H1 a = mT D H a := by
  have e1 : ∀ k, fV D H1 11 a k = fV D H 11 a k := fun k => fV_of h1 11 k
  have e0 : fR D H1 11 a 8 = fR D H 11 a 8 := congrArg vR (e1 8)
  have el : fI D H1 11 a 11 = fI D H 11 a 11 := congrArg vI (e1 11)
  unfold mT
  rw [e0, el]
  refine Prod.ext (funext fun i => ?_) rfl
  show nrm (eI H1 (fR D H 11 a 8) i).toInt = _
  rw [show eI H1 (fR D H 11 a 8) i = eI H (fR D H 11 a 8) i from congrArg vI (eV_of h2 i)]
theorem tT_keep (hO : Ok D G H) (ga : G a = 2) (K : Keep D G E H H1) (h0 : (2, 0) ∉ E) (h1 : (2, 1) ∉ E) (h3 : (3, 0) ∉ E) : tT D H1 a = tT D H a := by
  have e0 : fR D H1 9 a 0 = fR D H 9 a 0 := K.fR ga rfl (by decide) h0
  have el : fI D H1 9 a 1 = fI D H 9 a 1 := K.fI ga rfl (by decide) h1
  have gb : G (fR D H 9 a 0) = 3 := hO.rol ga rfl (by decide) rfl
  unfold tT
  rw [e0, el]
  refine Prod.ext (funext fun i => ?_) rfl
  show nrm (eI H1 (fR D H 9 a 0) i).toInt = _
  rw [show eI H1 (fR D H 9 a 0) i = eI H (fR D H 9 a 0) i from congrArg vI (eV_of (K.c gb rfl h3) i)]
theorem mT_keep (hO : Ok D G H) (ga : G a = 30) (K : Keep D G E H H1) (h0 : (30, 8) ∉ E) (h1 : (30, 11) ∉ E) (h3 : (36, 0) ∉ E) : mT D H1 a = mT D H a := by
  have e0 : fR D H1 11 a 8 = fR D H 11 a 8 := K.fR ga rfl (by decide) h0
  have el : fI D H1 11 a 11 = fI D H 11 a 11 := K.fI ga rfl (by decide) h1
  have gb : G (fR D H 11 a 8) = 36 := hO.rol ga rfl (by decide) rfl
  unfold mT
  rw [e0, el]
  refine Prod.ext (funext fun i => ?_) rfl
  show nrm (eI H1 (fR D H 11 a 8) i).toInt = _
  rw [show eI H1 (fR D H 11 a 8) i = eI H (fR D H 11 a 8) i from congrArg vI (eV_of (K.c gb rfl h3) i)]
def noT (E : List (Nat × Nat)) : Bool := (List.range 7).all (fun k => decide ((2, k) ∉ E)) && decide ((3, 0) ∉ E)
theorem noT_k (h : noT E = true) : (∀ k, k < 7 → (2, k) ∉ E) ∧ (3, 0) ∉ E := by
  unfold noT at h
  rw [Bool.and_eq_true] at h
  exact ⟨fun k hk => of_decide_eq_true (List.all_eq_true.mp h.1 k (List.mem_range.mpr hk)), of_decide_eq_true h.2⟩
theorem TS.keep (h : TS D H a T b) (hO : Ok D G H) (ga : G a = 2) (K : Keep D G E H H1) (hE : noT E = true) : TS D H1 a T b := by
  have hk := (noT_k hE).1
  have f : ∀ k, k < 7 → fI D H1 9 a k = fI D H 9 a k := fun k hk9 => K.fI ga rfl hk9 (hk k hk9)
  obtain ⟨⟨h1, h2, h3⟩, h4, h5, h6, h7⟩ := h
  refine ⟨⟨(tT_keep hO ga K (hk 0 (by decide)) (hk 1 (by decide)) (noT_k hE).2).trans h1, ?_, ?_⟩, ?_, ?_, fun h => ?_, fun h => ?_⟩
  · rw [f 2 (by decide)]; exact h2
  · rw [f 5 (by decide)]; exact h3
  · rw [f 3 (by decide)]; exact h4
  · rw [f 4 (by decide)]; exact h5
  · rw [f 6 (by decide)]; exact h6 h
  · rw [f 6 (by decide)]; exact h7 h
theorem TS.cells (h : TS D H a T b) (hO : Ok D G H) (ga : G a = 2) {x q : Nat} (gx : G x = q) (h2 : q ≠ 2) (h3 : q ≠ 3) (hc : ∀ y : Nat, y ≠ x → H1[y]? = H[y]?) : TS D H1 a T b := by
  have gb : G (fR D H 9 a 0) = 3 := hO.rol ga rfl (by decide) rfl
  have c1 := hc a (ne_role ga gx (fun z => h2 z.symm))
  have c2 := hc _ (ne_role gb gx (fun z => h3 z.symm))
  have f : ∀ k, fI D H1 9 a k = fI D H 9 a k := fun k => congrArg vI (fV_of c1 9 k)
  obtain ⟨⟨g1, g2, g3⟩, h4, h5, h6, h7⟩ := h
  refine ⟨⟨(tT_of c1 c2).trans g1, ?_, ?_⟩, ?_, ?_, fun h => ?_, fun h => ?_⟩
  · rw [f 2]; exact g2
  · rw [f 5]; exact g3
  · rw [f 3]; exact h4
  · rw [f 4]; exact h5
  · rw [f 6]; exact h6 h
  · rw [f 6]; exact h7 h
def noM (E : List (Nat × Nat)) : Bool := decide ((30, 8) ∉ E) && decide ((30, 10) ∉ E) && decide ((30, 11) ∉ E) && decide ((36, 0) ∉ E)
theorem noM_k (h : noM E = true) : (30, 8) ∉ E ∧ (30, 10) ∉ E ∧ (30, 11) ∉ E ∧ (36, 0) ∉ E := by
  unfold noM at h
  rw [Bool.and_eq_true, Bool.and_eq_true, Bool.and_eq_true] at h
  exact ⟨of_decide_eq_true h.1.1.1, of_decide_eq_true h.1.1.2, of_decide_eq_true h.1.2, of_decide_eq_true h.2⟩
theorem RB.of (h : RB D H a T b) (h1 : mT D H1 a = mT D H a) (h2 : fI D H1 11 a 10 = fI D H 11 a 10) : RB D H1 a T b := ⟨h1.trans h.1, by rw [h2]; exact h.2⟩
theorem LB.of (h : LB D H a T b) (h1 : mT D H1 a = mT D H a) (h2 : fI D H1 11 a 10 = fI D H 11 a 10) (h3 : fI D H1 11 a 12 = fI D H 11 a 12) : LB D H1 a T b := ⟨h1.trans h.1, by rw [h2, h3]; exact h.2⟩
theorem RB.keep (h : RB D H a T b) (hO : Ok D G H) (ga : G a = 30) (K : Keep D G E H H1) (hE : noM E = true) : RB D H1 a T b := by
  obtain ⟨k1, k2, k3, k4⟩ := noM_k hE
  exact h.of (mT_keep hO ga K k1 k3 k4) (K.fI ga rfl (by decide) k2)
theorem LB.keep (h : LB D H a T b) (hO : Ok D G H) (ga : G a = 30) (K : Keep D G E H H1) (hE : noM E = true) (h12 : (30, 12) ∉ E) : LB D H1 a T b := by
  obtain ⟨k1, k2, k3, k4⟩ := noM_k hE
  exact h.of (mT_keep hO ga K k1 k3 k4) (K.fI ga rfl (by decide) k2) (K.fI ga rfl (by decide) h12)
theorem mT_put (hO : Ok D G H) (ga : G a = 30) {k : Nat} {v : Value} (P : Pt D H H1 11 18 a k v) (h1 : k ≠ 8) (h3 : k ≠ 11) : mT D H1 a = mT D H a := by
  have gb : G (fR D H 11 a 8) = 36 := hO.rol ga rfl (by decide) rfl
  have c2 := P.2.2.1 _ (ne_role gb ga (by decide))
  have e0 : fR D H1 11 a 8 = fR D H 11 a 8 := Pt.or P (by decide) (fun z => h1 z.symm)
  have el : fI D H1 11 a 11 = fI D H 11 a 11 := Pt.o P (by decide) (fun z => h3 z.symm)
  unfold mT
  rw [e0, el]
  refine Prod.ext (funext fun i => ?_) rfl
  show nrm (eI H1 (fR D H 11 a 8) i).toInt = _
  rw [show eI H1 (fR D H 11 a 8) i = eI H (fR D H 11 a 8) i from congrArg vI (eV_of c2 i)]
theorem RB.put (h : RB D H a T b) (hO : Ok D G H) (ga : G a = 30) {k : Nat} {v : Value} (P : Pt D H H1 11 18 a k v) (h1 : k ≠ 8) (h2 : k ≠ 10) (h3 : k ≠ 11) : RB D H1 a T b := h.of (mT_put hO ga P h1 h3) (Pt.o P (by decide) (fun z => h2 z.symm))
theorem LB.put (h : LB D H a T b) (hO : Ok D G H) (ga : G a = 30) {k : Nat} {v : Value} (P : Pt D H H1 11 18 a k v) (h1 : k ≠ 8) (h2 : k ≠ 10) (h3 : k ≠ 11) (h4 : k ≠ 12) : LB D H1 a T b := h.of (mT_put hO ga P h1 h3) (Pt.o P (by decide) (fun z => h2 z.symm)) (Pt.o P (by decide) (fun z => h4 z.symm))
theorem RB.cells (h : RB D H a T b) (hO : Ok D G H) (ga : G a = 30) {x q : Nat} (gx : G x = q) (h2 : q ≠ 30) (h3 : q ≠ 36) (hc : ∀ y : Nat, y ≠ x → H1[y]? = H[y]?) : RB D H1 a T b := by
  have gb : G (fR D H 11 a 8) = 36 := hO.rol ga rfl (by decide) rfl
  have c1 := hc a (ne_role ga gx (fun z => h2 z.symm))
  have c2 := hc _ (ne_role gb gx (fun z => h3 z.symm))
  exact h.of (mT_of c1 c2) (congrArg vI (fV_of c1 11 10))
theorem LB.cells (h : LB D H a T b) (hO : Ok D G H) (ga : G a = 30) {x q : Nat} (gx : G x = q) (h2 : q ≠ 30) (h3 : q ≠ 36) (hc : ∀ y : Nat, y ≠ x → H1[y]? = H[y]?) : LB D H1 a T b := by
  have gb : G (fR D H 11 a 8) = 36 := hO.rol ga rfl (by decide) rfl
  have c1 := hc a (ne_role ga gx (fun z => h2 z.symm))
  have c2 := hc _ (ne_role gb gx (fun z => h3 z.symm))
  exact h.of (mT_of c1 c2) (congrArg vI (fV_of c1 11 10)) (congrArg vI (fV_of c1 11 12))
theorem LB.rb1 (h : LB D H a T b) (hk : kd T b = 1) : RB D H a T (nx T b) := by
  refine ⟨h.1, h.2.1.2, ?_⟩
  rw [h.2.2.2.1 hk]
  rfl
theorem LB.rb0 (h : LB D H a T b) (hk : kd T b ≠ 1) : RB D H a T b := by
  refine ⟨h.1, h.2.1.2, ?_⟩
  rw [h.2.2.2.2 hk]
  exact h.2.1.1
theorem LB.bd (h : LB D H a T b) : b ≤ T.2 := by
  by_cases hk : kd T b = 1
  · have h1 := h.2.2.2.1 hk
    have h2 := h.2.1.2
    have h3 := af_lt (T := T) (b := b) (by omega)
    omega
  · have h1 := h.2.2.2.2 hk
    have h2 := h.2.1.2
    omega
theorem RB.bd (h : RB D H a T b) : b ≤ T.2 := by rw [← h.2.2]; exact sk_le h.2.1
end TSt
