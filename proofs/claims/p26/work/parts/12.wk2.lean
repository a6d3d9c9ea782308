abbrev WAt (i : Nat) (x : Int32) : Prop := (i = 0 → 0 ≤ x.toInt ∧ x.toInt ≤ 6) ∧ (i = 1 → 0 ≤ x.toInt ∧ x.toInt ≤ 12) ∧ (i = 10 → 0 ≤ x.toInt ∧ x.toInt ≤ 60) ∧ ∀ j, j < 12 → i = 42 + 6 * j → 0 ≤ x.toInt ∧ x.toInt ≤ 5
theorem wa_35e {D : DD} {G : Nat → Nat} {H : Heap} {a : Nat} (hO : Ok D G H) (ha : G a = 35) (b : Nat) {k i : Nat} (hb : b < 12) (hk : k < 354) (hi : i = 354 * b + k) : WAt k (eI H a i) := by
  subst hi
  exact wa_35 hO ha b k hb hk
theorem Pt.i {D : DD} {H H' : Heap} {ci N a k : Nat} {v : Int32} (h : Pt D H H' ci N a k (.int v)) : fI D H' ci a k = v := by
  unfold fI
  rw [h.1]
  rfl
theorem Pt.o {D : DD} {H H' : Heap} {ci N a k j : Nat} {v : Value} (h : Pt D H H' ci N a k v) (hj : j < N) (hjk : j ≠ k) : fI D H' ci a j = fI D H ci a j := by
  unfold fI
  rw [h.2.1 j hj hjk]
theorem Pt.f {D : DD} {H H' : Heap} {ci N a k : Nat} {v : Value} (h : Pt D H H' ci N a k v) {ci' q j : Nat} (hq : q ≠ a) : fI D H' ci' q j = fI D H ci' q j := by
  unfold fI
  rw [fV_of (h.2.2.1 q hq)]
theorem Pt.r {D : DD} {H H' : Heap} {ci N a k : Nat} {v : Value} (h : Pt D H H' ci N a k v) {ci' q j : Nat} (hq : q ≠ a) : fR D H' ci' q j = fR D H ci' q j := by
  unfold fR
  rw [fV_of (h.2.2.1 q hq)]
theorem Pt.or {D : DD} {H H' : Heap} {ci N a k j : Nat} {v : Value} (h : Pt D H H' ci N a k v) (hj : j < N) (hjk : j ≠ k) : fR D H' ci a j = fR D H ci a j := by
  unfold fR
  rw [h.2.1 j hj hjk]
theorem Pt.e {D : DD} {H H' : Heap} {ci N a k : Nat} {v : Value} (h : Pt D H H' ci N a k v) {q j : Nat} (hq : q ≠ a) : eI H' q j = eI H q j := by
  unfold eI
  rw [eV_of (h.2.2.1 q hq)]
theorem Pa.f {D : DD} {H H' : Heap} {a i : Nat} {x : Int32} (h : Pa H H' a i x) {ci q j : Nat} (hq : q ≠ a) : fI D H' ci q j = fI D H ci q j := by
  unfold fI
  rw [fV_of (h.2.2.1 q hq)]
theorem Pa.r {D : DD} {H H' : Heap} {a i : Nat} {x : Int32} (h : Pa H H' a i x) {ci q j : Nat} (hq : q ≠ a) : fR D H' ci q j = fR D H ci q j := by
  unfold fR
  rw [fV_of (h.2.2.1 q hq)]
theorem Pa.e {H H' : Heap} {a i : Nat} {x : Int32} (h : Pa H H' a i x) {q j : Nat} (hq : q ≠ a) : eI H' q j = eI H q j := by
  unfold eI
  rw [eV_of (h.2.2.1 q hq)]
theorem Pa.n {H H' : Heap} {a i : Nat} {x : Int32} (h : Pa H H' a i x) {q : Nat} (hq : q ≠ a) : aN H' q = aN H q := by
  unfold aN
  rw [h.2.2.1 q hq]
theorem ne_role {G : Nat → Nat} {a b r q : Nat} (h1 : G a = r) (h2 : G b = q) (h : r ≠ q) : a ≠ b := fun e => h (by rw [← h1, ← h2, e])
