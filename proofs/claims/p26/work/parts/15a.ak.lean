theorem i_neg {a : Int32} (h : -2147483648 < a.toInt) : (-a).toInt = -a.toInt := by
  have h2 := i_rng a
  rw [Int32.toInt_neg]
  exact i_bm (by omega) (by omega)

theorem aq_3 (n : Nat) (f : Nat → Int32) : aok 3 n f ↔ n = 400 := Iff.rfl
theorem ak_3 {n : Nat} {f g : Nat → Int32} (h : aok 3 n f) : aok 3 n g := (aq_3 n g).mpr ((aq_3 n f).mp h)
theorem aq_11 (n : Nat) (f : Nat → Int32) : aok 11 n f ↔ n = 60 := Iff.rfl
theorem ak_11 {n : Nat} {f g : Nat → Int32} (h : aok 11 n f) : aok 11 n g := (aq_11 n g).mpr ((aq_11 n f).mp h)
theorem aq_14 (n : Nat) (f : Nat → Int32) : aok 14 n f ↔ n = 32 := Iff.rfl
theorem ak_14 {n : Nat} {f g : Nat → Int32} (h : aok 14 n f) : aok 14 n g := (aq_14 n g).mpr ((aq_14 n f).mp h)
theorem aq_15 (n : Nat) (f : Nat → Int32) : aok 15 n f ↔ n = 13 := Iff.rfl
theorem ak_15 {n : Nat} {f g : Nat → Int32} (h : aok 15 n f) : aok 15 n g := (aq_15 n g).mpr ((aq_15 n f).mp h)
theorem aq_19 (n : Nat) (f : Nat → Int32) : aok 19 n f ↔ n = 84 := Iff.rfl
theorem ak_19 {n : Nat} {f g : Nat → Int32} (h : aok 19 n f) : aok 19 n g := (aq_19 n g).mpr ((aq_19 n f).mp h)
theorem aq_22 (n : Nat) (f : Nat → Int32) : aok 22 n f ↔ n = 400 := Iff.rfl
theorem ak_22 {n : Nat} {f g : Nat → Int32} (h : aok 22 n f) : aok 22 n g := (aq_22 n g).mpr ((aq_22 n f).mp h)
theorem aq_36 (n : Nat) (f : Nat → Int32) : aok 36 n f ↔ n = 400 := Iff.rfl
theorem ak_36 {n : Nat} {f g : Nat → Int32} (h : aok 36 n f) : aok 36 n g := (aq_36 n g).mpr ((aq_36 n f).mp h)
theorem aq_37 (n : Nat) (f : Nat → Int32) : aok 37 n f ↔ n = 5 := Iff.rfl
theorem ak_37 {n : Nat} {f g : Nat → Int32} (h : aok 37 n f) : aok 37 n g := (aq_37 n g).mpr ((aq_37 n f).mp h)
theorem aq_40 (n : Nat) (f : Nat → Int32) : aok 40 n f ↔ n = 4 := Iff.rfl
theorem ak_40 {n : Nat} {f g : Nat → Int32} (h : aok 40 n f) : aok 40 n g := (aq_40 n g).mpr ((aq_40 n f).mp h)
