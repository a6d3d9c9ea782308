/-! bytes of a number, the highest first, as class and reference write them -/
def fb (x : Int32) (k : Nat) : Int := (((x.toBitVec.toNat / 2 ^ (24 - 8 * k)) % 256 : Nat) : Int)
theorem fb_r (x : Int32) (k : Nat) : 0 ≤ fb x k ∧ fb x k ≤ 255 := by
  unfold fb
  omega
theorem and255 (u : Int32) : (u &&& 255).toInt = ((u.toBitVec.toNat % 256 : Nat) : Int) := by
  have h : (u &&& 255).toBitVec.toNat = u.toBitVec.toNat % 256 := by
    show (u.toBitVec &&& (255 : Int32).toBitVec).toNat = _
    rw [BitVec.toNat_and, show (255 : Int32).toBitVec.toNat = 2 ^ 8 - 1 by decide]
    exact Nat.and_two_pow_sub_one_eq_mod _ 8
  show (u &&& 255).toBitVec.toInt = _
  rw [BitVec.toInt_eq_toNat_of_lt (by omega), h]
theorem by_c {x y : Int32} {k n : Nat} (hy : ((y.toUInt32 &&& Int32.toUInt32 31).toBitVec % 32).toNat = n) (hk : n = 24 - 8 * k) : ((x.toUInt32 >>> (y.toUInt32 &&& Int32.toUInt32 31)).toInt32 &&& 255).toInt = fb x k := by
  rw [and255, pk_ushr x y n hy, hk]
  rfl
theorem sh4 {y : Int32} (h : y.toInt = 24 ∨ y.toInt = 16 ∨ y.toInt = 8 ∨ y.toInt = 0) : y = 24 ∨ y = 16 ∨ y = 8 ∨ y = 0 := by
  rcases h with h | h | h | h
  · exact Or.inl (i_eq.mpr (by rw [h]; decide))
  · exact Or.inr (Or.inl (i_eq.mpr (by rw [h]; decide)))
  · exact Or.inr (Or.inr (Or.inl (i_eq.mpr (by rw [h]; decide))))
  · exact Or.inr (Or.inr (Or.inr (i_eq.mpr (by rw [h]; decide))))
theorem by_put {x y : Int32} {k : Nat} (hy : y.toInt = 24 - 8 * (k : Int)) (hk : k ≤ 3) : ((x.toUInt32 >>> (y.toUInt32 &&& Int32.toUInt32 31)).toInt32 &&& 255).toInt = fb x k := by
  rcases sh4 (y := y) (by omega) with e | e | e | e
  · subst e; exact by_c (n := 24) (by decide) (by have : (24 : Int32).toInt = 24 := by decide
                                                  omega)
  · subst e; exact by_c (n := 16) (by decide) (by have : (16 : Int32).toInt = 16 := by decide
                                                  omega)
  · subst e; exact by_c (n := 8) (by decide) (by have : (8 : Int32).toInt = 8 := by decide
                                                 omega)
  · subst e; exact by_c (n := 0) (by decide) (by have : (0 : Int32).toInt = 0 := by decide
                                                 omega)
theorem i2b_i (x : Int32) : x.toInt8.toInt32.toInt = x.toInt.bmod 256 := by
  rw [Int8.toInt_toInt32, Int32.toInt_toInt8]
theorem i_toNat (x : Int32) : x.toInt = (x.toBitVec.toNat : Int) ∨ x.toInt = (x.toBitVec.toNat : Int) - 4294967296 := by
  have h : x.toInt = x.toBitVec.toInt := rfl
  rw [h, BitVec.toInt_eq_toNat_cond]
  split
  · exact Or.inl rfl
  · exact Or.inr rfl
theorem bmod_n {a r : Int} (h : ∃ q : Int, a = 256 * q + r) (h0 : 0 ≤ r ∧ r ≤ 255) : nrm (a.bmod 256) = nrm r := by
  obtain ⟨q, rfl⟩ := h
  have h1 := Int.emod_emod_of_dvd (256 * q + r) (m := 256) (k := 256) (by decide)
  have h2 : (256 * q + r) % 256 = r := by omega
  have e : (256 * q + r).bmod 256 = if r < 128 then r else r - 256 := by
    unfold Int.bmod
    rw [show ((256 : Nat) : Int) = 256 from rfl, h2]
    rfl
  rw [e]
  by_cases c : r < 128
  · rw [if_pos c]
  · rw [if_neg c]
    unfold nrm
    rw [if_neg (by omega), if_neg (by omega)]
theorem by_m {x y : Int32} {k n : Nat} (hy : ((y &&& 31).toBitVec.smod 32).toNat = n) (hk : n = 24 - 8 * k) (h3 : k ≤ 3) : nrm (x >>> (y &&& 31)).toInt8.toInt32.toInt = nrm (fb x k) := by
  rw [i2b_i, pk_shr x (y &&& 31) n hy]
  refine bmod_n ?_ (fb_r x k)
  unfold fb
  rw [Int.shiftRight_eq_div_pow]
  have hx := i_toNat x
  have hb : x.toBitVec.toNat < 4294967296 := x.toBitVec.isLt
  have h4 : k = 0 ∨ k = 1 ∨ k = 2 ∨ k = 3 := by omega
  rcases h4 with e | e | e | e
  · subst e; subst hk
    refine ⟨(x.toInt / 2 ^ 24 - ((x.toBitVec.toNat / 2 ^ 24 % 256 : Nat) : Int)) / 256, ?_⟩
    show x.toInt / ((2 ^ 24 : Nat) : Int) = 256 * ((x.toInt / 16777216 - ((x.toBitVec.toNat / 16777216 % 256 : Nat) : Int)) / 256) + ((x.toBitVec.toNat / 16777216 % 256 : Nat) : Int)
    show x.toInt / 16777216 = _
    omega
  · subst e; subst hk
    refine ⟨(x.toInt / 2 ^ 16 - ((x.toBitVec.toNat / 2 ^ 16 % 256 : Nat) : Int)) / 256, ?_⟩
    show x.toInt / 65536 = 256 * ((x.toInt / 65536 - ((x.toBitVec.toNat / 65536 % 256 : Nat) : Int)) / 256) + ((x.toBitVec.toNat / 65536 % 256 : Nat) : Int)
    omega
  · subst e; subst hk
    refine ⟨(x.toInt / 2 ^ 8 - ((x.toBitVec.toNat / 2 ^ 8 % 256 : Nat) : Int)) / 256, ?_⟩
    show x.toInt / 256 = 256 * ((x.toInt / 256 - ((x.toBitVec.toNat / 256 % 256 : Nat) : Int)) / 256) + ((x.toBitVec.toNat / 256 % 256 : Nat) : Int)
    omega
  · subst e; subst hk
    refine ⟨(x.toInt - ((x.toBitVec.toNat % 256 : Nat) : Int)) / 256, ?_⟩
    show x.toInt / 1 = 256 * ((x.toInt - ((x.toBitVec.toNat % 256 : Nat) : Int)) / 256) + ((x.toBitVec.toNat / 1 % 256 : Nat) : Int)
    omega
theorem by_mod {x y : Int32} {k : Nat} (hy : y.toInt = 24 - 8 * (k : Int)) (hk : k ≤ 3) : nrm (x >>> (y &&& 31)).toInt8.toInt32.toInt = nrm (fb x k) := by
  rcases sh4 (y := y) (by omega) with e | e | e | e
  · subst e; exact by_m (n := 24) (by decide) (by have : (24 : Int32).toInt = 24 := by decide
                                                  omega) hk
  · subst e; exact by_m (n := 16) (by decide) (by have : (16 : Int32).toInt = 16 := by decide
                                                  omega) hk
  · subst e; exact by_m (n := 8) (by decide) (by have : (8 : Int32).toInt = 8 := by decide
                                                 omega) hk
  · subst e; exact by_m (n := 0) (by decide) (by have : (0 : Int32).toInt = 0 := by decide
                                                 omega) hk
def pk5 (x1 x2 x3 x4 x5 : Int32) (m : Nat) : Int32 := match m with | 0 => x1 | 1 => x2 | 2 => x3 | 3 => x4 | _ => x5
theorem feed5 {x1 x2 x3 x4 x5 : Int32} {B0 B1 B2 B3 B4 B5 : Nat → Int} {L : Nat}
    (h1 : ∀ i, B1 i = if L ≤ i ∧ i < L + 4 then fb x1 (i - L) else B0 i) (h2 : ∀ i, B2 i = if L + 4 ≤ i ∧ i < L + 4 + 4 then fb x2 (i - (L + 4)) else B1 i) (h3 : ∀ i, B3 i = if L + 8 ≤ i ∧ i < L + 8 + 4 then fb x3 (i - (L + 8)) else B2 i)
    (h4 : ∀ i, B4 i = if L + 12 ≤ i ∧ i < L + 12 + 4 then fb x4 (i - (L + 12)) else B3 i) (h5 : ∀ i, B5 i = if L + 16 ≤ i ∧ i < L + 16 + 4 then fb x5 (i - (L + 16)) else B4 i) :
    ∀ i, B5 i = if L ≤ i ∧ i < L + 20 then fb (pk5 x1 x2 x3 x4 x5 ((i - L) / 4)) ((i - L) % 4) else B0 i := by
  intro i
  by_cases c : L ≤ i ∧ i < L + 20
  · rw [if_pos c]
    have hm : (i - L) / 4 = 0 ∨ (i - L) / 4 = 1 ∨ (i - L) / 4 = 2 ∨ (i - L) / 4 = 3 ∨ (i - L) / 4 = 4 := by omega
    rcases hm with e | e | e | e | e
    · rw [e, h5, if_neg (by omega), h4, if_neg (by omega), h3, if_neg (by omega), h2, if_neg (by omega), h1, if_pos (by omega), show (i - L) % 4 = i - L by omega]; rfl
    · rw [e, h5, if_neg (by omega), h4, if_neg (by omega), h3, if_neg (by omega), h2, if_pos (by omega), show (i - L) % 4 = i - (L + 4) by omega]; rfl
    · rw [e, h5, if_neg (by omega), h4, if_neg (by omega), h3, if_pos (by omega), show (i - L) % 4 = i - (L + 8) by omega]; rfl
    · rw [e, h5, if_neg (by omega), h4, if_pos (by omega), show (i - L) % 4 = i - (L + 12) by omega]; rfl
    · rw [e, h5, if_pos (by omega), show (i - L) % 4 = i - (L + 16) by omega]; rfl
  · rw [if_neg c, h5, if_neg (by omega), h4, if_neg (by omega), h3, if_neg (by omega), h2, if_neg (by omega), h1, if_neg (by omega)]
theorem eI_ge {H : Heap} {a i : Nat} (h : aN H a ≤ i) : eI H a i = 0 := by
  unfold aN at h
  unfold eI eV
  cases hc : H[a]? with
  | none => rfl
  | some c9 =>
    rw [hc] at h
    show vI ((c9.slots[i]?).getD .null) = 0
    rw [Array.getElem?_eq_none_iff.mpr h]
    rfl
theorem Pa.all {H H' : Heap} {a i : Nat} {x : Int32} (h : Pa H H' a i x) (hi : i < aN H a) (j : Nat) : eI H' a j = if j = i then x else eI H a j := by
  by_cases c : j < aN H a
  · exact h.1 j c
  · rw [if_neg (by omega), eI_ge (by rw [h.2.1]; omega), eI_ge (by omega)]
theorem put_st {B0 B1 B2 : Nat → Int} {L k : Nat} {x : Int32} {v : Int} (u : ∀ i, B1 i = if L ≤ i ∧ i < L + k then fb x (i - L) else B0 i) (hq : ∀ i, B2 i = if i = L + k then v else B1 i) (hv : v = fb x k) : ∀ i, B2 i = if L ≤ i ∧ i < L + (k + 1) then fb x (i - L) else B0 i := by
  intro i
  rw [hq i]
  by_cases c : i = L + k
  · rw [if_pos c, if_pos (by omega), hv, show i - L = k by omega]
  · rw [if_neg c, u i]
    by_cases c8 : L ≤ i ∧ i < L + k
    · rw [if_pos c8, if_pos (by omega)]
    · rw [if_neg c8, if_neg (by omega)]
theorem putm_st {B0 B1 B2 : Nat → Int} {L k : Nat} {f : Nat → Int} {v : Int} (u : ∀ i, B1 i = if L ≤ i ∧ i < L + k then f (i - L) else B0 i) (hq : ∀ i, B2 i = if i = L + k then v else B1 i) (hv : v = f k) : ∀ i, B2 i = if L ≤ i ∧ i < L + (k + 1) then f (i - L) else B0 i := by
  intro i
  rw [hq i]
  by_cases c : i = L + k
  · rw [if_pos c, if_pos (by omega), hv, show i - L = k by omega]
  · rw [if_neg c, u i]
    by_cases c8 : L ≤ i ∧ i < L + k
    · rw [if_pos c8, if_pos (by omega)]
    · rw [if_neg c8, if_neg (by omega)]
theorem five5 {x1 x2 x3 x4 x5 : Int32} {F0 F1 F2 F3 F4 F5 : Nat → Int32} (h1 : ∀ j, F1 j = if j = 0 then x1 else F0 j) (h2 : ∀ j, F2 j = if j = 1 then x2 else F1 j) (h3 : ∀ j, F3 j = if j = 2 then x3 else F2 j) (h4 : ∀ j, F4 j = if j = 3 then x4 else F3 j) (h5 : ∀ j, F5 j = if j = 4 then x5 else F4 j) : ∀ m, m < 5 → F5 m = pk5 x1 x2 x3 x4 x5 m := by
  intro m hm
  have hc : m = 0 ∨ m = 1 ∨ m = 2 ∨ m = 3 ∨ m = 4 := by omega
  rcases hc with e | e | e | e | e <;> subst e
  · rw [h5, if_neg (by decide), h4, if_neg (by decide), h3, if_neg (by decide), h2, if_neg (by decide), h1, if_pos rfl]; rfl
  · rw [h5, if_neg (by decide), h4, if_neg (by decide), h3, if_neg (by decide), h2, if_pos rfl]; rfl
  · rw [h5, if_neg (by decide), h4, if_neg (by decide), h3, if_pos rfl]; rfl
  · rw [h5, if_neg (by decide), h4, if_pos rfl]; rfl
  · rw [h5, if_pos rfl]; rfl
theorem nar_n {v w : Int32} (h : v = w.toInt8.toInt32) : nrm (vp_nar .byte v).toInt = nrm v.toInt := by
  have e : vp_nar .byte v = v.toInt8.toInt32 := rfl
  rw [e, i2b_i, h, i2b_i, Int.bmod_bmod]
