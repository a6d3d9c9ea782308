theorem i_addc {a b : Int32} {k : Int} (hb : b.toInt = k) (h1 : -2147483648 ≤ a.toInt + k) (h2 : a.toInt + k ≤ 2147483647) : (a + b).toInt = a.toInt + k := by
  rw [← hb] at h1 h2 ⊢
  exact i_add h1 h2
theorem i_mulc {a b : Int32} {k : Int} (hb : b.toInt = k) (h1 : -2147483648 ≤ a.toInt * k) (h2 : a.toInt * k ≤ 2147483647) : (a * b).toInt = a.toInt * k := by
  rw [← hb] at h1 h2 ⊢
  exact i_mul h1 h2
theorem i_cmul {a b : Int32} {k : Int} (hb : a.toInt = k) (h1 : -2147483648 ≤ k * b.toInt) (h2 : k * b.toInt ≤ 2147483647) : (a * b).toInt = k * b.toInt := by
  rw [← hb] at h1 h2 ⊢
  exact i_mul h1 h2
theorem i_divc {a b : Int32} {k : Int} (hb : b.toInt = k) (ha : 0 ≤ a.toInt) (hk : 0 < k) : (a / b).toInt = a.toInt / k := by
  have h := i_rng a
  rw [Int32.toInt_div, hb, Int.tdiv_eq_ediv_of_nonneg ha]
  refine i_bm ?_ ?_
  · exact Int.le_trans (by omega) (Int.ediv_nonneg ha (by omega))
  · exact Int.le_trans (Int.ediv_le_self _ ha) h.2
theorem i_remc {a b : Int32} {k : Int} (hb : b.toInt = k) (ha : 0 ≤ a.toInt) (hk : 0 < k) : (a - a / b * b).toInt = a.toInt % k := by
  rw [i_rem ha (by omega), hb]
theorem i_remd {a b : Int32} {k : Int} (hb : b.toInt = k) (hk : 0 < k) : -k < (a - a / b * b).toInt ∧ (a - a / b * b).toInt < k := by
  have := i_remb (a := a) (b := b) (by omega)
  rw [hb] at this
  exact this
theorem i_nn {a : Int32} (h : 0 ≤ a.toInt) : ∃ n : Nat, n < 2147483648 ∧ a = nI n ∧ a.toInt = n := by
  have h2 := i_rng a
  refine ⟨a.toInt.toNat, by omega, ?_, by omega⟩
  rw [i_eq, nI_toInt (by omega)]
  omega
theorem nI_or (a b : Nat) : nI a ||| nI b = nI (a ||| b) := by
  unfold nI
  apply Int32.toBitVec_inj.mp
  apply BitVec.eq_of_toNat_eq
  simp [Int32.toBitVec_ofNat, BitVec.toNat_or, BitVec.toNat_ofNat, Nat.or_mod_two_pow]
theorem nI_and (a b : Nat) : nI a &&& nI b = nI (a &&& b) := by
  unfold nI
  apply Int32.toBitVec_inj.mp
  apply BitVec.eq_of_toNat_eq
  simp [Int32.toBitVec_ofNat, BitVec.toNat_and, BitVec.toNat_ofNat, Nat.and_mod_two_pow]
theorem i_or {a b : Int32} (k : Nat) (h1 : 0 ≤ a.toInt) (h2 : a.toInt < (2 ^ k : Nat)) (h3 : 0 ≤ b.toInt) (h4 : b.toInt < (2 ^ k : Nat)) : 0 ≤ (a ||| b).toInt ∧ (a ||| b).toInt < (2 ^ k : Nat) := by
  obtain ⟨n, hn, rfl, en⟩ := i_nn h1
  obtain ⟨j, hj, rfl, ej⟩ := i_nn h3
  have h5 : n ||| j < 2 ^ k := Nat.or_lt_two_pow (by omega) (by omega)
  have h6 : n ||| j < 2 ^ 31 := Nat.or_lt_two_pow (by omega) (by omega)
  rw [nI_or, nI_toInt h6]
  omega
theorem i_and {a b : Int32} (h : 0 ≤ b.toInt) : 0 ≤ (a &&& b).toInt ∧ (a &&& b).toInt ≤ b.toInt := by
  obtain ⟨n, hn, rfl, en⟩ := i_nn h
  obtain ⟨j, rfl⟩ : ∃ j : Nat, a = nI j := ⟨a.toBitVec.toNat, by
    apply Int32.toBitVec_inj.mp
    simp [nI, Int32.toBitVec_ofNat]⟩
  have h5 : j &&& n ≤ n := Nat.and_le_right
  rw [nI_and, nI_toInt (by omega), nI_toInt (by omega)]
  omega
theorem i_andl {a b : Int32} (h : 0 ≤ a.toInt) : 0 ≤ (a &&& b).toInt ∧ (a &&& b).toInt ≤ a.toInt := by
  rw [Int32.and_comm]
  exact i_and h
theorem i_shl1_all : ∀ n : Fin 31, ((1 : Int32) <<< (nI n.val &&& 31)).toInt = (2 ^ n.val : Nat) := by decide +kernel
theorem i_shl1 {y : Int32} (k : Nat) (h1 : 0 ≤ y.toInt) (h2 : y.toInt ≤ k) (hk : k ≤ 30) : 1 ≤ ((1 : Int32) <<< (y &&& 31)).toInt ∧ ((1 : Int32) <<< (y &&& 31)).toInt ≤ (2 ^ k : Nat) := by
  obtain ⟨n, hn, rfl, en⟩ := i_nn h1
  have h : ((1 : Int32) <<< (nI n &&& 31)).toInt = ((2 ^ n : Nat) : Int) := i_shl1_all ⟨n, by omega⟩
  have h3 : 2 ^ n ≤ 2 ^ k := Nat.pow_le_pow_right (by omega) (by omega)
  have h4 : 1 ≤ 2 ^ n := Nat.one_le_two_pow
  rw [h]
  omega
theorem z01 {v : Int32} (h1 : 0 ≤ v.toInt) (h2 : v.toInt ≤ 1) : v = 0 ∨ v = 1 := by
  rcases (by omega : v.toInt = 0 ∨ v.toInt = 1) with h | h
  · exact Or.inl (i_eq.mpr h)
  · exact Or.inr (i_eq.mpr h)
theorem nar_z {v : Int32} (h1 : 0 ≤ v.toInt) (h2 : v.toInt ≤ 1) : narrow .boolean (.int v) = .int v := by
  rcases z01 h1 h2 with rfl | rfl <;> rfl
theorem fit_z {v : Int32} (h1 : 0 ≤ v.toInt) (h2 : v.toInt ≤ 1) : fits .boolean (.int v) = true := by
  rcases z01 h1 h2 with rfl | rfl <;> rfl
section Lens
variable {D : DD} {G : Nat → Nat} {H : Heap} {a : Nat}
theorem len_3 (hO : Ok D G H) (ha : G a = 3) : aN H a = 400 := by obtain ⟨f, -, -, h, -⟩ := hO.ia ha rfl; exact h
theorem len_11 (hO : Ok D G H) (ha : G a = 11) : aN H a = 60 := by obtain ⟨f, -, -, h, -⟩ := hO.ia ha rfl; exact h
theorem len_14 (hO : Ok D G H) (ha : G a = 14) : aN H a = 32 := by obtain ⟨f, -, -, h, -⟩ := hO.ia ha rfl; exact h
theorem len_15 (hO : Ok D G H) (ha : G a = 15) : aN H a = 13 := by obtain ⟨f, -, -, h, -⟩ := hO.ia ha rfl; exact h
theorem len_19 (hO : Ok D G H) (ha : G a = 19) : aN H a = 84 := by obtain ⟨f, -, -, h, -⟩ := hO.ia ha rfl; exact h
theorem len_22 (hO : Ok D G H) (ha : G a = 22) : aN H a = 400 := by obtain ⟨f, -, -, h, -⟩ := hO.ia ha rfl; exact h
theorem len_31 (hO : Ok D G H) (ha : G a = 31) : aN H a = 2052 := by obtain ⟨f, -, -, h, -⟩ := hO.ia ha rfl; exact h.1
theorem len_32 (hO : Ok D G H) (ha : G a = 32) : aN H a = 1203 := by obtain ⟨f, -, -, h, -⟩ := hO.ia ha rfl; exact h.1
theorem len_33 (hO : Ok D G H) (ha : G a = 33) : aN H a = 1203 := by obtain ⟨f, -, -, h, -⟩ := hO.ia ha rfl; exact h.1
theorem len_34 (hO : Ok D G H) (ha : G a = 34) : aN H a = 354 := by obtain ⟨f, -, -, h, -⟩ := hO.ia ha rfl; exact h.1
theorem len_35 (hO : Ok D G H) (ha : G a = 35) : aN H a = 4248 := by obtain ⟨f, -, -, h, -⟩ := hO.ia ha rfl; exact h.1
theorem len_36 (hO : Ok D G H) (ha : G a = 36) : aN H a = 400 := by obtain ⟨f, -, -, h, -⟩ := hO.ia ha rfl; exact h
theorem len_37 (hO : Ok D G H) (ha : G a = 37) : aN H a = 5 := by obtain ⟨f, -, -, h, -⟩ := hO.ia ha rfl; exact h
theorem len_38 (hO : Ok D G H) (ha : G a = 38) : aN H a = 400 := by obtain ⟨f, -, -, h, -⟩ := hO.ia ha rfl; exact h
theorem len_40 (hO : Ok D G H) (ha : G a = 40) : aN H a = 4 := by obtain ⟨f, -, -, h, -⟩ := hO.ia ha rfl; exact h
/-- what the reference's world says of a place -/
theorem wl_0 (hO : Ok D G H) (ha : G a = 31) : 0 ≤ (eI H a 0).toInt ∧ (eI H a 0).toInt ≤ 6 := by
  obtain ⟨f, -, -, h, h4⟩ := hO.ia ha rfl
  rw [h4 0 (by rw [h.1]; omega)]; exact h.2.1.1
theorem wl_1 (hO : Ok D G H) (ha : G a = 31) : 0 ≤ (eI H a 1).toInt ∧ (eI H a 1).toInt ≤ 12 := by
  obtain ⟨f, -, -, h, h4⟩ := hO.ia ha rfl
  rw [h4 1 (by rw [h.1]; omega)]; exact h.2.1.2.1
theorem wl_10 (hO : Ok D G H) (ha : G a = 31) : 0 ≤ (eI H a 10).toInt ∧ (eI H a 10).toInt ≤ 60 := by
  obtain ⟨f, -, -, h, h4⟩ := hO.ia ha rfl
  rw [h4 10 (by rw [h.1]; omega)]; exact h.2.1.2.2.1
theorem wl_of (hO : Ok D G H) (ha : G a = 31) {i : Nat} (j : Nat) (hj : j < 12) (hi : i = 42 + 6 * j) : 0 ≤ (eI H a i).toInt ∧ (eI H a i).toInt ≤ 5 := by
  obtain ⟨f, -, -, h, h4⟩ := hO.ia ha rfl
  subst hi
  rw [h4 _ (by rw [h.1]; omega)]; exact h.2.1.2.2.2 j hj
theorem wl_354 (hO : Ok D G H) (ha : G a = 31) : 0 ≤ (eI H a 354).toInt ∧ (eI H a 354).toInt ≤ 12 := by
  obtain ⟨f, -, -, h, h4⟩ := hO.ia ha rfl
  rw [h4 354 (by rw [h.1]; omega)]; exact h.2.2.1
/-- a store into the world, ahead of its law, at no place that is bound -/
theorem wk_free {n : Nat} {f : Nat → Int32} (i : Nat) (x : Int32) (hi : i < 354) (h0 : i ≠ 0) (h1 : i ≠ 1) (h10 : i ≠ 10) (hf : ∀ j, j < 12 → i ≠ 42 + 6 * j) (h : aok 31 n f) : aok 31 n (upd f i x) := by
  obtain ⟨g1, ⟨w1, w2, w3, w4⟩, w5, w6⟩ := h
  have e : ∀ k : Nat, k ≠ i → upd f i x k = f k := fun k hk => by simp [upd, hk]
  refine ⟨g1, ⟨by rw [e 0 (Ne.symm h0)]; exact w1, by rw [e 1 (Ne.symm h1)]; exact w2, by rw [e 10 (Ne.symm h10)]; exact w3, fun j hj => by rw [e _ (Ne.symm (hf j hj))]; exact w4 j hj⟩, by rw [e 354 (by omega)]; exact w5, fun k hk => ?_⟩
  rw [e 354 (by omega)] at hk
  obtain ⟨b, e9, h1, h2, h3, h4, h5⟩ := w6 k hk
  have ee : (fun i_1 => upd f i x (403 + 2 * i_1)) = (fun i_1 => f (403 + 2 * i_1)) := by
    funext q
    exact e _ (by omega)
  exact ⟨b, e9, by rw [e _ (by omega)]; exact h1, by rw [e _ (by omega)]; exact h2, h3, h4, by rw [ee]; exact h5⟩
end Lens
section Rows3
variable {p : Program} {l : Launch} {e : Env} {R : Room} {s : State} {m : MethodId} {args : Array Value} {below : List Frame} {meth : Method} {c : Code} {H H0 : Heap} {locs : List Loc} {cells slots : Nat} {Q : State → Prop}
variable {cc : ByteArray} {pc nL : Nat} {ls : Array Slot} {rest : List Value} {D : DD} {G : Nat → Nat} {own : String} {E : List (Nat × Nat)}
theorem q_grD (C : Cx D G p s m args meth c own cc nL) (hO : Ok D G H) {a r ci N : Nat} {Cn : String} {T : u_T} (ha : G a = r) (k : Nat) {index q q2 : Nat} {x y : Int} {ref : String} (hlink : Cond.fieldLink own index ref (T k).2.1 (T k).2.2.1 ∈ lw_good) (hdg : decode cc pc = .ok (.getfield index, 3)) (hr : ro r = some (ci, N)) (hc : vwCl[ci]? = some (Cn, T, N)) (hk : k < N) (ht : ft r k = (1, q, q2, x, y)) (h0 : r ≠ 0) (hs : ref = (T k).1)
    (kk : (G (fR D H ci a k) = q ∨ G (fR D H ci a k) = q2) → W p l e R s m args below meth c H locs cells slots Q (F0 m (pc + 3) ls (.ref (fR D H ci a k) :: rest))) : W p l e R s m args below meth c H locs cells slots Q (F0 m pc ls (.ref a :: rest)) := by
  refine q_get C hO ha hr hc hk hlink (fun x h => by rw [hs]; exact h) h0 hdg ?_
  rw [(hO.fr ha hr hk ht h0).1]
  exact kk (hO.fr ha hr hk ht h0).2
theorem q_grS (C : Cx D G p s m args meth c own cc nL) (hO : Ok D G H) {a r ci N : Nat} {Cn : String} {T : u_T} (ha : G a = r) (k : Nat) {index q : Nat} {x y : Int} {ref : String} (hlink : Cond.fieldLink own index ref (T k).2.1 (T k).2.2.1 ∈ lw_good) (hdg : decode cc pc = .ok (.getfield index, 3)) (hr : ro r = some (ci, N)) (hc : vwCl[ci]? = some (Cn, T, N)) (hk : k < N) (ht : ft r k = (1, q, q, x, y)) (h0 : r ≠ 0) (hs : Cond.sameField ref (T k).1 (T k).2.1 (T k).2.2.1 ∈ lw_good)
    (kk : G (fR D H ci a k) = q → W p l e R s m args below meth c H locs cells slots Q (F0 m (pc + 3) ls (.ref (fR D H ci a k) :: rest))) : W p l e R s m args below meth c H locs cells slots Q (F0 m pc ls (.ref a :: rest)) := by
  refine q_get C hO ha hr hc hk hlink (u_same (C.2.2.2.2.1 _ hs)) h0 hdg ?_
  rw [(hO.fr ha hr hk ht h0).1]
  exact kk (hO.rol ha hr hk ht h0)
theorem q_gn (C : Cx D G p s m args meth c own cc nL) (hO : Ok D G H) {a r ci N : Nat} {Cn : String} {T : u_T} (ha : G a = r) (k : Nat) {index q : Nat} {x y : Int} {ref : String} (hlink : Cond.fieldLink own index ref (T k).2.1 (T k).2.2.1 ∈ lw_good) (hdg : decode cc pc = .ok (.getfield index, 3)) (hr : ro r = some (ci, N)) (hc : vwCl[ci]? = some (Cn, T, N)) (hk : k < N) (ht : ft r k = (2, q, q, x, y)) (h0 : r ≠ 0) (hs : ref = (T k).1)
    (kn : fV D H ci a k = .null → W p l e R s m args below meth c H locs cells slots Q (F0 m (pc + 3) ls (.null :: rest)))
    (kk : fV D H ci a k = .ref (fR D H ci a k) → G (fR D H ci a k) = q → W p l e R s m args below meth c H locs cells slots Q (F0 m (pc + 3) ls (.ref (fR D H ci a k) :: rest))) : W p l e R s m args below meth c H locs cells slots Q (F0 m pc ls (.ref a :: rest)) := by
  refine q_get C hO ha hr hc hk hlink (fun x h => by rw [hs]; exact h) h0 hdg ?_
  rcases ((hO.ob ha hr h0).2 k hk).2.2 (by rw [ht]) with h | ⟨b, h1, h2⟩
  · rw [h]
    exact kn h
  · have e1 : fR D H ci a k = b := by unfold fR; rw [h1]; rfl
    rw [ht] at h2
    rw [h1, ← e1]
    refine kk (by rw [h1, e1]) ?_
    rw [e1]
    exact h2.elim id id
end Rows3
