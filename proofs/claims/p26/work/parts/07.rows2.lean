/-! numbers -/
theorem i_lt {a b : Int32} : a < b ↔ a.toInt < b.toInt := Int32.lt_iff_toInt_lt
theorem i_le {a b : Int32} : a ≤ b ↔ a.toInt ≤ b.toInt := Int32.le_iff_toInt_le
theorem i_eq {a b : Int32} : a = b ↔ a.toInt = b.toInt := Int32.toInt_inj.symm
theorem i_rng (a : Int32) : -2147483648 ≤ a.toInt ∧ a.toInt ≤ 2147483647 := by
  have h1 := Int32.le_toInt a
  have h2 := Int32.toInt_lt a
  omega
theorem i_bm {z : Int} (h1 : -2147483648 ≤ z) (h2 : z ≤ 2147483647) : z.bmod (2 ^ 32) = z := by
  rw [Int.bmod_def]
  omega
theorem i_add {a b : Int32} (h1 : -2147483648 ≤ a.toInt + b.toInt) (h2 : a.toInt + b.toInt ≤ 2147483647) : (a + b).toInt = a.toInt + b.toInt := by
  rw [Int32.toInt_add]; exact i_bm h1 h2
theorem i_sub {a b : Int32} (h1 : -2147483648 ≤ a.toInt - b.toInt) (h2 : a.toInt - b.toInt ≤ 2147483647) : (a - b).toInt = a.toInt - b.toInt := by
  rw [Int32.toInt_sub]; exact i_bm h1 h2
theorem i_mul {a b : Int32} (h1 : -2147483648 ≤ a.toInt * b.toInt) (h2 : a.toInt * b.toInt ≤ 2147483647) : (a * b).toInt = a.toInt * b.toInt := by
  rw [Int32.toInt_mul]; exact i_bm h1 h2
theorem i_rem {a b : Int32} (ha : 0 ≤ a.toInt) (hb : 0 < b.toInt) : (a - (a / b) * b).toInt = a.toInt % b.toInt := by
  rw [rem_toInt, Int.tmod_eq_emod_of_nonneg ha]
theorem i_remb {a b : Int32} (hb : 0 < b.toInt) : -b.toInt < (a - (a / b) * b).toInt ∧ (a - (a / b) * b).toInt < b.toInt := by
  rw [rem_toInt]; exact tmod_bounds hb
theorem i_clamp (a : Int32) : a.toNatClampNeg = a.toInt.toNat := rfl
theorem i_vin {a : Int32} {n : Nat} (h1 : 0 ≤ a.toInt) (h2 : a.toInt < n) : vp_in a n := vp_in_iff.mpr ⟨h1, h2⟩
theorem i_of {n : Nat} (h : n < 2147483648) : (Int32.ofNat n).toInt = n := nI_toInt (by omega)
section Rows2
variable {p : Program} {l : Launch} {e : Env} {R : Room} {s : State} {m : MethodId} {args : Array Value} {below : List Frame} {meth : Method} {c : Code} {H H0 : Heap} {locs : List Loc} {cells slots : Nat} {Q : State → Prop}
variable {cc : ByteArray} {pc nL : Nat} {ls : Array Slot} {rest : List Value} {D : DD} {G : Nat → Nat} {own : String} {E : List (Nat × Nat)}
theorem q_iald (C : Cx D G p s m args meth c own cc nL) (hO : Ok D G H) {a r : Nat} (ha : G a = r) {i : Int32} (h1 : 0 ≤ i.toInt) (h2 : i.toInt < aN H a) (hdg : decode cc pc = .ok (.iaload, 1)) (hr : ri r = some 0) (h0 : r ≠ 0)
    (kk : W p l e R s m args below meth c H locs cells slots Q (F0 m (pc + 1) ls (.int (eI H a i.toInt.toNat) :: rest))) : W p l e R s m args below meth c H locs cells slots Q (F0 m pc ls (.int i :: .ref a :: rest)) := by
  obtain ⟨f, g1, g2, -, g4⟩ := hO.ia ha hr h0
  have hlt : i.toInt.toNat < aN H a := by omega
  have hA := (C.2.2.2.2.2.2.1).2 0 _ rfl
  refine W.iald (v := .int (eI H a i.toInt.toNat)) C.1 C.2.1 g1 (hA.1 (aN H a) (fun j => .int (f j))) (fun q => by cases q) (by rw [arr_size]; exact i_vin h1 h2) ?_ rfl rfl hdg kk
  rw [i_clamp, arr_read _ _ hlt, g4 _ hlt]
theorem q_bald (C : Cx D G p s m args meth c own cc nL) (hO : Ok D G H) {a r : Nat} (ha : G a = r) {i : Int32} (h1 : 0 ≤ i.toInt) (h2 : i.toInt < aN H a) (hdg : decode cc pc = .ok (.baload, 1)) (hr : ri r = some 1) (h0 : r ≠ 0)
    (kk : W p l e R s m args below meth c H locs cells slots Q (F0 m (pc + 1) ls (.int (eI H a i.toInt.toNat) :: rest))) : W p l e R s m args below meth c H locs cells slots Q (F0 m pc ls (.int i :: .ref a :: rest)) := by
  obtain ⟨f, g1, g2, -, g4⟩ := hO.ia ha hr h0
  have hlt : i.toInt.toNat < aN H a := by omega
  have hA := (C.2.2.2.2.2.2.1).2 1 _ rfl
  refine W.bald (v := .int (eI H a i.toInt.toNat)) C.1 C.2.1 g1 (hA.1 (aN H a) (fun j => .int (f j))) (fun q => by cases q) (by rw [arr_size]; exact i_vin h1 h2) ?_ rfl rfl hdg kk
  rw [i_clamp, arr_read _ _ hlt, g4 _ hlt]
theorem q_aald (C : Cx D G p s m args meth c own cc nL) (hO : Ok D G H) {a r t n q : Nat} {ty : FieldType} (ha : G a = r) {i : Int32} (h1 : 0 ≤ i.toInt) (h2 : i.toInt < n) (hdg : decode cc pc = .ok (.aaload, 1)) (hr : rr r = some (t, n, q)) (h0 : r ≠ 0) (ht : (kn_tys D)[t]? = some (D.2 t, ty)) (hty : ty.isReference = true)
    (kk : G (eR H a i.toInt.toNat) = q → W p l e R s m args below meth c H locs cells slots Q (F0 m (pc + 1) ls (.ref (eR H a i.toInt.toNat) :: rest))) : W p l e R s m args below meth c H locs cells slots Q (F0 m pc ls (.int i :: .ref a :: rest)) := by
  obtain ⟨g, g1, g2⟩ := hO.ra ha hr h0
  have hlt : i.toInt.toNat < n := by omega
  have hA := (C.2.2.2.2.2.2.1).2 t _ ht
  refine W.aald (v := .ref (eR H a i.toInt.toNat)) (ty := ty) C.1 C.2.1 g1 (hA.1 n (fun j => .ref (g j))) hty (fun q => by cases q) (by rw [arrV_size]; exact i_vin h1 h2) ?_ rfl rfl hdg (kk (g2 _ hlt).2)
  rw [i_clamp, arrV_read _ _ hlt, (g2 _ hlt).1]
theorem q_alen (C : Cx D G p s m args meth c own cc nL) (hO : Ok D G H) {a r t : Nat} {ty : FieldType} (ha : G a = r) (hdg : decode cc pc = .ok (.arraylength, 1)) (hr : ri r = some t) (h0 : r ≠ 0) (ht : (kn_tys D)[t]? = some (D.2 t, ty))
    (kk : ∀ n : Int32, n.toInt = aN H a → W p l e R s m args below meth c H locs cells slots Q (F0 m (pc + 1) ls (.int n :: rest))) : W p l e R s m args below meth c H locs cells slots Q (F0 m pc ls (.ref a :: rest)) := by
  obtain ⟨f, g1, g2, -, g4⟩ := hO.ia ha hr h0
  have hA := (C.2.2.2.2.2.2.1).2 t _ ht
  exact W.alen C.1 C.2.1 g1 (hA.1 (aN H a) (fun j => .int (f j))) (arr_len32 _ _ _) rfl rfl hdg (kk _ (i_of g2))
/-- what an array's store leaves -/
def Pa (H H' : Heap) (a i : Nat) (x : Int32) : Prop := (∀ j, j < aN H a → eI H' a j = if j = i then x else eI H a j) ∧ aN H' a = aN H a ∧ (∀ q : Nat, q ≠ a → H'[q]? = H[q]?) ∧ H'.size = H.size
theorem q_ast {a r t : Nat} {f : Nat → Int32} {i : Nat} {x : Int32} {H' : Heap} (S : Sd D G E H0 H locs) (ha : G a = r) (hr : ri r = some t) (h0 : r ≠ 0) (hE : (r, 0) ∈ E)
    (g1 : H[a]? = some (arrCell (D.2 t) (aN H a) f)) (g2 : aN H a < 2147483648) (g4 : ∀ i, i < aN H a → eI H a i = f i) (hok : aok r (aN H a) (upd f i x))
    (e1 : H'[a]? = some ((arrCell (D.2 t) (aN H a) f).setSlot i (.int x))) (e2 : H'.size = H.size) (e3 : ∀ q : Nat, q ≠ a → H'[q]? = H[q]?) (hs : r = 31 → (31, 1) ∈ E ∨ ∀ k, k < 22 → i ≠ vy k) : Sd D G E H0 H' (locs ++ [⟨a, i⟩]) ∧ Pa H H' a i x := by
  obtain ⟨hO, hKp, hL⟩ := S
  rw [arr_store] at e1
  have hro : ro r = none := by
    cases h : ro r with
    | none => rfl
    | some x => exact (ro_ri h hr).elim
  refine ⟨⟨?_, hKp.trans ⟨by rw [e2]; exact Nat.le_refl _, fun q _ hq => e3 q (fun z => by rw [z, ha] at hq; exact h0 hq), fun q rq hq hq0 => ⟨fun ci' N' h' j hj hjE => ?_, fun h' hn => e3 q (fun z => ?_), fun h31 hn k9 hk9 => ?_⟩⟩, ?_⟩, ?_, arr_aN e1, e3, e2⟩
  · intro q rq hq hq0
    by_cases hqa : q = a
    · subst hqa
      have : rq = r := hq.symm.trans ha
      subst this
      refine ⟨fun ci' N' h' => ?_, fun t' h' => ?_, fun t' n q' h' => ?_, (Array.getElem?_eq_some_iff.mp e1).1⟩
      · rw [hro] at h'; cases h'
      · have h2 := hr.symm.trans h'
        simp only [Option.some.injEq] at h2
        subst h2
        exact ⟨_, _, e1, g2, hok⟩
      · exact (ri_rr hr h').elim
    · obtain ⟨w1, w2, w3, w4⟩ := hO q rq hq hq0
      refine ⟨fun ci' N' h' => ?_, fun t h' => ?_, fun t n q' h' => ?_, by rw [e2]; exact w4⟩
      · obtain ⟨V, z1, z2⟩ := w1 ci' N' h'
        exact ⟨V, z1.kept (e3 q hqa), z2⟩
      · obtain ⟨n, g, z1, z2⟩ := w2 t h'
        exact ⟨n, g, by rw [e3 q hqa]; exact z1, z2⟩
      · obtain ⟨g, z1, z2⟩ := w3 t n q' h'
        exact ⟨g, by rw [e3 q hqa]; exact z1, z2⟩
  · refine fV_of (e3 q (fun z => ?_)) _ _
    subst z
    rw [← hq, ha, hro] at h'
    cases h'
  · subst z
    exact hn (by rw [← hq, ha]; exact hE)
  · by_cases hqa : q = a
    · have z8 : r = 31 := by rw [← ha, ← hqa, hq, h31]
      have hlen : aN H a = 2052 := by
        rw [z8] at hok
        exact hok.1
      have hlt : vy k9 < aN H a := by
        have := vy_lt hk9
        omega
      rcases hs z8 with h8 | h8
      · exact absurd h8 hn
      · rw [hqa, (arr_eI e1 hlt).2, g4 _ hlt]
        unfold upd
        rw [if_neg (fun z => h8 k9 hk9 z.symm)]
    · exact congrArg vI (eV_of (e3 q hqa) _)
  · intro z hz
    rcases List.mem_append.mp hz with h1 | h1
    · exact hL z h1
    · rw [List.mem_singleton.mp h1]
      show G a ≠ 0
      rw [ha]; exact h0
  · intro j hj
    rw [(arr_eI e1 hj).2]
    unfold upd
    by_cases hji : j = i
    · rw [if_pos hji, if_pos hji]
    · rw [if_neg hji, if_neg hji, g4 j hj]
theorem q_iast (C : Cx D G p s m args meth c own cc nL) (S : Sd D G E H0 H locs) {a r : Nat} (ha : G a = r) {i x : Int32} (h1 : 0 ≤ i.toInt) (h2 : i.toInt < aN H a) (hdg : decode cc pc = .ok (.iastore, 1)) (hr : ri r = some 0) (h0 : r ≠ 0) (hE : (r, 0) ∈ E)
    (hok : ∀ f : Nat → Int32, (∀ j, j < aN H a → eI H a j = f j) → aok r (aN H a) f → aok r (aN H a) (upd f i.toInt.toNat x))
    (kk : ∀ (H1 : Heap) (locs1 : List Loc), Sd D G E H0 H1 locs1 → Pa H H1 a i.toInt.toNat x → W p l e R s m args below meth c H1 locs1 cells slots Q (F0 m (pc + 1) ls rest)) (hs : r = 31 → (31, 1) ∈ E ∨ ∀ k, k < 22 → i.toInt.toNat ≠ vy k := by exact fun h => absurd h (by decide)) : W p l e R s m args below meth c H locs cells slots Q (F0 m pc ls (.int x :: .int i :: .ref a :: rest)) := by
  obtain ⟨f, g1, g2, g3, g4⟩ := S.1.ia ha hr h0
  have hA := (C.2.2.2.2.2.2.1).2 0 _ rfl
  refine W.iast C.1 C.2.1 g1 (hA.1 (aN H a) (fun j => .int (f j))) (fun q => by cases q) (by rw [arr_size]; exact i_vin h1 h2) rfl rfl hdg fun H1 e1 e2 e3 => ?_
  obtain ⟨S', P'⟩ := q_ast S ha hr h0 hE g1 g2 g4 (hok f g4 g3) e1 e2 e3 hs
  exact kk H1 _ S' P'
theorem q_bast (C : Cx D G p s m args meth c own cc nL) (S : Sd D G E H0 H locs) {a r : Nat} (ha : G a = r) {i x : Int32} (h1 : 0 ≤ i.toInt) (h2 : i.toInt < aN H a) (hdg : decode cc pc = .ok (.bastore, 1)) (hr : ri r = some 1) (h0 : r ≠ 0) (hE : (r, 0) ∈ E)
    (hok : ∀ (f : Nat → Int32) (y : Int32), aok r (aN H a) f → aok r (aN H a) (upd f i.toInt.toNat y))
    (kk : ∀ (H1 : Heap) (locs1 : List Loc) (y : Int32), y = vp_nar .byte x → Sd D G E H0 H1 locs1 → Pa H H1 a i.toInt.toNat y → W p l e R s m args below meth c H1 locs1 cells slots Q (F0 m (pc + 1) ls rest)) : W p l e R s m args below meth c H locs cells slots Q (F0 m pc ls (.int x :: .int i :: .ref a :: rest)) := by
  obtain ⟨f, g1, g2, g3, g4⟩ := S.1.ia ha hr h0
  have hA := (C.2.2.2.2.2.2.1).2 1 _ rfl
  refine W.bast C.1 C.2.1 g1 (hA.1 (aN H a) (fun j => .int (f j))) (fun q => by cases q) (by rw [arr_size]; exact i_vin h1 h2) rfl rfl hdg fun H1 e1 e2 e3 => ?_
  have e1' : H1[a]? = some ((arrCell (D.2 1) (aN H a) f).setSlot i.toNatClampNeg (.int (vp_nar .byte x))) := e1
  obtain ⟨S', P'⟩ := q_ast S ha hr h0 hE g1 g2 g4 (hok f _ g3) e1' e2 e3 (fun h => by rw [h] at hr; cases hr)
  exact kk H1 _ _ rfl S' P'
end Rows2
