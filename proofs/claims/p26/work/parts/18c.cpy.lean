/-! an array copied element by element: meanwhile it plays no role -/
def mix (fd fs : Nat → Int32) (od os k : Nat) : Nat → Int32 := fun j => if od ≤ j ∧ j < od + k then fs (os + (j - od)) else fd j
def Cp (D : DD) (G : Nat → Nat) (B H : Heap) (L : List Loc) (d n : Nat) (fd fs : Nat → Int32) (od os k : Nat) : Prop :=
  H[d]? = some (arrCell (D.2 0) n (mix fd fs od os k)) ∧ (∀ q : Nat, q ≠ d → H[q]? = B[q]?) ∧ H.size = B.size ∧ ∀ z ∈ L, G z.base ≠ 0
theorem mix_0 {fd fs : Nat → Int32} {od os : Nat} : mix fd fs od os 0 = fd := by
  funext j
  unfold mix
  rw [if_neg (by omega)]
theorem mix_s {fd fs : Nat → Int32} {od os k : Nat} : mix fd fs od os (k + 1) = upd (mix fd fs od os k) (od + k) (fs (os + k)) := by
  funext j
  unfold mix upd
  by_cases h : j = od + k
  · rw [if_pos (by omega), if_pos h, show os + (j - od) = os + k by omega]
  · rw [if_neg h]
    by_cases h2 : od ≤ j ∧ j < od + k
    · rw [if_pos (by omega)]; exact (if_pos h2).symm
    · rw [if_neg (by omega)]; exact (if_neg h2).symm
theorem Cp.start {D : DD} {G : Nat → Nat} {E : List (Nat × Nat)} {H0 B : Heap} {L : List Loc} {d n : Nat} {fd fs : Nat → Int32} {od os : Nat} (S : Sd D G E H0 B L) (h : B[d]? = some (arrCell (D.2 0) n fd)) : Cp D G B B L d n fd fs od os 0 :=
  ⟨by rw [mix_0]; exact h, fun _ _ => rfl, rfl, S.2.2⟩
theorem Cp.step {D : DD} {G : Nat → Nat} {B H H1 : Heap} {L : List Loc} {d n : Nat} {fd fs : Nat → Int32} {od os k i : Nat} {x : Int32} (h : Cp D G B H L d n fd fs od os k) (e1 : H1[d]? = some (arrCell (D.2 0) n (upd (mix fd fs od os k) i x))) (e2 : H1.size = H.size) (e3 : ∀ q : Nat, q ≠ d → H1[q]? = H[q]?) (hi : i = od + k) (hx : x = fs (os + k)) (hd : G d ≠ 0) : Cp D G B H1 (L ++ [⟨d, i⟩]) d n fd fs od os (k + 1) := by
  refine ⟨by rw [mix_s, ← hi, ← hx]; exact e1, fun q hq => (e3 q hq).trans (h.2.1 q hq), e2.trans h.2.2.1, fun z hz => ?_⟩
  rcases List.mem_append.mp hz with h1 | h1
  · exact h.2.2.2 z h1
  · rw [List.mem_singleton.mp h1]; exact hd
theorem Cp.done {D : DD} {G : Nat → Nat} {E : List (Nat × Nat)} {H0 B H : Heap} {L L0 : List Loc} {d n r : Nat} {fd fs : Nat → Int32} {od os k : Nat} (S : Sd D G E H0 B L0) (h : Cp D G B H L d n fd fs od os k) (hd : G d = r) (hr : ri r = some 0) (h0 : r ≠ 0) (hE : (r, 0) ∈ E) (hn : n < 2147483648) (hok : aok r n (mix fd fs od os k)) (hs : r = 31 → (31, 1) ∈ E ∨ False := by first | exact fun h => absurd h (by decide) | exact fun _ => Or.inl (by decide +kernel)) : Sd D G E H0 H L := by
  obtain ⟨g1, g2, g3, g4⟩ := h
  have hro : ro r = none := by
    cases h : ro r with
    | none => rfl
    | some x => exact (ro_ri h hr).elim
  refine ⟨fun a q ha hq => ?_, S.2.1.trans ⟨by rw [g3]; exact Nat.le_refl _, fun q _ hq => g2 q (fun z => by rw [z, hd] at hq; exact h0 hq), fun q rq hq hq0 => ⟨fun ci N hN j hj hjE => fV_of (g2 q (fun z => ?_)) _ _, fun hn9 hE9 => g2 q (fun z => ?_), fun z8 hE9 k9 _ => congrArg vI (eV_of (g2 q (fun z => (hs (by rw [← hd, ← z, hq, z8])).elim (fun y => hE9 y) (fun y => y))) _)⟩⟩, g4⟩
  · by_cases e : a = d
    · subst e
      have : q = r := ha.symm.trans hd
      subst this
      refine ⟨fun ci N h9 => (by rw [hro] at h9; cases h9), fun t h9 => ?_, fun t n9 q9 h9 => (ri_rr hr h9).elim, (Array.getElem?_eq_some_iff.mp g1).1⟩
      have h2 := hr.symm.trans h9
      simp only [Option.some.injEq] at h2
      subst h2
      exact ⟨_, _, g1, hn, hok⟩
    · obtain ⟨w1, w2, w3, w4⟩ := S.1 a q ha hq
      exact ⟨fun ci N h9 => by obtain ⟨V, z1, z2⟩ := w1 ci N h9; exact ⟨V, z1.kept (g2 a e), z2⟩, fun t h9 => by obtain ⟨n9, f9, z1, z2⟩ := w2 t h9; exact ⟨n9, f9, by rw [g2 a e]; exact z1, z2⟩, fun t n9 q9 h9 => by obtain ⟨f9, z1, z2⟩ := w3 t n9 q9 h9; exact ⟨f9, by rw [g2 a e]; exact z1, z2⟩, by rw [g3]; exact w4⟩
  · subst z
    rw [← hq, hd, hro] at hN
    cases hN
  · subst z
    exact hE9 (by rw [← hq, hd]; exact hE)
section RawRows
variable {p : Program} {l : Launch} {e : Env} {R : Room} {s : State} {m : MethodId} {args : Array Value} {below : List Frame} {meth : Method} {c : Code} {H B : Heap} {locs : List Loc} {cells slots : Nat} {Q : State → Prop}
variable {cc : ByteArray} {pc nL : Nat} {ls : Array Slot} {rest : List Value} {D : DD} {G : Nat → Nat} {own : String} {E : List (Nat × Nat)}
theorem q_grB (C : Cx D G p s m args meth c own cc nL) (hO : Ok D G B) {a r ci N : Nat} (hB : H[a]? = B[a]?) {Cn : String} {T : u_T} (ha : G a = r) (k : Nat) {index q : Nat} {x y : Int} {ref : String} (hlink : Cond.fieldLink own index ref (T k).2.1 (T k).2.2.1 ∈ lw_good) (hdg : decode cc pc = .ok (.getfield index, 3)) (hr : ro r = some (ci, N)) (hc : vwCl[ci]? = some (Cn, T, N)) (hk : k < N) (ht : ft r k = (1, q, q, x, y)) (h0 : r ≠ 0) (hs : ref = (T k).1)
    (kk : W p l e R s m args below meth c H locs cells slots Q (F0 m (pc + 3) ls (.ref (fR D B ci a k) :: rest))) : W p l e R s m args below meth c H locs cells slots Q (F0 m pc ls (.ref a :: rest)) := by
  obtain ⟨hx, hb, hml, hown, hts, -, hK, -⟩ := C
  obtain ⟨⟨cell, q1, q2, q3, q4⟩, -⟩ := hO.ob ha hr h0
  obtain ⟨hS, hfc, kC, hkC, hkind⟩ := hK.1 ci _ hc
  obtain ⟨cf, kf, fi, f, hi, hsl⟩ := hS k hk
  refine W.getf hx hb hown (hts _ hlink) (by rw [hs]; exact hi) (u_facts hfc hkC (u_lays hts (vw_in hc).1 hk) hi).1 (hB.trans q1) (by rw [q3]; exact fun h => by cases h) (v := fV D B ci a k) ?_ rfl rfl hdg ?_
  · rw [hsl]
    exact q4 k hk
  · rw [(hO.fr ha hr hk ht h0).1]
    exact kk
theorem q_iaB (C : Cx D G p s m args meth c own cc nL) {a n : Nat} {f : Nat → Int32} (g1 : H[a]? = some (arrCell (D.2 0) n f)) {i v : Int32} (h1 : 0 ≤ i.toInt) (h2 : i.toInt < n) (hv : f i.toInt.toNat = v) (hdg : decode cc pc = .ok (.iaload, 1))
    (kk : W p l e R s m args below meth c H locs cells slots Q (F0 m (pc + 1) ls (.int v :: rest))) : W p l e R s m args below meth c H locs cells slots Q (F0 m pc ls (.int i :: .ref a :: rest)) := by
  have hA := (C.2.2.2.2.2.2.1).2 0 _ rfl
  refine W.iald (v := .int v) C.1 C.2.1 g1 (hA.1 n (fun j => .int (f j))) (fun q => by cases q) (by rw [arr_size]; exact i_vin h1 h2) ?_ rfl rfl hdg kk
  rw [i_clamp, arr_read _ _ (by omega), hv]
theorem q_isB (C : Cx D G p s m args meth c own cc nL) {a n : Nat} {f : Nat → Int32} (g1 : H[a]? = some (arrCell (D.2 0) n f)) {i x : Int32} (h1 : 0 ≤ i.toInt) (h2 : i.toInt < n) (hdg : decode cc pc = .ok (.iastore, 1))
    (kk : ∀ H1 : Heap, H1[a]? = some (arrCell (D.2 0) n (upd f i.toInt.toNat x)) → H1.size = H.size → (∀ q : Nat, q ≠ a → H1[q]? = H[q]?) → W p l e R s m args below meth c H1 (locs ++ [⟨a, i.toInt.toNat⟩]) cells slots Q (F0 m (pc + 1) ls rest)) : W p l e R s m args below meth c H locs cells slots Q (F0 m pc ls (.int x :: .int i :: .ref a :: rest)) := by
  have hA := (C.2.2.2.2.2.2.1).2 0 _ rfl
  refine W.iast C.1 C.2.1 g1 (hA.1 n (fun j => .int (f j))) (fun q => by cases q) (by rw [arr_size]; exact i_vin h1 h2) rfl rfl hdg fun H1 e1 e2 e3 => ?_
  rw [arr_store] at e1
  exact kk H1 e1 e2 e3
end RawRows
/-- the parts of a world that its roles speak of lie below 1203 -/
theorem wl_low {f g : Nat → Int32} (h : WOKl f) (hg : ∀ j, j < 354 → g j = f j) : WOKl g := by
  unfold WOKl at h ⊢
  rw [hg 0 (by omega), hg 1 (by omega), hg 10 (by omega)]
  exact ⟨h.1, h.2.1, h.2.2.1, fun j hj => by rw [hg _ (by omega)]; exact h.2.2.2 j hj⟩
theorem lk_low {f g : Nat → Int32} (h : LOK f) (hg : ∀ j, j < 1203 → g j = f j) : LOK g := by
  unfold LOK at h ⊢
  rw [hg 354 (by omega)]
  refine ⟨h.1, fun n hn => ?_⟩
  obtain ⟨b, e, h1, h2, h3, h4, h5⟩ := h.2 n hn
  have h6 := h.1.2
  refine ⟨b, e, by rw [hg _ (by omega)]; exact h1, by rw [hg _ (by omega)]; exact h2, h3, h4, SK.congr _ _ _ (fun k h7 h8 => hg _ (by omega)) h5⟩
theorem aok_31 {f : Nat → Int32} {n : Nat} : aok 31 n f ↔ (n = 2052 ∧ WOKl f ∧ LOK f) := Iff.rfl
theorem aok_32 {f : Nat → Int32} {n : Nat} : aok 32 n f ↔ (n = 1203 ∧ WOKl f ∧ LOK f) := Iff.rfl
theorem aok_33 {f : Nat → Int32} {n : Nat} : aok 33 n f ↔ (n = 1203 ∧ WOKl f ∧ LOK f) := Iff.rfl
theorem mix_low {fd fs : Nat → Int32} (h : WOKl fs ∧ LOK fs) : WOKl (mix fd fs 0 0 1203) ∧ LOK (mix fd fs 0 0 1203) := by
  have hg : ∀ j, j < 1203 → mix fd fs 0 0 1203 j = fs j := fun j hj => by
    unfold mix
    rw [if_pos (by omega), show 0 + (j - 0) = j by omega]
  exact ⟨wl_low h.1 (fun j hj => hg j (by omega)), lk_low h.2 hg⟩
/-- the draft's lines become the law -/
theorem mix_law {D : DD} {H : Heap} {a n : Nat} {f : Nat → Int32} (h : WOKl f) (hd : Dl D H a n) (hn : n ≤ 12) (h400 : (fI D H 11 a 16).toInt ≤ 400) (hf : ∀ j, j < 2052 → eI H (wA D H a) j = f j) (hc : (f 1203).toInt = n) : WOKl (mix f f 354 1203 849) ∧ LOK (mix f f 354 1203 849) := by
  have hg : ∀ j, 354 ≤ j → j < 1203 → mix f f 354 1203 849 j = f (849 + j) := fun j h1 h2 => by
    unfold mix
    rw [if_pos (by omega), show 1203 + (j - 354) = 849 + j by omega]
  refine ⟨wl_low h (fun j hj => by unfold mix; rw [if_neg (by omega)]), ?_⟩
  unfold LOK
  rw [hg 354 (by omega) (by omega), show (849 + 354 : Nat) = 1203 by rfl, hc]
  refine ⟨⟨by omega, by omega⟩, fun m hm => ?_⟩
  obtain ⟨b, e, h1, h2, h3, h4, h5⟩ := hd m (by omega)
  have e1 : f (849 + (357 + 4 * m)) = eI H (wA D H a) (1206 + 4 * m) := by rw [hf _ (by omega)]; exact congrArg f (by omega)
  have e2 : f (849 + (358 + 4 * m)) = eI H (wA D H a) (1207 + 4 * m) := by rw [hf _ (by omega)]; exact congrArg f (by omega)
  refine ⟨b, e, by rw [hg _ (by omega) (by omega), e1]; exact h1, by rw [hg _ (by omega) (by omega), e2]; exact h2, h3, by omega, SK.congr _ _ _ (fun k h7 h8 => ?_) h5⟩
  show mix f f 354 1203 849 (403 + 2 * k) = Cs D H a k
  rw [hg _ (by omega) (by omega)]
  show _ = eI H (wA D H a) (1252 + 2 * k)
  rw [hf _ (by omega)]
  exact congrArg f (by omega)
theorem Dl.pre {D : DD} {G : Nat → Nat} {H H1 : Heap} {a i n : Nat} {x : Int32} (hO : Ok D G H) (ga : G a = 30) (P : Pa H H1 (fR D H 11 a 1) i x) (hi : i < 1204) (h : Dl D H a n) (hn : n ≤ 12) (h400 : (fI D H 11 a 16).toInt ≤ 400) : Dl D H1 a n := fun m hm => by
  obtain ⟨b, e, h1, h2, h3, h4, h5⟩ := h m hm
  have gw : G (fR D H 11 a 1) = 31 := hO.rol ga rfl (by decide) rfl
  have e9 : (fI D H1 11 a 16).toInt = (fI D H 11 a 16).toInt := congrArg Int32.toInt (P.f (ne_role ga gw (by decide)))
  refine ⟨b, e, by rw [show eI H1 (wA D H1 a) (1206 + 4 * m) = _ from eA hO ga P (by omega) (by omega)]; exact h1, by rw [show eI H1 (wA D H1 a) (1207 + 4 * m) = _ from eA hO ga P (by omega) (by omega)]; exact h2, h3, by omega, ?_⟩
  exact SK.congr _ _ _ (fun k h6 h7 => eA hO ga P (by omega) (by omega)) h5
